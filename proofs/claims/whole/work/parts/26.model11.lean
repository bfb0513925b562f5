set_option maxHeartbeats 4000000 in
set_option maxRecDepth 20000 in
theorem c_Mod_isSign (G : ZG) (o : Nat) (ad : Nat → Nat) (F : Nat → Int32) (R : Nat → Nat → Int32) (X : va_W) (c : Nat → Int32) (fs n p : Nat) (hc : ∀ j, j < n → R 4 (fs + j) = c j) (hfn : fs + n ≤ 240) (hp : p ≤ n) (e16 : F 16 = nI (fs + p)) (k : Int32) : ZM G y_Mod_isSign b_Mod_isSign 3 (some .boolean) r_Mod_isSign [.ref o, .int (nI (fs + n)), .int k] (mw G o ad F R ++ X) (zdi (zB (p < n ∧ c p = k)) (mw G o ad (adv F (fs + p) (if p < n ∧ c p = k then some 0 else none)) R ++ X)) := by
  refine ZM.of "SameTuesdayModel" "isSign" rfl rfl (by decide) (Nat.le_of_ble_eq_true rfl) (fun Y C hq => ?_)
  change ZV G Y 0 0 0 [(0, .ref o), (1, .int (nI (fs + n))), (2, .int k)] [] (mw G o ad F R ++ X)
  by_cases hpn : p < n
  · have ec := hc p hpn
    refine zx_aload C d_Mod_isSign_0 rfl ?_
    refine zm_g C f_Mod_93_12 d_Mod_isSign_1 rfl ?_
    refine zx_iload C d_Mod_isSign_4 rfl ?_
    refine zx_ic_ge C d_Mod_isSign_5 (fun h5 => ?_) (fun h5 => ?_)
    · exact absurd h5 (by rw [e16]; exact nI_ge (by omega) (by omega))
    · refine zx_aload C d_Mod_isSign_8 rfl ?_
      refine zm_g C f_Mod_16_12 d_Mod_isSign_9 rfl ?_
      refine zx_aload C d_Mod_isSign_12 rfl ?_
      refine zm_g C f_Mod_93_12 d_Mod_isSign_13 rfl ?_
      refine zm_ld4 C d_Mod_isSign_16 (fs + p) e16 (by omega) ?_
      rw [ec]
      refine zx_iload C d_Mod_isSign_17 rfl ?_
      refine zx_ic_eq C d_Mod_isSign_18 (fun h18 => ?_) (fun h18 => ?_)
      · have hs : p < n ∧ c p = k := ⟨hpn, h18⟩
        have ev : mw G o ad (upd F 16 (F 16 + 1)) R ++ X = mw G o ad (adv F (fs + p) (if p < n ∧ c p = k then some 0 else none)) R ++ X := by rw [if_pos hs, e16, ← nI_succ]; rfl
        have er : (1 : Int32) = zB (p < n ∧ c p = k) := (zB_t hs).symm
        refine zx_aload C d_Mod_isSign_23 rfl ?_
        refine zx_dup C rfl d_Mod_isSign_24 ?_
        refine zm_g C f_Mod_93_12 d_Mod_isSign_25 rfl ?_
        refine zx_ic C d_Mod_isSign_28 ?_
        refine zx_iadd C d_Mod_isSign_29 ?_
        refine zm_p C p_Mod_93_12 d_Mod_isSign_30 zb_fit_i (Nat.le_of_ble_eq_true rfl) zms_16 ?_
        refine zx_ic C d_Mod_isSign_33 ?_
        exact zx_zret C hq (by decide) d_Mod_isSign_34 (⟨by rw [er], ev⟩)
      · have hs : ¬ (p < n ∧ c p = k) := fun z => h18 z.2
        have ev : mw G o ad F R ++ X = mw G o ad (adv F (fs + p) (if p < n ∧ c p = k then some 0 else none)) R ++ X := by rw [if_neg hs]; rfl
        have er : (0 : Int32) = zB (p < n ∧ c p = k) := (zB_f hs).symm
        refine zx_ic C d_Mod_isSign_21 ?_
        exact zx_zret C hq (by decide) d_Mod_isSign_22 (⟨by rw [er], ev⟩)
  · have hs : ¬ (p < n ∧ c p = k) := fun z => hpn z.1
    have ev : mw G o ad F R ++ X = mw G o ad (adv F (fs + p) (if p < n ∧ c p = k then some 0 else none)) R ++ X := by rw [if_neg hs]; rfl
    have er : (0 : Int32) = zB (p < n ∧ c p = k) := (zB_f hs).symm
    refine zx_aload C d_Mod_isSign_0 rfl ?_
    refine zm_g C f_Mod_93_12 d_Mod_isSign_1 rfl ?_
    refine zx_iload C d_Mod_isSign_4 rfl ?_
    refine zx_ic_ge C d_Mod_isSign_5 (fun h5 => ?_) (fun h5 => ?_)
    · refine zx_ic C d_Mod_isSign_21 ?_
      exact zx_zret C hq (by decide) d_Mod_isSign_22 (⟨by rw [er], ev⟩)
    · exact absurd (by rw [e16]; exact nI_le (by omega) (by omega)) h5
set_option maxHeartbeats 4000000 in
set_option maxRecDepth 20000 in
theorem c_Mod_digit (G : ZG) (o : Nat) (ad : Nat → Nat) (F : Nat → Int32) (R : Nat → Nat → Int32) (X : va_W) (c : Nat → Int32) (fs n p : Nat) (hc : ∀ j, j < n → R 4 (fs + j) = c j) (hfn : fs + n ≤ 240) (hp : p ≤ n) (e16 : F 16 = nI (fs + p)) (lo hi : Nat) (hlo : lo ≤ 9) (hhi : hi ≤ 9) : ZM G y_Mod_digit b_Mod_digit 4 (some .int) r_Mod_digit [.ref o, .int (nI (fs + n)), .int (nI lo), .int (nI hi)] (mw G o ad F R ++ X) (zdi (bzv (dg c n p lo hi)) (mw G o ad (adv F (fs + p) (dg c n p lo hi)) R ++ X)) := by
  refine ZM.of "SameTuesdayModel" "digit" rfl rfl (by decide) (Nat.le_of_ble_eq_true rfl) (fun Y C hq => ?_)
  change ZV G Y 0 0 0 [(0, .ref o), (1, .int (nI (fs + n))), (2, .int (nI lo)), (3, .int (nI hi))] [] (mw G o ad F R ++ X)
  by_cases hpn : p < n
  · have ec := hc p hpn
    have a48 : (48 : Int32) + nI lo = nI (48 + lo) := by rw [show (48 : Int32) = nI 48 from rfl, nI_add]
    have b48 : (48 : Int32) + nI hi = nI (48 + hi) := by rw [show (48 : Int32) = nI 48 from rfl, nI_add]
    refine zx_aload C d_Mod_digit_0 rfl ?_
    refine zm_g C f_Mod_93_12 d_Mod_digit_1 rfl ?_
    refine zx_iload C d_Mod_digit_4 rfl ?_
    refine zx_ic_ge C d_Mod_digit_5 (fun h5 => ?_) (fun h5 => ?_)
    · exact absurd h5 (by rw [e16]; exact nI_ge (by omega) (by omega))
    · refine zx_aload C d_Mod_digit_8 rfl ?_
      refine zm_g C f_Mod_16_12 d_Mod_digit_9 rfl ?_
      refine zx_aload C d_Mod_digit_12 rfl ?_
      refine zm_g C f_Mod_93_12 d_Mod_digit_13 rfl ?_
      refine zm_ld4 C d_Mod_digit_16 (fs + p) e16 (by omega) ?_
      rw [ec]
      refine zx_ic C d_Mod_digit_17 ?_
      refine zx_iload C d_Mod_digit_19 rfl ?_
      refine zx_iadd C d_Mod_digit_20 ?_
      refine zx_ic C d_Mod_digit_21 ?_
      refine zx_iload C d_Mod_digit_23 rfl ?_
      refine zx_iadd C d_Mod_digit_24 ?_
      rw [a48, b48]
      refine zr_di (zr_S C l_Mod_83 d_Mod_digit_25 (As := [_, _, _]) rfl rfl (Nat.le_of_ble_eq_true rfl) (c_Mod_within G _ _ _ _) ⟨Nat.le_of_ble_eq_true rfl, Nat.le_of_ble_eq_true rfl, Nat.le_of_ble_eq_true rfl, Nat.le_of_ble_eq_true rfl⟩) ?_
      refine zx_ifB_ne C d_Mod_digit_28 (fun h28 => ?_) (fun h28 => ?_)
      · obtain ⟨x, hd⟩ : ∃ x, dg c n p lo hi = some x := ⟨_, if_pos ⟨hpn, h28⟩⟩
        have hx := dg_some hlo hhi hd
        refine zx_aload C d_Mod_digit_34 rfl ?_
        refine zx_dup C rfl d_Mod_digit_35 ?_
        refine zm_g C f_Mod_93_12 d_Mod_digit_36 rfl ?_
        refine zx_ic C d_Mod_digit_39 ?_
        refine zx_iadd C d_Mod_digit_40 ?_
        refine zm_p C p_Mod_93_12 d_Mod_digit_41 zb_fit_i (Nat.le_of_ble_eq_true rfl) zms_16 ?_
        refine zx_aload C d_Mod_digit_44 rfl ?_
        refine zm_g C f_Mod_16_12 d_Mod_digit_45 rfl ?_
        refine zx_aload C d_Mod_digit_48 rfl ?_
        refine zm_g C f_Mod_93_12 d_Mod_digit_49 rfl ?_
        refine zx_ic C d_Mod_digit_52 ?_
        refine zx_isub C d_Mod_digit_53 ?_
        refine zm_ld4 C d_Mod_digit_54 (fs + p) (by show F 16 + 1 - 1 = _; rw [e16, Int32.add_sub_cancel]) (by omega) ?_
        rw [ec, hx.2.1]
        refine zx_ic C d_Mod_digit_55 ?_
        refine zx_isub C d_Mod_digit_57 ?_
        rw [show nI (48 + x) - 48 = nI x by rw [show (48 : Int32) = nI 48 from rfl, pk_sub (by omega)]; congr 1; omega]
        exact zx_iret C hq d_Mod_digit_58 (⟨by rw [hd]; rfl, by rw [hd, e16, ← nI_succ]; rfl⟩)
      · have hd : dg c n p lo hi = none := if_neg (fun z => h28 z.2)
        refine zx_ic C d_Mod_digit_31 ?_
        exact zx_iret C hq d_Mod_digit_33 (⟨by rw [hd]; rfl, by rw [hd]; rfl⟩)
  · have hd : dg c n p lo hi = none := if_neg (fun z => hpn z.1)
    refine zx_aload C d_Mod_digit_0 rfl ?_
    refine zm_g C f_Mod_93_12 d_Mod_digit_1 rfl ?_
    refine zx_iload C d_Mod_digit_4 rfl ?_
    refine zx_ic_ge C d_Mod_digit_5 (fun h5 => ?_) (fun h5 => ?_)
    · refine zx_ic C d_Mod_digit_31 ?_
      exact zx_iret C hq d_Mod_digit_33 (⟨by rw [hd]; rfl, by rw [hd]; rfl⟩)
    · exact absurd (by rw [e16]; exact nI_le (by omega) (by omega)) h5
theorem adv_s (F : Nat → Int32) (q x : Nat) : adv F q (some x) = upd F 16 (nI (q + 1)) := rfl
theorem adv_n (F : Nat → Int32) (q : Nat) : adv F q none = F := rfl
theorem nI_n9 {k : Nat} (h : k < 2 ^ 31) : ¬ nI k = -9 := fun z => absurd ((bzv_none (b := some k) (fun d hd => by cases hd; omega)).mp z) (by simp)
theorem bzv_s (k : Nat) : bzv (some k) = nI k := rfl
theorem bzv_0 : bzv none = -9 := rfl
set_option maxHeartbeats 4000000 in
set_option maxRecDepth 20000 in
theorem c_Mod_readHappening (G : ZG) (o : Nat) (ad : Nat → Nat) (F : Nat → Int32) (R : Nat → Nat → Int32) (X : va_W) (c : Nat → Int32) (fs n p : Nat) (hc : ∀ j, j < n → R 4 (fs + j) = c j) (hfn : fs + n ≤ 240) (hp : p ≤ n) (e16 : F 16 = nI (fs + p)) (h : Nat) (hh : h < 6) (e17 : F 17 = nI h) : ZM G y_Mod_readHappening b_Mod_readHappening 6 (some .boolean) r_Mod_readHappening [.ref o, .int (nI (fs + n))] (mw G o ad F R ++ X) (zpi (fun r w => ∃ (F1 : Nat → Int32) (r1 : Nat → Int32), w = mw G o ad F1 (ur R 19 r1) ++ X ∧ F1 16 = nI (fs + (rdH c n p).1) ∧ (∀ j, j ≠ 16 → j ≠ 17 → F1 j = F j) ∧ (∀ j, j < 4 * h → r1 j = R 19 j) ∧ ((rdH c n p).2 = none → r = 0) ∧ ∀ x, (rdH c n p).2 = some x → r = 1 ∧ F1 17 = nI (h + 1) ∧ r1 (4 * h) = nI x.1 ∧ r1 (4 * h + 1) = nI x.2.1 ∧ r1 (4 * h + 2) = nI x.2.2.1 ∧ r1 (4 * h + 3) = nI x.2.2.2)) := by
  refine ZM.of "SameTuesdayModel" "readHappening" rfl rfl (by decide) (Nat.le_of_ble_eq_true rfl) (fun Y C hq => ?_)
  change ZV G Y 0 0 0 [(0, .ref o), (1, .int (nI (fs + n)))] [] (mw G o ad F R ++ X)
  have h4 : (4 : Int32) * F 17 = nI (4 * h) := by rw [e17, show (4 : Int32) = nI 4 from rfl, pk_mul]
  have k80 : ∀ (k : Nat) (cd : Int32) (r19 : Nat → Int32), k ≤ 2 → kdO c n p = some k → p < n → r19 (4 * h) = nI k → (∀ j, j < 4 * h → r19 j = R 19 j) → ZV G Y 0 0 80 [(0, .ref o), (1, .int (nI (fs + n))), (2, .int (nI (4 * h))), (3, .int cd)] [] (mw G o ad F (ur R 19 r19) ++ X) := by
    intro k cd r19 hk2 hk hpn hr0 hk19
    have hH0 : rdH c n p = (match dg c n (p + 1) 0 5 with | none => (p + 1, none) | some a => match dg c n (p + 2) 0 9 with | none => (p + 2, none) | some b => match dg c n (p + 3) 0 6 with | none => (p + 3, none) | some e => match dg c n (p + 4) 0 5 with | none => (p + 4, none) | some f => (p + 5, some (k, 10 * a + b, e, f))) := by rw [rdH, hk]; rfl
    have e1 : F 16 + 1 = nI (fs + (p + 1)) := by rw [e16, ← nI_succ]; congr 1
    cases ha : dg c n (p + 1) 0 5 with
    | none =>
      have hH : rdH c n p = (p + 1, none) := by rw [hH0, ha]
      refine zx_aload C d_Mod_readHappening_80 rfl ?_
      refine zx_dup C rfl d_Mod_readHappening_81 ?_
      refine zm_g C f_Mod_93_12 d_Mod_readHappening_82 rfl ?_
      refine zx_ic C d_Mod_readHappening_85 ?_
      refine zx_iadd C d_Mod_readHappening_86 ?_
      refine zm_p C p_Mod_93_12 d_Mod_readHappening_87 zb_fit_i (Nat.le_of_ble_eq_true rfl) zms_16 ?_
      rw [e1]
      refine zx_aload C d_Mod_readHappening_90 rfl ?_
      refine zx_iload C d_Mod_readHappening_91 rfl ?_
      refine zx_ic C d_Mod_readHappening_92 ?_
      refine zx_ic C d_Mod_readHappening_93 ?_
      refine zr_di (zr_V C l_Mod_136 d_Mod_readHappening_94 (As := [_, _, _]) rfl rfl (Nat.le_of_ble_eq_true rfl) (c_Mod_digit G _ _ _ _ _ c fs n (p + 1) (by exact hc) hfn (by omega) (by exact rfl) 0 5 (by decide) (by decide)) 0 rfl rfl ⟨Nat.le_of_ble_eq_true rfl, Nat.le_of_ble_eq_true rfl, Nat.le_of_ble_eq_true rfl, Nat.le_of_ble_eq_true rfl⟩) ?_
      rw [ha]
      rw [bzv_0, adv_n]
      refine zx_istore C d_Mod_readHappening_97 (by decide) (lv1 := [(4, _), (0, _), (1, _), (2, _), (3, _)]) rfl ?_
      refine zx_iload C d_Mod_readHappening_99 rfl ?_
      refine zx_ic C d_Mod_readHappening_101 ?_
      refine zx_ic_ne C d_Mod_readHappening_103 (fun h103 => ?_) (fun h103 => ?_)
      · exact absurd rfl h103
      · refine zx_ic C d_Mod_readHappening_106 ?_
        exact zx_zret C hq (by decide) d_Mod_readHappening_107 (⟨0, rfl, _, r19, rfl, by rw [hH]; rfl, fun j h16 h17 => upd_ne _ _ h16, hk19, fun _ => rfl, fun x hx => by rw [hH] at hx; cases hx⟩)
    | some a =>
      have xa := dg_some (by decide) (by decide) ha
      cases hb : dg c n (p + 2) 0 9 with
      | none =>
        have hH : rdH c n p = (p + 2, none) := by rw [hH0, ha]; show (match dg c n (p + 2) 0 9 with | none => (p + 2, none) | some b => _) = _; rw [hb]
        refine zx_aload C d_Mod_readHappening_80 rfl ?_
        refine zx_dup C rfl d_Mod_readHappening_81 ?_
        refine zm_g C f_Mod_93_12 d_Mod_readHappening_82 rfl ?_
        refine zx_ic C d_Mod_readHappening_85 ?_
        refine zx_iadd C d_Mod_readHappening_86 ?_
        refine zm_p C p_Mod_93_12 d_Mod_readHappening_87 zb_fit_i (Nat.le_of_ble_eq_true rfl) zms_16 ?_
        rw [e1]
        refine zx_aload C d_Mod_readHappening_90 rfl ?_
        refine zx_iload C d_Mod_readHappening_91 rfl ?_
        refine zx_ic C d_Mod_readHappening_92 ?_
        refine zx_ic C d_Mod_readHappening_93 ?_
        refine zr_di (zr_V C l_Mod_136 d_Mod_readHappening_94 (As := [_, _, _]) rfl rfl (Nat.le_of_ble_eq_true rfl) (c_Mod_digit G _ _ _ _ _ c fs n (p + 1) (by exact hc) hfn (by omega) (by exact rfl) 0 5 (by decide) (by decide)) 0 rfl rfl ⟨Nat.le_of_ble_eq_true rfl, Nat.le_of_ble_eq_true rfl, Nat.le_of_ble_eq_true rfl, Nat.le_of_ble_eq_true rfl⟩) ?_
        rw [ha]
        rw [bzv_s, adv_s, upd_upd]
        refine zx_istore C d_Mod_readHappening_97 (by decide) (lv1 := [(4, _), (0, _), (1, _), (2, _), (3, _)]) rfl ?_
        refine zx_iload C d_Mod_readHappening_99 rfl ?_
        refine zx_ic C d_Mod_readHappening_101 ?_
        refine zx_ic_ne C d_Mod_readHappening_103 (fun h103 => ?_) (fun h103 => ?_)
        · refine zx_aload C d_Mod_readHappening_108 rfl ?_
          refine zx_iload C d_Mod_readHappening_109 rfl ?_
          refine zx_ic C d_Mod_readHappening_110 ?_
          refine zx_ic C d_Mod_readHappening_111 ?_
          refine zr_di (zr_V C l_Mod_136 d_Mod_readHappening_113 (As := [_, _, _]) rfl rfl (Nat.le_of_ble_eq_true rfl) (c_Mod_digit G _ _ _ _ _ c fs n (p + 2) (by exact hc) hfn (by omega) (by exact rfl) 0 9 (by decide) (by decide)) 0 rfl rfl ⟨Nat.le_of_ble_eq_true rfl, Nat.le_of_ble_eq_true rfl, Nat.le_of_ble_eq_true rfl, Nat.le_of_ble_eq_true rfl⟩) ?_
          rw [hb]
          rw [bzv_0, adv_n]
          refine zx_istore C d_Mod_readHappening_116 (by decide) (lv1 := [(5, _), (4, _), (0, _), (1, _), (2, _), (3, _)]) rfl ?_
          refine zx_iload C d_Mod_readHappening_118 rfl ?_
          refine zx_ic C d_Mod_readHappening_120 ?_
          refine zx_ic_ne C d_Mod_readHappening_122 (fun h122 => ?_) (fun h122 => ?_)
          · exact absurd rfl h122
          · refine zx_ic C d_Mod_readHappening_125 ?_
            exact zx_zret C hq (by decide) d_Mod_readHappening_126 (⟨0, rfl, _, r19, rfl, by rw [hH]; rfl, fun j h16 h17 => upd_ne _ _ h16, hk19, fun _ => rfl, fun x hx => by rw [hH] at hx; cases hx⟩)
        · exact absurd h103 (nI_n9 (by omega))
      | some b =>
        have xb := dg_some (by decide) (by decide) hb
        have e10 : (10 : Int32) * nI a + nI b = nI (10 * a + b) := by rw [show (10 : Int32) = nI 10 from rfl, pk_mul, nI_add]
        have i1 : nI (4 * h) + 1 = nI (4 * h + 1) := (nI_succ _).symm
        have i2 : nI (4 * h) + 2 = nI (4 * h + 2) := by rw [show (2 : Int32) = nI 2 from rfl, nI_add]
        have i3 : nI (4 * h) + 3 = nI (4 * h + 3) := by rw [show (3 : Int32) = nI 3 from rfl, nI_add]
        cases he : dg c n (p + 3) 0 6 with
        | none =>
          have hH : rdH c n p = (p + 3, none) := by rw [hH0, ha]; show (match dg c n (p + 2) 0 9 with | none => (p + 2, none) | some b => _) = _; rw [hb]; show (match dg c n (p + 3) 0 6 with | none => (p + 3, none) | some b => _) = _; rw [he]
          refine zx_aload C d_Mod_readHappening_80 rfl ?_
          refine zx_dup C rfl d_Mod_readHappening_81 ?_
          refine zm_g C f_Mod_93_12 d_Mod_readHappening_82 rfl ?_
          refine zx_ic C d_Mod_readHappening_85 ?_
          refine zx_iadd C d_Mod_readHappening_86 ?_
          refine zm_p C p_Mod_93_12 d_Mod_readHappening_87 zb_fit_i (Nat.le_of_ble_eq_true rfl) zms_16 ?_
          rw [e1]
          refine zx_aload C d_Mod_readHappening_90 rfl ?_
          refine zx_iload C d_Mod_readHappening_91 rfl ?_
          refine zx_ic C d_Mod_readHappening_92 ?_
          refine zx_ic C d_Mod_readHappening_93 ?_
          refine zr_di (zr_V C l_Mod_136 d_Mod_readHappening_94 (As := [_, _, _]) rfl rfl (Nat.le_of_ble_eq_true rfl) (c_Mod_digit G _ _ _ _ _ c fs n (p + 1) (by exact hc) hfn (by omega) (by exact rfl) 0 5 (by decide) (by decide)) 0 rfl rfl ⟨Nat.le_of_ble_eq_true rfl, Nat.le_of_ble_eq_true rfl, Nat.le_of_ble_eq_true rfl, Nat.le_of_ble_eq_true rfl⟩) ?_
          rw [ha]
          rw [bzv_s, adv_s, upd_upd]
          refine zx_istore C d_Mod_readHappening_97 (by decide) (lv1 := [(4, _), (0, _), (1, _), (2, _), (3, _)]) rfl ?_
          refine zx_iload C d_Mod_readHappening_99 rfl ?_
          refine zx_ic C d_Mod_readHappening_101 ?_
          refine zx_ic_ne C d_Mod_readHappening_103 (fun h103 => ?_) (fun h103 => ?_)
          · refine zx_aload C d_Mod_readHappening_108 rfl ?_
            refine zx_iload C d_Mod_readHappening_109 rfl ?_
            refine zx_ic C d_Mod_readHappening_110 ?_
            refine zx_ic C d_Mod_readHappening_111 ?_
            refine zr_di (zr_V C l_Mod_136 d_Mod_readHappening_113 (As := [_, _, _]) rfl rfl (Nat.le_of_ble_eq_true rfl) (c_Mod_digit G _ _ _ _ _ c fs n (p + 2) (by exact hc) hfn (by omega) (by exact rfl) 0 9 (by decide) (by decide)) 0 rfl rfl ⟨Nat.le_of_ble_eq_true rfl, Nat.le_of_ble_eq_true rfl, Nat.le_of_ble_eq_true rfl, Nat.le_of_ble_eq_true rfl⟩) ?_
            rw [hb]
            rw [bzv_s, adv_s, upd_upd]
            refine zx_istore C d_Mod_readHappening_116 (by decide) (lv1 := [(5, _), (4, _), (0, _), (1, _), (2, _), (3, _)]) rfl ?_
            refine zx_iload C d_Mod_readHappening_118 rfl ?_
            refine zx_ic C d_Mod_readHappening_120 ?_
            refine zx_ic_ne C d_Mod_readHappening_122 (fun h122 => ?_) (fun h122 => ?_)
            · refine zx_aload C d_Mod_readHappening_127 rfl ?_
              refine zm_g C f_Mod_43_12 d_Mod_readHappening_128 rfl ?_
              refine zx_iload C d_Mod_readHappening_131 rfl ?_
              refine zx_ic C d_Mod_readHappening_132 ?_
              refine zx_iadd C d_Mod_readHappening_133 ?_
              refine zx_ic C d_Mod_readHappening_134 ?_
              refine zx_iload C d_Mod_readHappening_136 rfl ?_
              refine zx_imul C d_Mod_readHappening_138 ?_
              refine zx_iload C d_Mod_readHappening_139 rfl ?_
              refine zx_iadd C d_Mod_readHappening_141 ?_
              rw [e10]
              refine zm_st19 C d_Mod_readHappening_142 (4 * h + 1) i1 (by omega) ?_
              rw [ur_ur]
              refine zx_aload C d_Mod_readHappening_143 rfl ?_
              refine zm_g C f_Mod_43_12 d_Mod_readHappening_144 rfl ?_
              refine zx_iload C d_Mod_readHappening_147 rfl ?_
              refine zx_ic C d_Mod_readHappening_148 ?_
              refine zx_iadd C d_Mod_readHappening_149 ?_
              refine zx_aload C d_Mod_readHappening_150 rfl ?_
              refine zx_iload C d_Mod_readHappening_151 rfl ?_
              refine zx_ic C d_Mod_readHappening_152 ?_
              refine zx_ic C d_Mod_readHappening_153 ?_
              refine zr_di (zr_V C l_Mod_136 d_Mod_readHappening_155 (As := [_, _, _]) rfl rfl (Nat.le_of_ble_eq_true rfl) (c_Mod_digit G _ _ _ _ _ c fs n (p + 3) (by exact hc) hfn (by omega) (by exact rfl) 0 6 (by decide) (by decide)) 0 rfl rfl ⟨Nat.le_of_ble_eq_true rfl, Nat.le_of_ble_eq_true rfl, Nat.le_of_ble_eq_true rfl, Nat.le_of_ble_eq_true rfl⟩) ?_
              rw [he]
              rw [bzv_0, adv_n]
              refine zm_st19 C d_Mod_readHappening_158 (4 * h + 2) i2 (by omega) ?_
              rw [ur_ur]
              refine zx_aload C d_Mod_readHappening_159 rfl ?_
              refine zm_g C f_Mod_43_12 d_Mod_readHappening_160 rfl ?_
              refine zx_iload C d_Mod_readHappening_163 rfl ?_
              refine zx_ic C d_Mod_readHappening_164 ?_
              refine zx_iadd C d_Mod_readHappening_165 ?_
              refine zm_ld19 C d_Mod_readHappening_166 (4 * h + 2) i2 (by omega) ?_
              refine zx_ic C d_Mod_readHappening_167 ?_
              refine zx_ic_ne C d_Mod_readHappening_169 (fun h169 => ?_) (fun h169 => ?_)
              · exact absurd (upd_eq _ _ _) h169
              · refine zx_ic C d_Mod_readHappening_172 ?_
                exact zx_zret C hq (by decide) d_Mod_readHappening_173 (⟨0, rfl, _, _, rfl, by rw [hH]; rfl, fun j h16 h17 => upd_ne _ _ h16, fun j hj => by rw [upd_ne _ _ (by omega), ur_eq, upd_ne _ _ (by omega)]; exact hk19 j hj, fun _ => rfl, fun x hx => by rw [hH] at hx; cases hx⟩)
            · exact absurd h122 (nI_n9 (by omega))
          · exact absurd h103 (nI_n9 (by omega))
        | some e =>
          have xe := dg_some (by decide) (by decide) he
          cases hf : dg c n (p + 4) 0 5 with
          | none =>
            have hH : rdH c n p = (p + 4, none) := by rw [hH0, ha]; show (match dg c n (p + 2) 0 9 with | none => (p + 2, none) | some b => _) = _; rw [hb]; show (match dg c n (p + 3) 0 6 with | none => (p + 3, none) | some b => _) = _; rw [he]; show (match dg c n (p + 4) 0 5 with | none => (p + 4, none) | some b => _) = _; rw [hf]
            refine zx_aload C d_Mod_readHappening_80 rfl ?_
            refine zx_dup C rfl d_Mod_readHappening_81 ?_
            refine zm_g C f_Mod_93_12 d_Mod_readHappening_82 rfl ?_
            refine zx_ic C d_Mod_readHappening_85 ?_
            refine zx_iadd C d_Mod_readHappening_86 ?_
            refine zm_p C p_Mod_93_12 d_Mod_readHappening_87 zb_fit_i (Nat.le_of_ble_eq_true rfl) zms_16 ?_
            rw [e1]
            refine zx_aload C d_Mod_readHappening_90 rfl ?_
            refine zx_iload C d_Mod_readHappening_91 rfl ?_
            refine zx_ic C d_Mod_readHappening_92 ?_
            refine zx_ic C d_Mod_readHappening_93 ?_
            refine zr_di (zr_V C l_Mod_136 d_Mod_readHappening_94 (As := [_, _, _]) rfl rfl (Nat.le_of_ble_eq_true rfl) (c_Mod_digit G _ _ _ _ _ c fs n (p + 1) (by exact hc) hfn (by omega) (by exact rfl) 0 5 (by decide) (by decide)) 0 rfl rfl ⟨Nat.le_of_ble_eq_true rfl, Nat.le_of_ble_eq_true rfl, Nat.le_of_ble_eq_true rfl, Nat.le_of_ble_eq_true rfl⟩) ?_
            rw [ha]
            rw [bzv_s, adv_s, upd_upd]
            refine zx_istore C d_Mod_readHappening_97 (by decide) (lv1 := [(4, _), (0, _), (1, _), (2, _), (3, _)]) rfl ?_
            refine zx_iload C d_Mod_readHappening_99 rfl ?_
            refine zx_ic C d_Mod_readHappening_101 ?_
            refine zx_ic_ne C d_Mod_readHappening_103 (fun h103 => ?_) (fun h103 => ?_)
            · refine zx_aload C d_Mod_readHappening_108 rfl ?_
              refine zx_iload C d_Mod_readHappening_109 rfl ?_
              refine zx_ic C d_Mod_readHappening_110 ?_
              refine zx_ic C d_Mod_readHappening_111 ?_
              refine zr_di (zr_V C l_Mod_136 d_Mod_readHappening_113 (As := [_, _, _]) rfl rfl (Nat.le_of_ble_eq_true rfl) (c_Mod_digit G _ _ _ _ _ c fs n (p + 2) (by exact hc) hfn (by omega) (by exact rfl) 0 9 (by decide) (by decide)) 0 rfl rfl ⟨Nat.le_of_ble_eq_true rfl, Nat.le_of_ble_eq_true rfl, Nat.le_of_ble_eq_true rfl, Nat.le_of_ble_eq_true rfl⟩) ?_
              rw [hb]
              rw [bzv_s, adv_s, upd_upd]
              refine zx_istore C d_Mod_readHappening_116 (by decide) (lv1 := [(5, _), (4, _), (0, _), (1, _), (2, _), (3, _)]) rfl ?_
              refine zx_iload C d_Mod_readHappening_118 rfl ?_
              refine zx_ic C d_Mod_readHappening_120 ?_
              refine zx_ic_ne C d_Mod_readHappening_122 (fun h122 => ?_) (fun h122 => ?_)
              · refine zx_aload C d_Mod_readHappening_127 rfl ?_
                refine zm_g C f_Mod_43_12 d_Mod_readHappening_128 rfl ?_
                refine zx_iload C d_Mod_readHappening_131 rfl ?_
                refine zx_ic C d_Mod_readHappening_132 ?_
                refine zx_iadd C d_Mod_readHappening_133 ?_
                refine zx_ic C d_Mod_readHappening_134 ?_
                refine zx_iload C d_Mod_readHappening_136 rfl ?_
                refine zx_imul C d_Mod_readHappening_138 ?_
                refine zx_iload C d_Mod_readHappening_139 rfl ?_
                refine zx_iadd C d_Mod_readHappening_141 ?_
                rw [e10]
                refine zm_st19 C d_Mod_readHappening_142 (4 * h + 1) i1 (by omega) ?_
                rw [ur_ur]
                refine zx_aload C d_Mod_readHappening_143 rfl ?_
                refine zm_g C f_Mod_43_12 d_Mod_readHappening_144 rfl ?_
                refine zx_iload C d_Mod_readHappening_147 rfl ?_
                refine zx_ic C d_Mod_readHappening_148 ?_
                refine zx_iadd C d_Mod_readHappening_149 ?_
                refine zx_aload C d_Mod_readHappening_150 rfl ?_
                refine zx_iload C d_Mod_readHappening_151 rfl ?_
                refine zx_ic C d_Mod_readHappening_152 ?_
                refine zx_ic C d_Mod_readHappening_153 ?_
                refine zr_di (zr_V C l_Mod_136 d_Mod_readHappening_155 (As := [_, _, _]) rfl rfl (Nat.le_of_ble_eq_true rfl) (c_Mod_digit G _ _ _ _ _ c fs n (p + 3) (by exact hc) hfn (by omega) (by exact rfl) 0 6 (by decide) (by decide)) 0 rfl rfl ⟨Nat.le_of_ble_eq_true rfl, Nat.le_of_ble_eq_true rfl, Nat.le_of_ble_eq_true rfl, Nat.le_of_ble_eq_true rfl⟩) ?_
                rw [he]
                rw [bzv_s, adv_s, upd_upd]
                refine zm_st19 C d_Mod_readHappening_158 (4 * h + 2) i2 (by omega) ?_
                rw [ur_ur]
                refine zx_aload C d_Mod_readHappening_159 rfl ?_
                refine zm_g C f_Mod_43_12 d_Mod_readHappening_160 rfl ?_
                refine zx_iload C d_Mod_readHappening_163 rfl ?_
                refine zx_ic C d_Mod_readHappening_164 ?_
                refine zx_iadd C d_Mod_readHappening_165 ?_
                refine zm_ld19 C d_Mod_readHappening_166 (4 * h + 2) i2 (by omega) ?_
                refine zx_ic C d_Mod_readHappening_167 ?_
                refine zx_ic_ne C d_Mod_readHappening_169 (fun h169 => ?_) (fun h169 => ?_)
                · refine zx_aload C d_Mod_readHappening_174 rfl ?_
                  refine zm_g C f_Mod_43_12 d_Mod_readHappening_175 rfl ?_
                  refine zx_iload C d_Mod_readHappening_178 rfl ?_
                  refine zx_ic C d_Mod_readHappening_179 ?_
                  refine zx_iadd C d_Mod_readHappening_180 ?_
                  refine zx_aload C d_Mod_readHappening_181 rfl ?_
                  refine zx_iload C d_Mod_readHappening_182 rfl ?_
                  refine zx_ic C d_Mod_readHappening_183 ?_
                  refine zx_ic C d_Mod_readHappening_184 ?_
                  refine zr_di (zr_V C l_Mod_136 d_Mod_readHappening_185 (As := [_, _, _]) rfl rfl (Nat.le_of_ble_eq_true rfl) (c_Mod_digit G _ _ _ _ _ c fs n (p + 4) (by exact hc) hfn (by omega) (by exact rfl) 0 5 (by decide) (by decide)) 0 rfl rfl ⟨Nat.le_of_ble_eq_true rfl, Nat.le_of_ble_eq_true rfl, Nat.le_of_ble_eq_true rfl, Nat.le_of_ble_eq_true rfl⟩) ?_
                  rw [hf]
                  rw [bzv_0, adv_n]
                  refine zm_st19 C d_Mod_readHappening_188 (4 * h + 3) i3 (by omega) ?_
                  rw [ur_ur]
                  refine zx_aload C d_Mod_readHappening_189 rfl ?_
                  refine zx_dup C rfl d_Mod_readHappening_190 ?_
                  refine zm_g C f_Mod_114_12 d_Mod_readHappening_191 rfl ?_
                  refine zx_ic C d_Mod_readHappening_194 ?_
                  refine zx_iadd C d_Mod_readHappening_195 ?_
                  refine zm_p C p_Mod_114_12 d_Mod_readHappening_196 zb_fit_i (Nat.le_of_ble_eq_true rfl) zms_17 ?_
                  refine zx_aload C d_Mod_readHappening_199 rfl ?_
                  refine zm_g C f_Mod_43_12 d_Mod_readHappening_200 rfl ?_
                  refine zx_iload C d_Mod_readHappening_203 rfl ?_
                  refine zx_ic C d_Mod_readHappening_204 ?_
                  refine zx_iadd C d_Mod_readHappening_205 ?_
                  refine zm_ld19 C d_Mod_readHappening_206 (4 * h + 3) i3 (by omega) ?_
                  refine zx_ic C d_Mod_readHappening_207 ?_
                  refine zx_ic_eq C d_Mod_readHappening_209 (fun h209 => ?_) (fun h209 => ?_)
                  · refine zx_ic C d_Mod_readHappening_216 ?_
                    exact zx_zret C hq (by decide) d_Mod_readHappening_217 (⟨0, rfl, _, _, rfl, by rw [hH]; rfl, fun j h16 h17 => by rw [upd_ne _ _ h17, upd_ne _ _ h16], fun j hj => by rw [upd_ne _ _ (by omega), ur_eq, upd_ne _ _ (by omega), ur_eq, upd_ne _ _ (by omega)]; exact hk19 j hj, fun _ => rfl, fun x hx => by rw [hH] at hx; cases hx⟩)
                  · exact absurd (upd_eq _ _ _) h209
                · exact absurd ((upd_eq _ _ _).symm.trans h169) (nI_n9 (by omega))
              · exact absurd h122 (nI_n9 (by omega))
            · exact absurd h103 (nI_n9 (by omega))
          | some f =>
            have xf := dg_some (by decide) (by decide) hf
            have hH : rdH c n p = (p + 5, some (k, 10 * a + b, e, f)) := by rw [hH0, ha]; show (match dg c n (p + 2) 0 9 with | none => (p + 2, none) | some b => _) = _; rw [hb]; show (match dg c n (p + 3) 0 6 with | none => (p + 3, none) | some b => _) = _; rw [he]; show (match dg c n (p + 4) 0 5 with | none => (p + 4, none) | some b => _) = _; rw [hf]
            refine zx_aload C d_Mod_readHappening_80 rfl ?_
            refine zx_dup C rfl d_Mod_readHappening_81 ?_
            refine zm_g C f_Mod_93_12 d_Mod_readHappening_82 rfl ?_
            refine zx_ic C d_Mod_readHappening_85 ?_
            refine zx_iadd C d_Mod_readHappening_86 ?_
            refine zm_p C p_Mod_93_12 d_Mod_readHappening_87 zb_fit_i (Nat.le_of_ble_eq_true rfl) zms_16 ?_
            rw [e1]
            refine zx_aload C d_Mod_readHappening_90 rfl ?_
            refine zx_iload C d_Mod_readHappening_91 rfl ?_
            refine zx_ic C d_Mod_readHappening_92 ?_
            refine zx_ic C d_Mod_readHappening_93 ?_
            refine zr_di (zr_V C l_Mod_136 d_Mod_readHappening_94 (As := [_, _, _]) rfl rfl (Nat.le_of_ble_eq_true rfl) (c_Mod_digit G _ _ _ _ _ c fs n (p + 1) (by exact hc) hfn (by omega) (by exact rfl) 0 5 (by decide) (by decide)) 0 rfl rfl ⟨Nat.le_of_ble_eq_true rfl, Nat.le_of_ble_eq_true rfl, Nat.le_of_ble_eq_true rfl, Nat.le_of_ble_eq_true rfl⟩) ?_
            rw [ha]
            rw [bzv_s, adv_s, upd_upd]
            refine zx_istore C d_Mod_readHappening_97 (by decide) (lv1 := [(4, _), (0, _), (1, _), (2, _), (3, _)]) rfl ?_
            refine zx_iload C d_Mod_readHappening_99 rfl ?_
            refine zx_ic C d_Mod_readHappening_101 ?_
            refine zx_ic_ne C d_Mod_readHappening_103 (fun h103 => ?_) (fun h103 => ?_)
            · refine zx_aload C d_Mod_readHappening_108 rfl ?_
              refine zx_iload C d_Mod_readHappening_109 rfl ?_
              refine zx_ic C d_Mod_readHappening_110 ?_
              refine zx_ic C d_Mod_readHappening_111 ?_
              refine zr_di (zr_V C l_Mod_136 d_Mod_readHappening_113 (As := [_, _, _]) rfl rfl (Nat.le_of_ble_eq_true rfl) (c_Mod_digit G _ _ _ _ _ c fs n (p + 2) (by exact hc) hfn (by omega) (by exact rfl) 0 9 (by decide) (by decide)) 0 rfl rfl ⟨Nat.le_of_ble_eq_true rfl, Nat.le_of_ble_eq_true rfl, Nat.le_of_ble_eq_true rfl, Nat.le_of_ble_eq_true rfl⟩) ?_
              rw [hb]
              rw [bzv_s, adv_s, upd_upd]
              refine zx_istore C d_Mod_readHappening_116 (by decide) (lv1 := [(5, _), (4, _), (0, _), (1, _), (2, _), (3, _)]) rfl ?_
              refine zx_iload C d_Mod_readHappening_118 rfl ?_
              refine zx_ic C d_Mod_readHappening_120 ?_
              refine zx_ic_ne C d_Mod_readHappening_122 (fun h122 => ?_) (fun h122 => ?_)
              · refine zx_aload C d_Mod_readHappening_127 rfl ?_
                refine zm_g C f_Mod_43_12 d_Mod_readHappening_128 rfl ?_
                refine zx_iload C d_Mod_readHappening_131 rfl ?_
                refine zx_ic C d_Mod_readHappening_132 ?_
                refine zx_iadd C d_Mod_readHappening_133 ?_
                refine zx_ic C d_Mod_readHappening_134 ?_
                refine zx_iload C d_Mod_readHappening_136 rfl ?_
                refine zx_imul C d_Mod_readHappening_138 ?_
                refine zx_iload C d_Mod_readHappening_139 rfl ?_
                refine zx_iadd C d_Mod_readHappening_141 ?_
                rw [e10]
                refine zm_st19 C d_Mod_readHappening_142 (4 * h + 1) i1 (by omega) ?_
                rw [ur_ur]
                refine zx_aload C d_Mod_readHappening_143 rfl ?_
                refine zm_g C f_Mod_43_12 d_Mod_readHappening_144 rfl ?_
                refine zx_iload C d_Mod_readHappening_147 rfl ?_
                refine zx_ic C d_Mod_readHappening_148 ?_
                refine zx_iadd C d_Mod_readHappening_149 ?_
                refine zx_aload C d_Mod_readHappening_150 rfl ?_
                refine zx_iload C d_Mod_readHappening_151 rfl ?_
                refine zx_ic C d_Mod_readHappening_152 ?_
                refine zx_ic C d_Mod_readHappening_153 ?_
                refine zr_di (zr_V C l_Mod_136 d_Mod_readHappening_155 (As := [_, _, _]) rfl rfl (Nat.le_of_ble_eq_true rfl) (c_Mod_digit G _ _ _ _ _ c fs n (p + 3) (by exact hc) hfn (by omega) (by exact rfl) 0 6 (by decide) (by decide)) 0 rfl rfl ⟨Nat.le_of_ble_eq_true rfl, Nat.le_of_ble_eq_true rfl, Nat.le_of_ble_eq_true rfl, Nat.le_of_ble_eq_true rfl⟩) ?_
                rw [he]
                rw [bzv_s, adv_s, upd_upd]
                refine zm_st19 C d_Mod_readHappening_158 (4 * h + 2) i2 (by omega) ?_
                rw [ur_ur]
                refine zx_aload C d_Mod_readHappening_159 rfl ?_
                refine zm_g C f_Mod_43_12 d_Mod_readHappening_160 rfl ?_
                refine zx_iload C d_Mod_readHappening_163 rfl ?_
                refine zx_ic C d_Mod_readHappening_164 ?_
                refine zx_iadd C d_Mod_readHappening_165 ?_
                refine zm_ld19 C d_Mod_readHappening_166 (4 * h + 2) i2 (by omega) ?_
                refine zx_ic C d_Mod_readHappening_167 ?_
                refine zx_ic_ne C d_Mod_readHappening_169 (fun h169 => ?_) (fun h169 => ?_)
                · refine zx_aload C d_Mod_readHappening_174 rfl ?_
                  refine zm_g C f_Mod_43_12 d_Mod_readHappening_175 rfl ?_
                  refine zx_iload C d_Mod_readHappening_178 rfl ?_
                  refine zx_ic C d_Mod_readHappening_179 ?_
                  refine zx_iadd C d_Mod_readHappening_180 ?_
                  refine zx_aload C d_Mod_readHappening_181 rfl ?_
                  refine zx_iload C d_Mod_readHappening_182 rfl ?_
                  refine zx_ic C d_Mod_readHappening_183 ?_
                  refine zx_ic C d_Mod_readHappening_184 ?_
                  refine zr_di (zr_V C l_Mod_136 d_Mod_readHappening_185 (As := [_, _, _]) rfl rfl (Nat.le_of_ble_eq_true rfl) (c_Mod_digit G _ _ _ _ _ c fs n (p + 4) (by exact hc) hfn (by omega) (by exact rfl) 0 5 (by decide) (by decide)) 0 rfl rfl ⟨Nat.le_of_ble_eq_true rfl, Nat.le_of_ble_eq_true rfl, Nat.le_of_ble_eq_true rfl, Nat.le_of_ble_eq_true rfl⟩) ?_
                  rw [hf]
                  rw [bzv_s, adv_s, upd_upd]
                  refine zm_st19 C d_Mod_readHappening_188 (4 * h + 3) i3 (by omega) ?_
                  rw [ur_ur]
                  refine zx_aload C d_Mod_readHappening_189 rfl ?_
                  refine zx_dup C rfl d_Mod_readHappening_190 ?_
                  refine zm_g C f_Mod_114_12 d_Mod_readHappening_191 rfl ?_
                  refine zx_ic C d_Mod_readHappening_194 ?_
                  refine zx_iadd C d_Mod_readHappening_195 ?_
                  refine zm_p C p_Mod_114_12 d_Mod_readHappening_196 zb_fit_i (Nat.le_of_ble_eq_true rfl) zms_17 ?_
                  refine zx_aload C d_Mod_readHappening_199 rfl ?_
                  refine zm_g C f_Mod_43_12 d_Mod_readHappening_200 rfl ?_
                  refine zx_iload C d_Mod_readHappening_203 rfl ?_
                  refine zx_ic C d_Mod_readHappening_204 ?_
                  refine zx_iadd C d_Mod_readHappening_205 ?_
                  refine zm_ld19 C d_Mod_readHappening_206 (4 * h + 3) i3 (by omega) ?_
                  refine zx_ic C d_Mod_readHappening_207 ?_
                  refine zx_ic_eq C d_Mod_readHappening_209 (fun h209 => ?_) (fun h209 => ?_)
                  · exact absurd ((upd_eq _ _ _).symm.trans h209) (nI_n9 (by omega))
                  · refine zx_ic C d_Mod_readHappening_212 ?_
                    refine zx_goto C d_Mod_readHappening_213 ?_
                    exact zx_zret C hq (by decide) d_Mod_readHappening_217 (⟨1, rfl, _, _, rfl, by rw [hH]; rfl, fun j h16 h17 => by rw [upd_ne _ _ h17, upd_ne _ _ h16], fun j hj => by rw [upd_ne _ _ (by omega), ur_eq, upd_ne _ _ (by omega), ur_eq, upd_ne _ _ (by omega)]; exact hk19 j hj, fun z => (by rw [hH] at z; cases z), fun x hx => by rw [hH] at hx; cases hx; exact ⟨rfl, by rw [upd_eq]; show F 17 + 1 = _; rw [e17, ← nI_succ], by rw [upd_ne _ _ (by omega), ur_eq, upd_ne _ _ (by omega), ur_eq, upd_ne _ _ (by omega)]; exact hr0, by rw [upd_ne _ _ (by omega), ur_eq, upd_ne _ _ (by omega), ur_eq, upd_eq], by rw [upd_ne _ _ (by omega), ur_eq, upd_eq], upd_eq _ _ _⟩⟩)
                · exact absurd ((upd_eq _ _ _).symm.trans h169) (nI_n9 (by omega))
              · exact absurd h122 (nI_n9 (by omega))
            · exact absurd h103 (nI_n9 (by omega))
  by_cases hpn : p < n
  · have ec := hc p hpn
    refine zx_ic C d_Mod_readHappening_0 ?_
    refine zx_aload C d_Mod_readHappening_1 rfl ?_
    refine zm_g C f_Mod_114_12 d_Mod_readHappening_2 rfl ?_
    refine zx_imul C d_Mod_readHappening_5 ?_
    rw [h4]
    refine zx_istore C d_Mod_readHappening_6 (by decide) (lv1 := [(2, _), (0, _), (1, _)]) rfl ?_
    refine zx_aload C d_Mod_readHappening_7 rfl ?_
    refine zm_g C f_Mod_93_12 d_Mod_readHappening_8 rfl ?_
    refine zx_iload C d_Mod_readHappening_11 rfl ?_
    refine zx_ic_ge C d_Mod_readHappening_12 (fun h12 => ?_) (fun h12 => ?_)
    · exact absurd h12 (by rw [e16]; exact nI_ge (by omega) (by omega))
    · refine zx_aload C d_Mod_readHappening_15 rfl ?_
      refine zm_g C f_Mod_16_12 d_Mod_readHappening_16 rfl ?_
      refine zx_aload C d_Mod_readHappening_19 rfl ?_
      refine zm_g C f_Mod_93_12 d_Mod_readHappening_20 rfl ?_
      refine zm_ld4 C d_Mod_readHappening_23 (fs + p) e16 (by omega) ?_
      rw [ec]
      refine zx_goto C d_Mod_readHappening_24 ?_
      refine zx_istore C d_Mod_readHappening_28 (by decide) (lv1 := [(3, _), (2, _), (0, _), (1, _)]) rfl ?_
      refine zx_aload C d_Mod_readHappening_29 rfl ?_
      refine zm_g C f_Mod_43_12 d_Mod_readHappening_30 rfl ?_
      refine zx_iload C d_Mod_readHappening_33 rfl ?_
      refine zx_iload C d_Mod_readHappening_34 rfl ?_
      refine zx_ic C d_Mod_readHappening_35 ?_
      refine zx_ic_ne C d_Mod_readHappening_37 (fun h37 => ?_) (fun h37 => ?_)
      · refine zx_iload C d_Mod_readHappening_44 rfl ?_
        refine zx_ic C d_Mod_readHappening_45 ?_
        refine zx_ic_ne C d_Mod_readHappening_47 (fun h47 => ?_) (fun h47 => ?_)
        · refine zx_iload C d_Mod_readHappening_54 rfl ?_
          refine zx_ic C d_Mod_readHappening_55 ?_
          refine zx_ic_ne C d_Mod_readHappening_57 (fun h57 => ?_) (fun h57 => ?_)
          · have hk : kdO c n p = none := by rw [kdO, if_pos hpn, if_neg h37, if_neg h47, if_neg h57]
            have hH : rdH c n p = (p, none) := by rw [rdH, hk]
            refine zx_ic C d_Mod_readHappening_64 ?_
            refine zm_st19 C d_Mod_readHappening_66 (4 * h) rfl (by omega) ?_
            refine zx_aload C d_Mod_readHappening_67 rfl ?_
            refine zm_g C f_Mod_43_12 d_Mod_readHappening_68 rfl ?_
            refine zx_iload C d_Mod_readHappening_71 rfl ?_
            refine zm_ld19 C d_Mod_readHappening_72 (4 * h) rfl (by omega) ?_
            refine zx_ic C d_Mod_readHappening_73 ?_
            refine zx_ic_ne C d_Mod_readHappening_75 (fun h75 => ?_) (fun h75 => ?_)
            · first | skip | skip
              first
                | exact zx_lv [0, 1, 2, 3] rfl (k80 0 _ _ (by decide) hk hpn (upd_eq _ _ _) (fun j hj => upd_ne _ _ (by omega)))
                | exact zx_lv [0, 1, 2, 3] rfl (k80 1 _ _ (by decide) hk hpn (upd_eq _ _ _) (fun j hj => upd_ne _ _ (by omega)))
                | exact zx_lv [0, 1, 2, 3] rfl (k80 2 _ _ (by decide) hk hpn (upd_eq _ _ _) (fun j hj => upd_ne _ _ (by omega)))
                | exact absurd (upd_eq _ _ _) h75
            · refine zx_ic C d_Mod_readHappening_78 ?_
              exact zx_zret C hq (by decide) d_Mod_readHappening_79 (by first | exact ⟨0, rfl, F, upd (R 19) (4 * h) (-9), rfl, by rw [hH]; exact e16, fun j _ _ => rfl, fun j hj => upd_ne _ _ (by omega), fun _ => rfl, fun x hx => by rw [hH] at hx; cases hx⟩ | exact absurd ((upd_eq _ _ _).symm.trans h75) (by decide))
          · have hk : kdO c n p = some 2 := by rw [kdO, if_pos hpn, if_neg h37, if_neg h47, if_pos h57]
            refine zx_ic C d_Mod_readHappening_60 ?_
            refine zx_goto C d_Mod_readHappening_61 ?_
            refine zm_st19 C d_Mod_readHappening_66 (4 * h) rfl (by omega) ?_
            refine zx_aload C d_Mod_readHappening_67 rfl ?_
            refine zm_g C f_Mod_43_12 d_Mod_readHappening_68 rfl ?_
            refine zx_iload C d_Mod_readHappening_71 rfl ?_
            refine zm_ld19 C d_Mod_readHappening_72 (4 * h) rfl (by omega) ?_
            refine zx_ic C d_Mod_readHappening_73 ?_
            refine zx_ic_ne C d_Mod_readHappening_75 (fun h75 => ?_) (fun h75 => ?_)
            · first | skip | skip
              first
                | exact zx_lv [0, 1, 2, 3] rfl (k80 0 _ _ (by decide) hk hpn (upd_eq _ _ _) (fun j hj => upd_ne _ _ (by omega)))
                | exact zx_lv [0, 1, 2, 3] rfl (k80 1 _ _ (by decide) hk hpn (upd_eq _ _ _) (fun j hj => upd_ne _ _ (by omega)))
                | exact zx_lv [0, 1, 2, 3] rfl (k80 2 _ _ (by decide) hk hpn (upd_eq _ _ _) (fun j hj => upd_ne _ _ (by omega)))
                | exact absurd (upd_eq _ _ _) h75
            · refine zx_ic C d_Mod_readHappening_78 ?_
              exact zx_zret C hq (by decide) d_Mod_readHappening_79 (by first | exact ⟨0, rfl, F, upd (R 19) (4 * h) (-9), rfl, by rw [hH]; exact e16, fun j _ _ => rfl, fun j hj => upd_ne _ _ (by omega), fun _ => rfl, fun x hx => by rw [hH] at hx; cases hx⟩ | exact absurd ((upd_eq _ _ _).symm.trans h75) (by decide))
        · have hk : kdO c n p = some 1 := by rw [kdO, if_pos hpn, if_neg h37, if_pos h47]
          refine zx_ic C d_Mod_readHappening_50 ?_
          refine zx_goto C d_Mod_readHappening_51 ?_
          refine zm_st19 C d_Mod_readHappening_66 (4 * h) rfl (by omega) ?_
          refine zx_aload C d_Mod_readHappening_67 rfl ?_
          refine zm_g C f_Mod_43_12 d_Mod_readHappening_68 rfl ?_
          refine zx_iload C d_Mod_readHappening_71 rfl ?_
          refine zm_ld19 C d_Mod_readHappening_72 (4 * h) rfl (by omega) ?_
          refine zx_ic C d_Mod_readHappening_73 ?_
          refine zx_ic_ne C d_Mod_readHappening_75 (fun h75 => ?_) (fun h75 => ?_)
          · first | skip | skip
            first
              | exact zx_lv [0, 1, 2, 3] rfl (k80 0 _ _ (by decide) hk hpn (upd_eq _ _ _) (fun j hj => upd_ne _ _ (by omega)))
              | exact zx_lv [0, 1, 2, 3] rfl (k80 1 _ _ (by decide) hk hpn (upd_eq _ _ _) (fun j hj => upd_ne _ _ (by omega)))
              | exact zx_lv [0, 1, 2, 3] rfl (k80 2 _ _ (by decide) hk hpn (upd_eq _ _ _) (fun j hj => upd_ne _ _ (by omega)))
              | exact absurd (upd_eq _ _ _) h75
          · refine zx_ic C d_Mod_readHappening_78 ?_
            exact zx_zret C hq (by decide) d_Mod_readHappening_79 (by first | exact ⟨0, rfl, F, upd (R 19) (4 * h) (-9), rfl, by rw [hH]; exact e16, fun j _ _ => rfl, fun j hj => upd_ne _ _ (by omega), fun _ => rfl, fun x hx => by rw [hH] at hx; cases hx⟩ | exact absurd ((upd_eq _ _ _).symm.trans h75) (by decide))
      · have hk : kdO c n p = some 0 := by rw [kdO, if_pos hpn, if_pos h37]
        refine zx_ic C d_Mod_readHappening_40 ?_
        refine zx_goto C d_Mod_readHappening_41 ?_
        refine zm_st19 C d_Mod_readHappening_66 (4 * h) rfl (by omega) ?_
        refine zx_aload C d_Mod_readHappening_67 rfl ?_
        refine zm_g C f_Mod_43_12 d_Mod_readHappening_68 rfl ?_
        refine zx_iload C d_Mod_readHappening_71 rfl ?_
        refine zm_ld19 C d_Mod_readHappening_72 (4 * h) rfl (by omega) ?_
        refine zx_ic C d_Mod_readHappening_73 ?_
        refine zx_ic_ne C d_Mod_readHappening_75 (fun h75 => ?_) (fun h75 => ?_)
        · first | skip | skip
          first
            | exact zx_lv [0, 1, 2, 3] rfl (k80 0 _ _ (by decide) hk hpn (upd_eq _ _ _) (fun j hj => upd_ne _ _ (by omega)))
            | exact zx_lv [0, 1, 2, 3] rfl (k80 1 _ _ (by decide) hk hpn (upd_eq _ _ _) (fun j hj => upd_ne _ _ (by omega)))
            | exact zx_lv [0, 1, 2, 3] rfl (k80 2 _ _ (by decide) hk hpn (upd_eq _ _ _) (fun j hj => upd_ne _ _ (by omega)))
            | exact absurd (upd_eq _ _ _) h75
        · refine zx_ic C d_Mod_readHappening_78 ?_
          exact zx_zret C hq (by decide) d_Mod_readHappening_79 (by first | exact ⟨0, rfl, F, upd (R 19) (4 * h) (-9), rfl, by rw [hH]; exact e16, fun j _ _ => rfl, fun j hj => upd_ne _ _ (by omega), fun _ => rfl, fun x hx => by rw [hH] at hx; cases hx⟩ | exact absurd ((upd_eq _ _ _).symm.trans h75) (by decide))
  · have hk : kdO c n p = none := if_neg hpn
    have hH : rdH c n p = (p, none) := by rw [rdH, hk]
    refine zx_ic C d_Mod_readHappening_0 ?_
    refine zx_aload C d_Mod_readHappening_1 rfl ?_
    refine zm_g C f_Mod_114_12 d_Mod_readHappening_2 rfl ?_
    refine zx_imul C d_Mod_readHappening_5 ?_
    rw [h4]
    refine zx_istore C d_Mod_readHappening_6 (by decide) (lv1 := [(2, _), (0, _), (1, _)]) rfl ?_
    refine zx_aload C d_Mod_readHappening_7 rfl ?_
    refine zm_g C f_Mod_93_12 d_Mod_readHappening_8 rfl ?_
    refine zx_iload C d_Mod_readHappening_11 rfl ?_
    refine zx_ic_ge C d_Mod_readHappening_12 (fun h12 => ?_) (fun h12 => ?_)
    · refine zx_ic C d_Mod_readHappening_27 ?_
      refine zx_istore C d_Mod_readHappening_28 (by decide) (lv1 := [(3, _), (2, _), (0, _), (1, _)]) rfl ?_
      refine zx_aload C d_Mod_readHappening_29 rfl ?_
      refine zm_g C f_Mod_43_12 d_Mod_readHappening_30 rfl ?_
      refine zx_iload C d_Mod_readHappening_33 rfl ?_
      refine zx_iload C d_Mod_readHappening_34 rfl ?_
      refine zx_ic C d_Mod_readHappening_35 ?_
      refine zx_ic_ne C d_Mod_readHappening_37 (fun h37 => ?_) (fun h37 => ?_)
      · refine zx_iload C d_Mod_readHappening_44 rfl ?_
        refine zx_ic C d_Mod_readHappening_45 ?_
        refine zx_ic_ne C d_Mod_readHappening_47 (fun h47 => ?_) (fun h47 => ?_)
        · refine zx_iload C d_Mod_readHappening_54 rfl ?_
          refine zx_ic C d_Mod_readHappening_55 ?_
          refine zx_ic_ne C d_Mod_readHappening_57 (fun h57 => ?_) (fun h57 => ?_)
          · refine zx_ic C d_Mod_readHappening_64 ?_
            refine zm_st19 C d_Mod_readHappening_66 (4 * h) rfl (by omega) ?_
            refine zx_aload C d_Mod_readHappening_67 rfl ?_
            refine zm_g C f_Mod_43_12 d_Mod_readHappening_68 rfl ?_
            refine zx_iload C d_Mod_readHappening_71 rfl ?_
            refine zm_ld19 C d_Mod_readHappening_72 (4 * h) rfl (by omega) ?_
            refine zx_ic C d_Mod_readHappening_73 ?_
            refine zx_ic_ne C d_Mod_readHappening_75 (fun h75 => ?_) (fun h75 => ?_)
            · exact absurd (upd_eq _ _ _) h75
            · refine zx_ic C d_Mod_readHappening_78 ?_
              exact zx_zret C hq (by decide) d_Mod_readHappening_79 (⟨0, rfl, F, upd (R 19) (4 * h) (-9), rfl, by rw [hH]; exact e16, fun j _ _ => rfl, fun j hj => upd_ne _ _ (by omega), fun _ => rfl, fun x hx => by rw [hH] at hx; cases hx⟩)
          · exact absurd h57 (by decide)
        · exact absurd h47 (by decide)
      · exact absurd h37 (by decide)
    · exact absurd (by rw [e16]; exact nI_le (by omega) (by omega)) h12
