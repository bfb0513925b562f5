def prE (n nh : Nat) (r : Nat × Option (Nat × (Nat → Nat → Nat))) : Nat × Option (Nat × Nat × (Nat → Nat → Nat)) := match r with
  | (p1, none) => (p1, none)
  | (p1, some (nd, q1)) => if p1 = n then (p1, some (nh, nd, q1)) else (p1, none)
theorem prD_s (c : Nat → Int32) (n p nh : Nat) (q : Nat → Nat → Nat) : prD c n (p, some (nh, q)) = prE n nh (pD c n 5 p 0 q) := rfl
theorem prD_n (c : Nat → Int32) (n p : Nat) : prD c n (p, none) = (p, none) := rfl
theorem prE_n (n nh p : Nat) : prE n nh (p, none) = (p, none) := rfl
theorem prE_s (n nh p nd : Nat) (q : Nat → Nat → Nat) : prE n nh (p, some (nd, q)) = if p = n then (p, some (nh, nd, q)) else (p, none) := rfl
theorem pD_s (c : Nat → Int32) (n k p nd : Nat) (q : Nat → Nat → Nat) : pD c n (k + 1) p nd q = if p < n ∧ c p = 44 then (match rdD c n (p + 1) with
    | (p1, none) => (p1, none)
    | (p1, some x) => pD c n k p1 (nd + 1) (put4 q 4 nd x)) else (p, some (nd, q)) := rfl
theorem pH_s (c : Nat → Int32) (n k p nh : Nat) (q : Nat → Nat → Nat) : pH c n (k + 1) p nh q = if p < n ∧ c p = 59 then (match rdH c n (p + 1) with
    | (p1, none) => (p1, none)
    | (p1, some x) => pH c n k p1 (nh + 1) (put4 q 0 nh x)) else (p, some (nh, q)) := rfl
theorem ur_sw (R : Nat → Nat → Int32) (a b x : Nat → Int32) : ur (ur (ur R 19 a) 20 b) 19 x = ur (ur R 19 x) 20 b := by
  funext z; unfold ur
  by_cases h1 : z = 19
  · subst h1; rfl
  · simp only [if_neg h1]
def rdK (F1 F : Nat → Int32) : Prop := ∀ j, j ≠ 16 → j ≠ 17 → j ≠ 18 → F1 j = F j
set_option maxHeartbeats 4000000 in
set_option maxRecDepth 20000 in
theorem c_Mod_readDay (G : ZG) (o : Nat) (ad : Nat → Nat) (F : Nat → Int32) (R : Nat → Nat → Int32) (X : va_W) (c : Nat → Int32) (fs n : Nat) (hc : ∀ j, j < n → R 4 (fs + j) = c j) (hfn : fs + n ≤ 240) (e16 : F 16 = nI fs) : ZM G y_Mod_readDay b_Mod_readDay 2 (some .boolean) r_Mod_readDay [.ref o, .int (nI (fs + n))] (mw G o ad F R ++ X) (zpi (fun r w => ∃ (F1 : Nat → Int32) (r19 r20 : Nat → Int32), w = mw G o ad F1 (ur (ur R 19 r19) 20 r20) ++ X ∧ F1 16 = nI (fs + (prs c n).1) ∧ (prs c n).1 ≤ n ∧ rdK F1 F ∧ ((prs c n).2 = none → r = 0) ∧ ∀ x, (prs c n).2 = some x → r = 1 ∧ F1 17 = nI x.1 ∧ F1 18 = nI x.2.1 ∧ rdrep x.2.2 x.1 x.2.1 r19 r20)) := by
  refine ZM.of "SameTuesdayModel" "readDay" rfl rfl (by decide) (Nat.le_of_ble_eq_true rfl) (fun Y C hq => ?_)
  change ZV G Y 0 0 0 [(0, .ref o), (1, .int (nI (fs + n)))] [] (mw G o ad F R ++ X)
  have k97 : ∀ (F1 : Nat → Int32) (r19 r20 : Nat → Int32) (p nh nd : Nat) (q : Nat → Nat → Nat), F1 16 = nI (fs + p) → p ≤ n → F1 17 = nI nh → F1 18 = nI nd → rdrep q nh nd r19 r20 → rdK F1 F → prs c n = prE n nh (p, some (nd, q)) → ZV G Y 0 0 97 [(0, .ref o), (1, .int (nI (fs + n)))] [] (mw G o ad F1 (ur (ur R 19 r19) 20 r20) ++ X) := by
    intro F1 r19 r20 p nh nd q e16 hp e17 e18 hr hK hP
    rw [prE_s] at hP
    refine zx_aload C d_Mod_readDay_97 rfl ?_
    refine zm_g C f_Mod_93_12 d_Mod_readDay_98 rfl ?_
    refine zx_iload C d_Mod_readDay_101 rfl ?_
    refine zx_ic_ne C d_Mod_readDay_102 (fun h102 => ?_) (fun h102 => ?_)
    · rw [if_neg (fun z => h102 (by rw [e16, z]))] at hP
      refine zx_ic C d_Mod_readDay_109 ?_
      exact zx_zret C hq (by decide) d_Mod_readDay_110 (by first | exact ⟨0, rfl, F1, r19, r20, rfl, by rw [hP]; exact e16, by rw [hP]; exact hp, hK, fun _ => rfl, fun x hx => by rw [hP] at hx; cases hx⟩ | exact ⟨1, rfl, F1, r19, r20, rfl, by rw [hP]; exact e16, by rw [hP]; exact hp, hK, fun z => (by rw [hP] at z; cases z), fun x hx => by rw [hP] at hx; cases hx; exact ⟨rfl, e17, e18, hr⟩⟩)
    · rw [if_pos (by have := (nI_eq (by omega) (by omega)).mp (e16.symm.trans h102); omega)] at hP
      refine zx_ic C d_Mod_readDay_105 ?_
      refine zx_goto C d_Mod_readDay_106 ?_
      exact zx_zret C hq (by decide) d_Mod_readDay_110 (by first | exact ⟨0, rfl, F1, r19, r20, rfl, by rw [hP]; exact e16, by rw [hP]; exact hp, hK, fun _ => rfl, fun x hx => by rw [hP] at hx; cases hx⟩ | exact ⟨1, rfl, F1, r19, r20, rfl, by rw [hP]; exact e16, by rw [hP]; exact hp, hK, fun z => (by rw [hP] at z; cases z), fun x hx => by rw [hP] at hx; cases hx; exact ⟨rfl, e17, e18, hr⟩⟩)
  have kD : ∀ k (F1 : Nat → Int32) (r19 r20 : Nat → Int32) (p nh nd : Nat) (q : Nat → Nat → Nat), nd + k = 5 → F1 16 = nI (fs + p) → p ≤ n → F1 17 = nI nh → F1 18 = nI nd → rdrep q nh nd r19 r20 → rdK F1 F → prs c n = prE n nh (pD c n k p nd q) → ZV G Y 0 0 69 [(0, .ref o), (1, .int (nI (fs + n)))] [] (mw G o ad F1 (ur (ur R 19 r19) 20 r20) ++ X) := by
    intro k
    induction k with
    | zero =>
      intro F1 r19 r20 p nh nd q hnd e16 hp e17 e18 hr hK hP
      refine zx_aload C d_Mod_readDay_69 rfl ?_
      refine zm_g C f_Mod_117_12 d_Mod_readDay_70 rfl ?_
      refine zx_ic C d_Mod_readDay_73 ?_
      refine zx_ic_ge C d_Mod_readDay_74 (fun h74 => ?_) (fun h74 => ?_)
      · exact zx_lv [0, 1] rfl (k97 F1 r19 r20 p nh nd q e16 hp e17 e18 hr hK hP)
      · exact absurd (by rw [e18, show nd = 5 by omega]; exact Int32.le_refl _) h74
    | succ k ih =>
      intro F1 r19 r20 p nh nd q hnd e16 hp e17 e18 hr hK hP
      rw [pD_s] at hP
      by_cases hs : p < n ∧ c p = 44
      · rw [if_pos hs] at hP
        have hle := rdD_le (c := c) (show p + 1 ≤ n by omega)
        have hK1 : ∀ v, rdK (upd F1 16 v) F := fun v j a b c2 => by rw [upd_ne _ _ a]; exact hK j a b c2
        cases hr0 : rdD c n (p + 1) with
        | mk p1 ox =>
        rw [hr0] at hle hP
        cases ox with
        | none =>
          refine zx_aload C d_Mod_readDay_69 rfl ?_
          refine zm_g C f_Mod_117_12 d_Mod_readDay_70 rfl ?_
          refine zx_ic C d_Mod_readDay_73 ?_
          refine zx_ic_ge C d_Mod_readDay_74 (fun h74 => ?_) (fun h74 => ?_)
          · exact absurd h74 (by rw [e18]; exact nI_ge (a := nd) (b := 5) (by omega) (by omega))
          · refine zx_aload C d_Mod_readDay_77 rfl ?_
            refine zx_iload C d_Mod_readDay_78 rfl ?_
            refine zx_ic C d_Mod_readDay_79 ?_
            refine zr_di (zr_V C l_Mod_126 d_Mod_readDay_81 (As := [_, _]) rfl rfl (Nat.le_of_ble_eq_true rfl) (c_Mod_isSign G _ _ _ _ _ c fs n p (by exact hc) hfn hp (by exact e16) 44) 0 rfl rfl ⟨Nat.le_of_ble_eq_true rfl, Nat.le_of_ble_eq_true rfl, Nat.le_of_ble_eq_true rfl, Nat.le_of_ble_eq_true rfl⟩) ?_
            rw [zB_t hs, if_pos hs, adv_s]
            refine zx_if_eq C d_Mod_readDay_84 (fun h84 => ?_) (fun h84 => ?_)
            · exact absurd h84 (by decide)
            · refine zx_aload C d_Mod_readDay_87 rfl ?_
              refine zx_iload C d_Mod_readDay_88 rfl ?_
              refine zr_i (zr_V C l_Mod_133 d_Mod_readDay_89 (As := [_]) rfl rfl (Nat.le_of_ble_eq_true rfl) (c_Mod_readOneDeed G _ _ _ _ _ c fs n (p + 1) (by exact hc) hfn (by omega) (by exact rfl) nd (by omega) (by exact e18)) 0 rfl rfl ⟨Nat.le_of_ble_eq_true rfl, Nat.le_of_ble_eq_true rfl, Nat.le_of_ble_eq_true rfl, Nat.le_of_ble_eq_true rfl⟩) (fun r w1 hpq => ?_)
              obtain ⟨F2, s20, rfl, f16, fk, fr, fn, fx⟩ := hpq
              rw [hr0] at f16 fn fx
              refine zx_if_ne C d_Mod_readDay_92 (fun h92 => ?_) (fun h92 => ?_)
              · exact absurd (fn rfl) h92
              · refine zx_ic C d_Mod_readDay_95 ?_
                exact zx_zret C hq (by decide) d_Mod_readDay_96 (⟨0, rfl, F2, r19, s20, by rw [ur_ur], by rw [show prs c n = (p1, none) from hP]; exact f16, by rw [show prs c n = (p1, none) from hP]; exact hle.2, fun j a b c2 => (fk j a c2).trans (hK1 _ j a b c2), fun _ => rfl, fun x hx => by rw [show prs c n = (p1, none) from hP] at hx; cases hx⟩)
        | some x =>
          refine zx_aload C d_Mod_readDay_69 rfl ?_
          refine zm_g C f_Mod_117_12 d_Mod_readDay_70 rfl ?_
          refine zx_ic C d_Mod_readDay_73 ?_
          refine zx_ic_ge C d_Mod_readDay_74 (fun h74 => ?_) (fun h74 => ?_)
          · exact absurd h74 (by rw [e18]; exact nI_ge (a := nd) (b := 5) (by omega) (by omega))
          · refine zx_aload C d_Mod_readDay_77 rfl ?_
            refine zx_iload C d_Mod_readDay_78 rfl ?_
            refine zx_ic C d_Mod_readDay_79 ?_
            refine zr_di (zr_V C l_Mod_126 d_Mod_readDay_81 (As := [_, _]) rfl rfl (Nat.le_of_ble_eq_true rfl) (c_Mod_isSign G _ _ _ _ _ c fs n p (by exact hc) hfn hp (by exact e16) 44) 0 rfl rfl ⟨Nat.le_of_ble_eq_true rfl, Nat.le_of_ble_eq_true rfl, Nat.le_of_ble_eq_true rfl, Nat.le_of_ble_eq_true rfl⟩) ?_
            rw [zB_t hs, if_pos hs, adv_s]
            refine zx_if_eq C d_Mod_readDay_84 (fun h84 => ?_) (fun h84 => ?_)
            · exact absurd h84 (by decide)
            · refine zx_aload C d_Mod_readDay_87 rfl ?_
              refine zx_iload C d_Mod_readDay_88 rfl ?_
              refine zr_i (zr_V C l_Mod_133 d_Mod_readDay_89 (As := [_]) rfl rfl (Nat.le_of_ble_eq_true rfl) (c_Mod_readOneDeed G _ _ _ _ _ c fs n (p + 1) (by exact hc) hfn (by omega) (by exact rfl) nd (by omega) (by exact e18)) 0 rfl rfl ⟨Nat.le_of_ble_eq_true rfl, Nat.le_of_ble_eq_true rfl, Nat.le_of_ble_eq_true rfl, Nat.le_of_ble_eq_true rfl⟩) (fun r w1 hpq => ?_)
              obtain ⟨F2, s20, rfl, f16, fk, fr, fn, fx⟩ := hpq
              rw [hr0] at f16 fn fx
              obtain ⟨g1, g2, g3, g4, g5, g6⟩ := fx x rfl
              rw [ur_ur]
              refine zx_if_ne C d_Mod_readDay_92 (fun h92 => ?_) (fun h92 => ?_)
              · exact zx_lv [0, 1] rfl (ih F2 r19 s20 p1 nh (nd + 1) (put4 q 4 nd x) (by omega) f16 hle.2 ((fk 17 (by decide) (by decide)).trans e17) g2 (rdrep_D hr fr g3 g4 g5 g6) (fun j a b c2 => (fk j a c2).trans (hK1 _ j a b c2)) hP)
              · exact absurd ((fx x rfl).1.symm.trans h92) (by decide)
      · rw [if_neg hs] at hP
        refine zx_aload C d_Mod_readDay_69 rfl ?_
        refine zm_g C f_Mod_117_12 d_Mod_readDay_70 rfl ?_
        refine zx_ic C d_Mod_readDay_73 ?_
        refine zx_ic_ge C d_Mod_readDay_74 (fun h74 => ?_) (fun h74 => ?_)
        · exact absurd h74 (by rw [e18]; exact nI_ge (a := nd) (b := 5) (by omega) (by omega))
        · refine zx_aload C d_Mod_readDay_77 rfl ?_
          refine zx_iload C d_Mod_readDay_78 rfl ?_
          refine zx_ic C d_Mod_readDay_79 ?_
          refine zr_di (zr_V C l_Mod_126 d_Mod_readDay_81 (As := [_, _]) rfl rfl (Nat.le_of_ble_eq_true rfl) (c_Mod_isSign G _ _ _ _ _ c fs n p (by exact hc) hfn hp (by exact e16) 44) 0 rfl rfl ⟨Nat.le_of_ble_eq_true rfl, Nat.le_of_ble_eq_true rfl, Nat.le_of_ble_eq_true rfl, Nat.le_of_ble_eq_true rfl⟩) ?_
          rw [zB_f hs, if_neg hs, adv_n]
          refine zx_if_eq C d_Mod_readDay_84 (fun h84 => ?_) (fun h84 => ?_)
          · exact zx_lv [0, 1] rfl (k97 F1 r19 r20 p nh nd q e16 hp e17 e18 hr hK hP)
          · exact absurd rfl h84
  have kH : ∀ k (F1 : Nat → Int32) (r19 r20 : Nat → Int32) (p nh : Nat) (q : Nat → Nat → Nat), nh + k = 6 → F1 16 = nI (fs + p) → p ≤ n → F1 17 = nI nh → F1 18 = nI 0 → rdrep q nh 0 r19 r20 → rdK F1 F → prs c n = prD c n (pH c n k p nh q) → ZV G Y 0 0 40 [(0, .ref o), (1, .int (nI (fs + n)))] [] (mw G o ad F1 (ur (ur R 19 r19) 20 r20) ++ X) := by
    intro k
    induction k with
    | zero =>
      intro F1 r19 r20 p nh q hnd e16 hp e17 e18 hr hK hP
      refine zx_aload C d_Mod_readDay_40 rfl ?_
      refine zm_g C f_Mod_114_12 d_Mod_readDay_41 rfl ?_
      refine zx_ic C d_Mod_readDay_44 ?_
      refine zx_ic_ge C d_Mod_readDay_46 (fun h46 => ?_) (fun h46 => ?_)
      · exact zx_lv [0, 1] rfl (kD 5 F1 r19 r20 p nh 0 q (by omega) e16 hp e17 e18 hr hK hP)
      · exact absurd (by rw [e17, show nh = 6 by omega]; exact Int32.le_refl _) h46
    | succ k ih =>
      intro F1 r19 r20 p nh q hnd e16 hp e17 e18 hr hK hP
      rw [pH_s] at hP
      by_cases hs : p < n ∧ c p = 59
      · rw [if_pos hs] at hP
        have hle := rdH_le (c := c) (show p + 1 ≤ n by omega)
        have hK1 : ∀ v, rdK (upd F1 16 v) F := fun v j a b c2 => by rw [upd_ne _ _ a]; exact hK j a b c2
        cases hr0 : rdH c n (p + 1) with
        | mk p1 ox =>
        rw [hr0] at hle hP
        cases ox with
        | none =>
          refine zx_aload C d_Mod_readDay_40 rfl ?_
          refine zm_g C f_Mod_114_12 d_Mod_readDay_41 rfl ?_
          refine zx_ic C d_Mod_readDay_44 ?_
          refine zx_ic_ge C d_Mod_readDay_46 (fun h46 => ?_) (fun h46 => ?_)
          · exact absurd h46 (by rw [e17]; exact nI_ge (a := nh) (b := 6) (by omega) (by omega))
          · refine zx_aload C d_Mod_readDay_49 rfl ?_
            refine zx_iload C d_Mod_readDay_50 rfl ?_
            refine zx_ic C d_Mod_readDay_51 ?_
            refine zr_di (zr_V C l_Mod_126 d_Mod_readDay_53 (As := [_, _]) rfl rfl (Nat.le_of_ble_eq_true rfl) (c_Mod_isSign G _ _ _ _ _ c fs n p (by exact hc) hfn hp (by exact e16) 59) 0 rfl rfl ⟨Nat.le_of_ble_eq_true rfl, Nat.le_of_ble_eq_true rfl, Nat.le_of_ble_eq_true rfl, Nat.le_of_ble_eq_true rfl⟩) ?_
            rw [zB_t hs, if_pos hs, adv_s]
            refine zx_if_eq C d_Mod_readDay_56 (fun h56 => ?_) (fun h56 => ?_)
            · exact absurd h56 (by decide)
            · refine zx_aload C d_Mod_readDay_59 rfl ?_
              refine zx_iload C d_Mod_readDay_60 rfl ?_
              refine zr_i (zr_V C l_Mod_130 d_Mod_readDay_61 (As := [_]) rfl rfl (Nat.le_of_ble_eq_true rfl) (c_Mod_readHappening G _ _ _ _ _ c fs n (p + 1) (by exact hc) hfn (by omega) (by exact rfl) nh (by omega) (by exact e17)) 0 rfl rfl ⟨Nat.le_of_ble_eq_true rfl, Nat.le_of_ble_eq_true rfl, Nat.le_of_ble_eq_true rfl, Nat.le_of_ble_eq_true rfl⟩) (fun r w1 hpq => ?_)
              obtain ⟨F2, s19, rfl, f16, fk, fr, fn, fx⟩ := hpq
              rw [hr0] at f16 fn fx
              refine zx_if_ne C d_Mod_readDay_64 (fun h64 => ?_) (fun h64 => ?_)
              · exact absurd (fn rfl) h64
              · refine zx_ic C d_Mod_readDay_67 ?_
                exact zx_zret C hq (by decide) d_Mod_readDay_68 (⟨0, rfl, F2, s19, r20, by rw [ur_sw], by rw [show prs c n = (p1, none) from hP]; exact f16, by rw [show prs c n = (p1, none) from hP]; exact hle.2, fun j a b c2 => (fk j a b).trans (hK1 _ j a b c2), fun _ => rfl, fun x hx => by rw [show prs c n = (p1, none) from hP] at hx; cases hx⟩)
        | some x =>
          refine zx_aload C d_Mod_readDay_40 rfl ?_
          refine zm_g C f_Mod_114_12 d_Mod_readDay_41 rfl ?_
          refine zx_ic C d_Mod_readDay_44 ?_
          refine zx_ic_ge C d_Mod_readDay_46 (fun h46 => ?_) (fun h46 => ?_)
          · exact absurd h46 (by rw [e17]; exact nI_ge (a := nh) (b := 6) (by omega) (by omega))
          · refine zx_aload C d_Mod_readDay_49 rfl ?_
            refine zx_iload C d_Mod_readDay_50 rfl ?_
            refine zx_ic C d_Mod_readDay_51 ?_
            refine zr_di (zr_V C l_Mod_126 d_Mod_readDay_53 (As := [_, _]) rfl rfl (Nat.le_of_ble_eq_true rfl) (c_Mod_isSign G _ _ _ _ _ c fs n p (by exact hc) hfn hp (by exact e16) 59) 0 rfl rfl ⟨Nat.le_of_ble_eq_true rfl, Nat.le_of_ble_eq_true rfl, Nat.le_of_ble_eq_true rfl, Nat.le_of_ble_eq_true rfl⟩) ?_
            rw [zB_t hs, if_pos hs, adv_s]
            refine zx_if_eq C d_Mod_readDay_56 (fun h56 => ?_) (fun h56 => ?_)
            · exact absurd h56 (by decide)
            · refine zx_aload C d_Mod_readDay_59 rfl ?_
              refine zx_iload C d_Mod_readDay_60 rfl ?_
              refine zr_i (zr_V C l_Mod_130 d_Mod_readDay_61 (As := [_]) rfl rfl (Nat.le_of_ble_eq_true rfl) (c_Mod_readHappening G _ _ _ _ _ c fs n (p + 1) (by exact hc) hfn (by omega) (by exact rfl) nh (by omega) (by exact e17)) 0 rfl rfl ⟨Nat.le_of_ble_eq_true rfl, Nat.le_of_ble_eq_true rfl, Nat.le_of_ble_eq_true rfl, Nat.le_of_ble_eq_true rfl⟩) (fun r w1 hpq => ?_)
              obtain ⟨F2, s19, rfl, f16, fk, fr, fn, fx⟩ := hpq
              rw [hr0] at f16 fn fx
              obtain ⟨g1, g2, g3, g4, g5, g6⟩ := fx x rfl
              rw [ur_sw]
              refine zx_if_ne C d_Mod_readDay_64 (fun h64 => ?_) (fun h64 => ?_)
              · exact zx_lv [0, 1] rfl (ih F2 s19 r20 p1 (nh + 1) (put4 q 0 nh x) (by omega) f16 hle.2 g2 ((fk 18 (by decide) (by decide)).trans e18) (rdrep_H hr fr g3 g4 g5 g6) (fun j a b c2 => (fk j a b).trans (hK1 _ j a b c2)) hP)
              · exact absurd ((fx x rfl).1.symm.trans h64) (by decide)
      · rw [if_neg hs] at hP
        refine zx_aload C d_Mod_readDay_40 rfl ?_
        refine zm_g C f_Mod_114_12 d_Mod_readDay_41 rfl ?_
        refine zx_ic C d_Mod_readDay_44 ?_
        refine zx_ic_ge C d_Mod_readDay_46 (fun h46 => ?_) (fun h46 => ?_)
        · exact absurd h46 (by rw [e17]; exact nI_ge (a := nh) (b := 6) (by omega) (by omega))
        · refine zx_aload C d_Mod_readDay_49 rfl ?_
          refine zx_iload C d_Mod_readDay_50 rfl ?_
          refine zx_ic C d_Mod_readDay_51 ?_
          refine zr_di (zr_V C l_Mod_126 d_Mod_readDay_53 (As := [_, _]) rfl rfl (Nat.le_of_ble_eq_true rfl) (c_Mod_isSign G _ _ _ _ _ c fs n p (by exact hc) hfn hp (by exact e16) 59) 0 rfl rfl ⟨Nat.le_of_ble_eq_true rfl, Nat.le_of_ble_eq_true rfl, Nat.le_of_ble_eq_true rfl, Nat.le_of_ble_eq_true rfl⟩) ?_
          rw [zB_f hs, if_neg hs, adv_n]
          refine zx_if_eq C d_Mod_readDay_56 (fun h56 => ?_) (fun h56 => ?_)
          · exact zx_lv [0, 1] rfl (kD 5 F1 r19 r20 p nh 0 q (by omega) e16 hp e17 e18 hr hK hP)
          · exact absurd rfl h56
  by_cases s0 : 0 < n ∧ c 0 = 115
  · by_cases s1 : 1 < n ∧ c 1 = 59
    · have hP0 : prs c n = (match rdH c n 2 with | (p, none) => (p, none) | (p, some x) => prD c n (pH c n 5 p 1 (put4 (fun _ _ => 0) 0 0 x))) := by rw [prs, if_neg (fun z => z s0), if_neg (fun z => z s1)]; rfl
      have hle := rdH_le (c := c) (show 2 ≤ n by omega)
      cases hr0 : rdH c n 2 with
      | mk p1 ox =>
      rw [hr0] at hle hP0
      cases ox with
      | none =>
        refine zx_aload C d_Mod_readDay_0 rfl ?_
        refine zx_ic C d_Mod_readDay_1 ?_
        refine zm_p C p_Mod_114_12 d_Mod_readDay_2 zb_fit_i (Nat.le_of_ble_eq_true rfl) zms_17 ?_
        refine zx_aload C d_Mod_readDay_5 rfl ?_
        refine zx_ic C d_Mod_readDay_6 ?_
        refine zm_p C p_Mod_117_12 d_Mod_readDay_7 zb_fit_i (Nat.le_of_ble_eq_true rfl) zms_18 ?_
        refine zx_aload C d_Mod_readDay_10 rfl ?_
        refine zx_iload C d_Mod_readDay_11 rfl ?_
        refine zx_ic C d_Mod_readDay_12 ?_
        refine zr_di (zr_V C l_Mod_126 d_Mod_readDay_14 (As := [_, _]) rfl rfl (Nat.le_of_ble_eq_true rfl) (c_Mod_isSign G _ _ _ _ _ c fs n 0 (by exact hc) hfn (by omega) (by exact e16) 115) 0 rfl rfl ⟨Nat.le_of_ble_eq_true rfl, Nat.le_of_ble_eq_true rfl, Nat.le_of_ble_eq_true rfl, Nat.le_of_ble_eq_true rfl⟩) ?_
        rw [zB_t s0, if_pos s0, adv_s]
        refine zx_if_eq C d_Mod_readDay_17 (fun h17 => ?_) (fun h17 => ?_)
        · exact absurd h17 (by decide)
        · refine zx_aload C d_Mod_readDay_20 rfl ?_
          refine zx_iload C d_Mod_readDay_21 rfl ?_
          refine zx_ic C d_Mod_readDay_22 ?_
          refine zr_di (zr_V C l_Mod_126 d_Mod_readDay_24 (As := [_, _]) rfl rfl (Nat.le_of_ble_eq_true rfl) (c_Mod_isSign G _ _ _ _ _ c fs n 1 (by exact hc) hfn (by omega) (by exact rfl) 59) 0 rfl rfl ⟨Nat.le_of_ble_eq_true rfl, Nat.le_of_ble_eq_true rfl, Nat.le_of_ble_eq_true rfl, Nat.le_of_ble_eq_true rfl⟩) ?_
          rw [zB_t s1, if_pos s1, adv_s, upd_upd]
          refine zx_if_eq C d_Mod_readDay_27 (fun h27 => ?_) (fun h27 => ?_)
          · exact absurd h27 (by decide)
          · refine zx_aload C d_Mod_readDay_30 rfl ?_
            refine zx_iload C d_Mod_readDay_31 rfl ?_
            refine zr_i (zr_V C l_Mod_130 d_Mod_readDay_32 (As := [_]) rfl rfl (Nat.le_of_ble_eq_true rfl) (c_Mod_readHappening G _ _ _ _ _ c fs n 2 (by exact hc) hfn (by omega) (by exact rfl) 0 (by omega) (by exact rfl)) 0 rfl rfl ⟨Nat.le_of_ble_eq_true rfl, Nat.le_of_ble_eq_true rfl, Nat.le_of_ble_eq_true rfl, Nat.le_of_ble_eq_true rfl⟩) (fun r w1 hpq => ?_)
            obtain ⟨F2, s19, rfl, f16, fk, fr, fn, fx⟩ := hpq
            rw [hr0] at f16 fn fx
            refine zx_if_ne C d_Mod_readDay_35 (fun h35 => ?_) (fun h35 => ?_)
            · exact absurd (fn rfl) h35
            · refine zx_ic C d_Mod_readDay_38 ?_
              exact zx_zret C hq (by decide) d_Mod_readDay_39 (⟨0, rfl, F2, s19, R 20, by rw [show ur (ur R 19 s19) 20 (R 20) = ur R 19 s19 from ur_self (ur R 19 s19) 20], by rw [show prs c n = (p1, none) from hP0]; exact f16, by rw [show prs c n = (p1, none) from hP0]; exact hle.2, fun j a b c2 => (fk j a b).trans (by rw [upd_ne _ _ a, upd_ne _ _ c2, upd_ne _ _ b]), fun _ => rfl, fun x hx => by rw [show prs c n = (p1, none) from hP0] at hx; cases hx⟩)
      | some x =>
        refine zx_aload C d_Mod_readDay_0 rfl ?_
        refine zx_ic C d_Mod_readDay_1 ?_
        refine zm_p C p_Mod_114_12 d_Mod_readDay_2 zb_fit_i (Nat.le_of_ble_eq_true rfl) zms_17 ?_
        refine zx_aload C d_Mod_readDay_5 rfl ?_
        refine zx_ic C d_Mod_readDay_6 ?_
        refine zm_p C p_Mod_117_12 d_Mod_readDay_7 zb_fit_i (Nat.le_of_ble_eq_true rfl) zms_18 ?_
        refine zx_aload C d_Mod_readDay_10 rfl ?_
        refine zx_iload C d_Mod_readDay_11 rfl ?_
        refine zx_ic C d_Mod_readDay_12 ?_
        refine zr_di (zr_V C l_Mod_126 d_Mod_readDay_14 (As := [_, _]) rfl rfl (Nat.le_of_ble_eq_true rfl) (c_Mod_isSign G _ _ _ _ _ c fs n 0 (by exact hc) hfn (by omega) (by exact e16) 115) 0 rfl rfl ⟨Nat.le_of_ble_eq_true rfl, Nat.le_of_ble_eq_true rfl, Nat.le_of_ble_eq_true rfl, Nat.le_of_ble_eq_true rfl⟩) ?_
        rw [zB_t s0, if_pos s0, adv_s]
        refine zx_if_eq C d_Mod_readDay_17 (fun h17 => ?_) (fun h17 => ?_)
        · exact absurd h17 (by decide)
        · refine zx_aload C d_Mod_readDay_20 rfl ?_
          refine zx_iload C d_Mod_readDay_21 rfl ?_
          refine zx_ic C d_Mod_readDay_22 ?_
          refine zr_di (zr_V C l_Mod_126 d_Mod_readDay_24 (As := [_, _]) rfl rfl (Nat.le_of_ble_eq_true rfl) (c_Mod_isSign G _ _ _ _ _ c fs n 1 (by exact hc) hfn (by omega) (by exact rfl) 59) 0 rfl rfl ⟨Nat.le_of_ble_eq_true rfl, Nat.le_of_ble_eq_true rfl, Nat.le_of_ble_eq_true rfl, Nat.le_of_ble_eq_true rfl⟩) ?_
          rw [zB_t s1, if_pos s1, adv_s, upd_upd]
          refine zx_if_eq C d_Mod_readDay_27 (fun h27 => ?_) (fun h27 => ?_)
          · exact absurd h27 (by decide)
          · refine zx_aload C d_Mod_readDay_30 rfl ?_
            refine zx_iload C d_Mod_readDay_31 rfl ?_
            refine zr_i (zr_V C l_Mod_130 d_Mod_readDay_32 (As := [_]) rfl rfl (Nat.le_of_ble_eq_true rfl) (c_Mod_readHappening G _ _ _ _ _ c fs n 2 (by exact hc) hfn (by omega) (by exact rfl) 0 (by omega) (by exact rfl)) 0 rfl rfl ⟨Nat.le_of_ble_eq_true rfl, Nat.le_of_ble_eq_true rfl, Nat.le_of_ble_eq_true rfl, Nat.le_of_ble_eq_true rfl⟩) (fun r w1 hpq => ?_)
            obtain ⟨F2, s19, rfl, f16, fk, fr, fn, fx⟩ := hpq
            rw [hr0] at f16 fn fx
            obtain ⟨g1, g2, g3, g4, g5, g6⟩ := fx x rfl
            refine zx_if_ne C d_Mod_readDay_35 (fun h35 => ?_) (fun h35 => ?_)
            · have k1 := kH 5 F2 s19 (R 20) p1 1 (put4 (fun _ _ => 0) 0 0 x) (by omega) f16 hle.2 g2 ((fk 18 (by decide) (by decide)).trans rfl) (rdrep_H (nh := 0) (r19 := R 19) ⟨fun h hh => by omega, fun d hd => by omega⟩ (fun j hj => by omega) g3 g4 g5 g6) (fun j a b c2 => (fk j a b).trans (by rw [upd_ne _ _ a, upd_ne _ _ c2, upd_ne _ _ b])) hP0
              rw [show ur (ur R 19 s19) 20 (R 20) = ur R 19 s19 from ur_self (ur R 19 s19) 20] at k1
              exact zx_lv [0, 1] rfl k1
            · exact absurd ((fx x rfl).1.symm.trans h35) (by decide)
    · have hP : prs c n = (1, none) := by rw [prs, if_neg (fun z => z s0), if_pos s1]
      refine zx_aload C d_Mod_readDay_0 rfl ?_
      refine zx_ic C d_Mod_readDay_1 ?_
      refine zm_p C p_Mod_114_12 d_Mod_readDay_2 zb_fit_i (Nat.le_of_ble_eq_true rfl) zms_17 ?_
      refine zx_aload C d_Mod_readDay_5 rfl ?_
      refine zx_ic C d_Mod_readDay_6 ?_
      refine zm_p C p_Mod_117_12 d_Mod_readDay_7 zb_fit_i (Nat.le_of_ble_eq_true rfl) zms_18 ?_
      refine zx_aload C d_Mod_readDay_10 rfl ?_
      refine zx_iload C d_Mod_readDay_11 rfl ?_
      refine zx_ic C d_Mod_readDay_12 ?_
      refine zr_di (zr_V C l_Mod_126 d_Mod_readDay_14 (As := [_, _]) rfl rfl (Nat.le_of_ble_eq_true rfl) (c_Mod_isSign G _ _ _ _ _ c fs n 0 (by exact hc) hfn (by omega) (by exact e16) 115) 0 rfl rfl ⟨Nat.le_of_ble_eq_true rfl, Nat.le_of_ble_eq_true rfl, Nat.le_of_ble_eq_true rfl, Nat.le_of_ble_eq_true rfl⟩) ?_
      rw [zB_t s0, if_pos s0, adv_s]
      refine zx_if_eq C d_Mod_readDay_17 (fun h17 => ?_) (fun h17 => ?_)
      · exact absurd h17 (by decide)
      · refine zx_aload C d_Mod_readDay_20 rfl ?_
        refine zx_iload C d_Mod_readDay_21 rfl ?_
        refine zx_ic C d_Mod_readDay_22 ?_
        refine zr_di (zr_V C l_Mod_126 d_Mod_readDay_24 (As := [_, _]) rfl rfl (Nat.le_of_ble_eq_true rfl) (c_Mod_isSign G _ _ _ _ _ c fs n 1 (by exact hc) hfn (by omega) (by exact rfl) 59) 0 rfl rfl ⟨Nat.le_of_ble_eq_true rfl, Nat.le_of_ble_eq_true rfl, Nat.le_of_ble_eq_true rfl, Nat.le_of_ble_eq_true rfl⟩) ?_
        rw [zB_f s1, if_neg s1, adv_n]
        refine zx_if_eq C d_Mod_readDay_27 (fun h27 => ?_) (fun h27 => ?_)
        · refine zx_ic C d_Mod_readDay_38 ?_
          exact zx_zret C hq (by decide) d_Mod_readDay_39 (⟨0, rfl, _, R 19, R 20, by rw [ur_self, show ur R 20 (R 20) = R from ur_self R 20], by rw [hP]; exact rfl, by rw [hP]; exact (by omega : 1 ≤ n), fun j a b c2 => by rw [upd_ne _ _ a, upd_ne _ _ c2, upd_ne _ _ b], fun _ => rfl, fun x hx => by rw [hP] at hx; cases hx⟩)
        · exact absurd rfl h27
  · have hP : prs c n = (0, none) := by rw [prs, if_pos s0]
    refine zx_aload C d_Mod_readDay_0 rfl ?_
    refine zx_ic C d_Mod_readDay_1 ?_
    refine zm_p C p_Mod_114_12 d_Mod_readDay_2 zb_fit_i (Nat.le_of_ble_eq_true rfl) zms_17 ?_
    refine zx_aload C d_Mod_readDay_5 rfl ?_
    refine zx_ic C d_Mod_readDay_6 ?_
    refine zm_p C p_Mod_117_12 d_Mod_readDay_7 zb_fit_i (Nat.le_of_ble_eq_true rfl) zms_18 ?_
    refine zx_aload C d_Mod_readDay_10 rfl ?_
    refine zx_iload C d_Mod_readDay_11 rfl ?_
    refine zx_ic C d_Mod_readDay_12 ?_
    refine zr_di (zr_V C l_Mod_126 d_Mod_readDay_14 (As := [_, _]) rfl rfl (Nat.le_of_ble_eq_true rfl) (c_Mod_isSign G _ _ _ _ _ c fs n 0 (by exact hc) hfn (by omega) (by exact e16) 115) 0 rfl rfl ⟨Nat.le_of_ble_eq_true rfl, Nat.le_of_ble_eq_true rfl, Nat.le_of_ble_eq_true rfl, Nat.le_of_ble_eq_true rfl⟩) ?_
    rw [zB_f s0, if_neg s0, adv_n]
    refine zx_if_eq C d_Mod_readDay_17 (fun h17 => ?_) (fun h17 => ?_)
    · refine zx_ic C d_Mod_readDay_38 ?_
      exact zx_zret C hq (by decide) d_Mod_readDay_39 (⟨0, rfl, _, R 19, R 20, by rw [ur_self, show ur R 20 (R 20) = R from ur_self R 20], by rw [hP]; exact e16, by rw [hP]; exact (by omega : 0 ≤ n), fun j a b c2 => by rw [upd_ne _ _ c2, upd_ne _ _ b], fun _ => rfl, fun x hx => by rw [hP] at hx; cases hx⟩)
    · exact absurd rfl h17
