set_option maxHeartbeats 1000000 in
set_option maxRecDepth 20000 in
theorem lw_loop {G : ZG} {Y : ZY} {nm : String} {b L o : Nat} {xs : Nat → Int32} {ad adm : Nat → Nat} (C : ZC G Y code "SameTuesdayLaw" nm ret room_1 4) (hX : ZX G Y b L xs) (hL : L ≤ 448) (hend : ∀ (kc ks : Nat) (lv : List (Nat × Value)) (w : va_W), kc ≤ 600000 → ks ≤ 7302249 → ZV G Y kc ks 1204 lv [.int 1] w) : ∀ c t, t + c = 70 → ∀ (S : ZA) (hA dA : Nat → Nat) (I : Nat → Int32) (Lw : Nat → Int64) (g : Option Nat) (QH QD : Nat → Option Nat) (RI : Nat → Nat → Int32) (RL : Nat → Nat → Int64) (F : Nat → Int32) (R : Nat → Nat → Int32), crp S hA dA I Lw QH QD RI RL → mrp S F R → ZV G Y (65 + 12 * t) (15041 + 67 * t) 18 [(3, .int (nI (7 * t))), (2, .ref o), (1, .ref (ad 0)), (0, .ref b)] [] (cw G ad I Lw g none QH QD RI RL ++ pw hA dA (aT S) (mw G o adm F R)) := by
  intro c
  induction c with
  | zero =>
    intro t ht S hA dA I Lw g QH QD RI RL F R hm hM
    refine zx_iload C d_LawX_law_18 rfl ?_
    refine zx_aload C d_LawX_law_19 rfl ?_
    refine zx_slen C hX d_LawX_law_20 ?_
    refine zx_ic C d_LawX_law_21 ?_
    refine zx_isub C d_LawX_law_23 ?_
    refine zx_ic_gt C d_LawX_law_24 (fun _ => ?_) (fun h => absurd (lp_in hL (by omega) h) (by omega))
    refine zx_ic C d_LawX_law_1203 ?_
    exact hend _ _ _ _ (by omega) (by omega)
  | succ c ih =>
    intro t ht S hA dA I Lw g QH QD RI RL F R hm hM
    refine zx_iload C d_LawX_law_18 rfl ?_
    refine zx_aload C d_LawX_law_19 rfl ?_
    refine zx_slen C hX d_LawX_law_20 ?_
    refine zx_ic C d_LawX_law_21 ?_
    refine zx_isub C d_LawX_law_23 ?_
    refine zx_ic_gt C d_LawX_law_24 (fun _ => ?_) (fun h => ?_)
    · refine zx_ic C d_LawX_law_1203 ?_
      exact hend _ _ _ _ (by omega) (by omega)
    · have hin := lp_in hL (by omega) h
      have kk : ∀ (S2 : ZA) (hA2 dA2 : Nat → Nat) (I2 : Nat → Int32) (L2 : Nat → Int64) (g2 : Option Nat) (QH2 QD2 : Nat → Option Nat) (RI2 : Nat → Nat → Int32) (RL2 : Nat → Nat → Int64) (F2 : Nat → Int32) (R2 : Nat → Nat → Int32), crp S2 hA2 dA2 I2 L2 QH2 QD2 RI2 RL2 → mrp S2 F2 R2 → ZV G Y (65 + 12 * (t + 1)) (15041 + 67 * (t + 1)) 1197 [(3, .int (nI (7 * t))), (2, .ref o), (1, .ref (ad 0)), (0, .ref b)] [] (cw G ad I2 L2 g2 none QH2 QD2 RI2 RL2 ++ pw hA2 dA2 (aT S2) (mw G o adm F2 R2)) := by
        intro S2 hA2 dA2 I2 L2 g2 QH2 QD2 RI2 RL2 F2 R2 hm2 hM2
        refine zx_iinc C d_LawX_law_1197 (by decide) rfl (lv1 := [(3, _), (2, _), (1, _), (0, _)]) rfl ?_
        refine zx_goto C d_LawX_law_1200 ?_
        have k1 := ih (t + 1) (by omega) S2 hA2 dA2 I2 L2 g2 QH2 QD2 RI2 RL2 F2 R2 hm2 hM2
        rw [show nI (7 * (t + 1)) = nI (7 * t) + 7 from (nI_add (7 * t) 7).symm] at k1
        exact k1
      refine zx_aload C d_LawX_law_27 rfl ?_
      refine zx_iload C d_LawX_law_28 rfl ?_
      refine zx_sld C hX d_LawX_law_29 (7 * t) rfl (by omega) (by omega) ?_
      refine zx_ic C d_LawX_law_30 ?_
      refine zx_iand C d_LawX_law_32 ?_
      obtain ⟨b0, b31⟩ := and31 (xs (7 * t))
      refine zx_table C d_LawX_law_33 (fun _ => ⟨1197, by decide, ?_⟩) (fun h1 h2 => ?_)
      · refine zx_widen (kc1 := 65 + 12 * (t + 1)) (ks1 := 15041 + 67 * (t + 1)) (by omega) (by omega) ?_
        exact kk _ _ _ _ _ _ _ _ _ _ _ _ hm hM
      · obtain ⟨j, hj⟩ : ∃ j : Nat, (xs (7 * t) &&& 31).toInt = (j : Int) := ⟨(xs (7 * t) &&& 31).toInt.toNat, by omega⟩
        have hj28 : j ≤ 28 := by omega
        rw [hj]
        match j, hj28 with
        | 0, _ => exact ⟨131, 164, rfl, by decide, cs_0 C hX hL hin hm hM kk⟩
        | 1, _ => exact ⟨184, 217, rfl, by decide, cs_1 C hX hL hin hm hM kk⟩
        | 2, _ => exact ⟨217, 250, rfl, by decide, cs_2 C hX hL hin hm hM kk⟩
        | 3, _ => exact ⟨250, 283, rfl, by decide, cs_3 C hX hL hin hm hM kk⟩
        | 4, _ => exact ⟨273, 306, rfl, by decide, cs_4 C hX hL hin hm hM kk⟩
        | 5, _ => exact ⟨306, 339, rfl, by decide, cs_5 C hX hL hin hm hM kk⟩
        | 6, _ => exact ⟨369, 402, rfl, by decide, cs_6 C hX hL hin hm hM kk⟩
        | 7, _ => exact ⟨432, 465, rfl, by decide, cs_7 C hX hL hin hm hM kk⟩
        | 8, _ => exact ⟨485, 518, rfl, by decide, cs_8 C hX hL hin hm hM kk⟩
        | 9, _ => exact ⟨518, 551, rfl, by decide, cs_9 C hX hL hin hm hM kk⟩
        | 10, _ => exact ⟨541, 574, rfl, by decide, cs_10 C hX hL hin hm hM kk⟩
        | 11, _ => exact ⟨564, 597, rfl, by decide, cs_11 C hX hL hin hm hM kk⟩
        | 12, _ => exact ⟨587, 620, rfl, by decide, cs_12 C hX hL hin hm hM kk⟩
        | 13, _ => exact ⟨610, 643, rfl, by decide, cs_13 C hX hL hin hm hM kk⟩
        | 14, _ => exact ⟨633, 666, rfl, by decide, cs_14 C hX hL hin hm hM kk⟩
        | 15, _ => exact ⟨646, 679, rfl, by decide, cs_15 C hX hL hin hm hM kk⟩
        | 16, _ => exact ⟨669, 702, rfl, by decide, cs_16 C hX hL hin hm hM kk⟩
        | 17, _ => exact ⟨744, 777, rfl, by decide, cs_17 C hX hL hin hm hM kk⟩
        | 18, _ => exact ⟨820, 853, rfl, by decide, cs_18 C hX hL hin hm hM kk⟩
        | 19, _ => exact ⟨863, 896, rfl, by decide, cs_19 C hX hL hin hm hM kk⟩
        | 20, _ => exact ⟨886, 919, rfl, by decide, cs_20 C hX hL hin hm hM kk⟩
        | 21, _ => exact ⟨929, 962, rfl, by decide, cs_21 C hX hL hin hm hM kk⟩
        | 22, _ => exact ⟨973, 1006, rfl, by decide, cs_22 C hX hL hin hm hM kk⟩
        | 23, _ => exact ⟨1036, 1069, rfl, by decide, cs_23 C hX hL hin hm hM kk⟩
        | 24, _ => exact ⟨1059, 1092, rfl, by decide, cs_24 C hX hL hin hm hM kk⟩
        | 25, _ => exact ⟨1082, 1115, rfl, by decide, cs_25 C hX hL hin hm hM kk⟩
        | 26, _ => exact ⟨1115, 1148, rfl, by decide, cs_26 C hX hL hin hm hM kk⟩
        | 27, _ => exact ⟨1128, 1161, rfl, by decide, cs_27 C hX hL hin hm hM kk⟩
        | 28, _ => exact ⟨1141, 1174, rfl, by decide, cs_28 C hX hL hin hm hM kk⟩
        | j + 29, h => exact absurd h (by omega)
set_option maxHeartbeats 4000000 in
set_option maxRecDepth 20000 in
theorem whole_start {p : Program} {e : Env} {s : State} {m : MethodId} {below : List Frame} {meth : Method} {c : Code} (l : Launch) {b L : Nat} {xs : Nat → Int32} (hL : L ≤ 448) (C0 : lw_At p s m meth c b L xs) : W p l e room_1 s m #[Value.ref b] below meth c s.heap [] 0 0 (lw_Z below #[Value.ref b] s) (entryFrame m ([Value.ref b] : List Value).toArray 4) := by
  obtain ⟨D, cA, t, C⟩ := lw_zc (e := e) (below := below) l C0
  have hX : ZX (l, D, cA, s.heap.size, t) (p, e, room_1, s, m, #[Value.ref b], below, meth, c, lw_Z below #[Value.ref b] s, 4) b L xs := ⟨C0.2.2.2.2.2.2.1, C0.2.2.2.2.2.2.2.1, C0.2.2.2.2.2.2.2.1⟩
  have hend := fun (kc ks : Nat) (lv : List (Nat × Value)) (w : va_W) (h1 : kc ≤ 600000) (h2 : ks ≤ 7302249) => zx_end C (kc := kc) (ks := ks) (lv := lv) (w := w) d_LawX_law_1204 h1 h2
  have key : ZV (l, D, cA, s.heap.size, t) (p, e, room_1, s, m, #[Value.ref b], below, meth, c, lw_Z below #[Value.ref b] s, 4) 0 0 0 [(0, .ref b)] [] [] := by
    refine zx_new C nw_LawX_7 d_LawX_law_0 (Nat.le_of_ble_eq_true rfl) (Nat.le_of_ble_eq_true rfl) (fun x => ?_)
    refine zx_dup C rfl d_LawX_law_3 ?_
    refine zr_vA (zr_I C l_LawX_9 d_LawX_law_4 (As := []) rfl rfl (Nat.le_of_ble_eq_true rfl) (c_Tue_init _ x) ⟨Nat.le_of_ble_eq_true rfl, Nat.le_of_ble_eq_true rfl, Nat.le_of_ble_eq_true rfl, Nat.le_of_ble_eq_true rfl⟩) (fun w1 hw1 => ?_)
    obtain ⟨ad, I, Lw, QH, QD, RI, RL, rfl, rfl, hm⟩ := hw1
    refine zx_astore C d_LawX_law_7 (by decide) (lv1 := [(1, _), (0, _)]) rfl ?_
    refine zx_new C nw_LawX_10 d_LawX_law_8 (Nat.le_of_ble_eq_true rfl) (Nat.le_of_ble_eq_true rfl) (fun o => ?_)
    refine zx_dup C rfl d_LawX_law_11 ?_
    refine zr_vA (zr_I C l_LawX_12 d_LawX_law_12 (As := []) rfl rfl (Nat.le_of_ble_eq_true rfl) (c_Mod_init _ _ _ o sg_last) ⟨Nat.le_of_ble_eq_true rfl, Nat.le_of_ble_eq_true rfl, Nat.le_of_ble_eq_true rfl, Nat.le_of_ble_eq_true rfl⟩) (fun w1 hw1 => ?_)
    obtain ⟨adm, F, R, hM, Yw, hY, rfl⟩ := hw1
    refine zx_astore C d_LawX_law_15 (by decide) (lv1 := [(2, _), (1, _), (0, _)]) rfl ?_
    refine zx_ic C d_LawX_law_16 ?_
    refine zx_istore C d_LawX_law_17 (by decide) (lv1 := [(3, _), (2, _), (1, _), (0, _)]) rfl ?_
    refine zx_widen (kc1 := 65 + 12 * 0) (ks1 := 15041 + 67 * 0) (by decide) (by decide) ?_
    refine zx_eq rfl rfl (w1 := cw (l, D, cA, s.heap.size, t) ad I Lw none none QH QD RI RL ++ pw (fun _ => 0) (fun _ => 0) (aT S0) (mw (l, D, cA, s.heap.size, t) o adm F R)) ?_ ?_
    · rw [sg_set, pw_app (X := mw _ o adm F R), hY]; simp
    · exact lw_loop C hX hL hend 70 0 (by omega) S0 _ _ I Lw none QH QD RI RL F R hm hM
  have hl := lv_entry ([Value.ref b]) (n := 4) (Nat.le_of_ble_eq_true rfl)
  rw [lg_entry_eq]
  exact key s.heap [] _ (fun k q hk => absurd hk (by simp)) ⟨fun i j p q hi => absurd hi (by simp), fun k q hk => absurd hk (by simp)⟩ va_S.rf hl
