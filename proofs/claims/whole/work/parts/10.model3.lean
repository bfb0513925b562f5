set_option maxHeartbeats 4000000 in
set_option maxRecDepth 20000 in
theorem c_Mod_pairIn (G : ZG) (o : Nat) (ad : Nat → Nat) (F : Nat → Int32) (R : Nat → Nat → Int32) (X : va_W) (T : ZT) (P : ZP) (hp : prow T P F R) (m : Nat) (hm : m < 60) : ZM G y_Mod_pairIn b_Mod_pairIn 4 (some .int) r_Mod_pairIn [.ref o, .int (nI m)] (mw G o ad F R ++ X) (zdi (bzv (pin P m)) (mw G o ad F R ++ X)) := by
  refine ZM.of "SameTuesdayModel" "pairIn" rfl rfl (by decide) (Nat.le_of_ble_eq_true rfl) (fun Y C hq => ?_)
  change ZV G Y 0 0 0 [(0, .ref o), (1, .int (nI m))] [] (mw G o ad F R ++ X)
  have e21 : F 21 = nI P.1 := hp.2.1
  have h20 : P.1 ≤ 20 := hp.1
  have loop : ∀ n k, k + n = P.1 → pinF P m n k = pin P m → ZV G Y 0 0 5 [(0, .ref o), (1, .int (nI m)), (2, .int (ahd P k)), (3, .int (nI k))] [] (mw G o ad F R ++ X) := by
    intro n
    induction n with
    | zero =>
      intro k hk hpin
      refine zx_iload C d_Mod_pairIn_5 rfl ?_
      refine zx_aload C d_Mod_pairIn_6 rfl ?_
      refine zm_g C f_Mod_149_12 d_Mod_pairIn_7 rfl ?_
      refine zx_ic_ge C d_Mod_pairIn_10 (fun h10 => ?_) (fun h10 => ?_)
      · refine zx_ic C d_Mod_pairIn_57 ?_
        exact zx_iret C hq d_Mod_pairIn_59 (⟨by rw [← hpin]; rfl, rfl⟩)
      · exact absurd (by rw [e21]; exact nI_le (by omega) (by omega)) h10
    | succ n ih =>
      intro k hk hpin
      have hlt : k < P.1 := by omega
      obtain ⟨e22, b22, e23, b23⟩ := hp.2.2 k hlt
      have hx60 : pmax P k ≤ 60 := pmax_le (fun k hk => (hp.2.2 k hk).2.1) (by omega)
      have go30 : ¬ (P.2.1 k = m ∧ pmax P k ≤ m) → ZV G Y 0 0 30 [(0, .ref o), (1, .int (nI m)), (2, .int (ahd P k)), (3, .int (nI k))] [] (mw G o ad F R ++ X) := by
        intro hno
        have hpin2 : pinF P m n (k + 1) = pin P m := by rw [← hpin]; exact (if_neg hno).symm
        have go50 : ∀ v : Int32, v = ahd P (k + 1) → ZV G Y 0 0 51 [(0, .ref o), (1, .int (nI m)), (2, .int (v)), (3, .int (nI k))] [] (mw G o ad F R ++ X) := by
          intro v hv
          refine zx_iinc C d_Mod_pairIn_51 (by decide) rfl (lv1 := [(3, _), (0, _), (1, _), (2, _)]) rfl ?_
          refine zx_goto C d_Mod_pairIn_54 ?_
          have kk := ih (k + 1) (by omega) hpin2
          rw [← hv, nI_succ k] at kk
          exact zx_lv [0, 1, 2, 3] rfl kk
        refine zx_aload C d_Mod_pairIn_30 rfl ?_
        refine zm_g C f_Mod_49_12 d_Mod_pairIn_31 rfl ?_
        refine zx_iload C d_Mod_pairIn_34 rfl ?_
        refine zm_ld22 C d_Mod_pairIn_35 k rfl (by omega) ?_
        refine zx_iload C d_Mod_pairIn_36 rfl ?_
        refine zx_ic_le C d_Mod_pairIn_37 (fun h37 => ?_) (fun h37 => ?_)
        · have ev := ahd_s2 hx60 b22 (e22 ▸ h37)
          refine zx_iload C d_Mod_pairIn_49 rfl ?_
          refine zx_istore C d_Mod_pairIn_50 (by decide) (lv1 := [(2, _), (0, _), (1, _), (3, _)]) rfl ?_
          exact zx_lv [0, 1, 2, 3] rfl (go50 _ ev)
        · have ev := ahd_s1 hx60 b22 (e22 ▸ h37)
          rw [← e22] at ev
          refine zx_aload C d_Mod_pairIn_40 rfl ?_
          refine zm_g C f_Mod_49_12 d_Mod_pairIn_41 rfl ?_
          refine zx_iload C d_Mod_pairIn_44 rfl ?_
          refine zm_ld22 C d_Mod_pairIn_45 k rfl (by omega) ?_
          refine zx_goto C d_Mod_pairIn_46 ?_
          refine zx_istore C d_Mod_pairIn_50 (by decide) (lv1 := [(2, _), (0, _), (1, _), (3, _)]) rfl ?_
          exact zx_lv [0, 1, 2, 3] rfl (go50 _ ev)
      refine zx_iload C d_Mod_pairIn_5 rfl ?_
      refine zx_aload C d_Mod_pairIn_6 rfl ?_
      refine zm_g C f_Mod_149_12 d_Mod_pairIn_7 rfl ?_
      refine zx_ic_ge C d_Mod_pairIn_10 (fun h10 => ?_) (fun h10 => ?_)
      · exact absurd h10 (by rw [e21]; exact nI_ge (by omega) (by omega))
      · refine zx_aload C d_Mod_pairIn_13 rfl ?_
        refine zm_g C f_Mod_49_12 d_Mod_pairIn_14 rfl ?_
        refine zx_iload C d_Mod_pairIn_17 rfl ?_
        refine zm_ld22 C d_Mod_pairIn_18 k rfl (by omega) ?_
        refine zx_iload C d_Mod_pairIn_19 rfl ?_
        refine zx_ic_ne C d_Mod_pairIn_20 (fun h20_ => ?_) (fun h20_ => ?_)
        · have ev : ¬ (P.2.1 k = m ∧ pmax P k ≤ m) := fun z => h20_ (by rw [e22, z.1])
          exact zx_lv [0, 1, 2, 3] rfl (go30 ev)
        · refine zx_iload C d_Mod_pairIn_23 rfl ?_
          refine zx_iload C d_Mod_pairIn_24 rfl ?_
          refine zx_ic_le C d_Mod_pairIn_25 (fun h25 => ?_) (fun h25 => ?_)
          · have ev : ¬ (P.2.1 k = m ∧ pmax P k ≤ m) := fun z => (ahd_le hx60 hm).mp h25 z.2
            exact zx_lv [0, 1, 2, 3] rfl (go30 ev)
          · have ev : pin P m = some k := by rw [← hpin]; exact if_pos ⟨(nI_eq (by omega) (by omega)).mp (e22 ▸ h20_), Classical.byContradiction fun z => h25 ((ahd_le hx60 hm).mpr z)⟩
            refine zx_iload C d_Mod_pairIn_28 rfl ?_
            exact zx_iret C hq d_Mod_pairIn_29 (⟨by rw [ev]; rfl, rfl⟩)
  refine zx_ic C d_Mod_pairIn_0 ?_
  refine zx_istore C d_Mod_pairIn_2 (by decide) (lv1 := [(2, _), (0, _), (1, _)]) rfl ?_
  refine zx_ic C d_Mod_pairIn_3 ?_
  refine zx_istore C d_Mod_pairIn_4 (by decide) (lv1 := [(3, _), (2, _), (0, _), (1, _)]) rfl ?_
  exact zx_lv [0, 1, 2, 3] rfl (loop P.1 0 (by omega) rfl)
set_option maxHeartbeats 4000000 in
set_option maxRecDepth 20000 in
theorem c_Mod_goTo (G : ZG) (o : Nat) (ad : Nat → Nat) (F : Nat → Int32) (R : Nat → Nat → Int32) (X : va_W) (T : ZT) (hr : mrep T F R) (P : ZP) (hp : prow T P F R) (oth : Option (Nat × Nat)) (ho1 : F 25 = bzv (oth.map (fun q => q.2))) (ho2 : ∀ q, oth = some q → F 26 = nI q.1 ∧ q.1 < 60 ∧ q.2 < T.2.1) (la wo : Nat) (hla : la ≤ 60) (hw : wo < 64) : ZM G y_Mod_goTo b_Mod_goTo 8 (some .int) r_Mod_goTo [.ref o, .int (nI la), .int (nI wo)] (mw G o ad F R ++ X) (zdi (nI (run T P wo (oeF T P wo oth) (min T.2.2.1 (la + 1))).1) (mw G o ad (upd F 27 (gbg T P wo oth (min T.2.2.1 (la + 1)))) (ur R 24 (wrow P.1 (run T P wo (oeF T P wo oth) (min T.2.2.1 (la + 1))).2.2.2 (R 24))) ++ X)) := by
  refine ZM.of "SameTuesdayModel" "goTo" rfl rfl (by decide) (Nat.le_of_ble_eq_true rfl) (fun Y C hq => ?_)
  change ZV G Y 0 0 0 [(0, .ref o), (1, .int (nI la)), (2, .int (nI wo))] [] (mw G o ad F R ++ X)
  have ht := hr.1
  have hpk : pok T P := prow_pok hp
  have e21 : F 21 = nI P.1 := hp.2.1
  have h20 : P.1 ≤ 20 := hp.1
  have e7 : F 7 = nI T.2.2.1 := hr.2.2.2.1
  have hM : T.2.2.1 ≤ 60 := ht.2.2.1
  have hD5 : T.2.1 ≤ 5 := ht.2.1
  have hol : ∀ q, oeF T P wo oth = some q → q.2 < T.2.1 := oeF_lt (fun q hq => (ho2 q hq).2.2)
  have loop : ∀ n m, m + n = min T.2.2.1 (la + 1) → ZV G Y 0 0 43 [(0, .ref o), (1, .int (nI la)), (2, .int (nI wo)), (3, .int (nI (run T P wo (oeF T P wo oth) m).1)), (4, .int (bzv (run T P wo (oeF T P wo oth) m).2.1)), (5, .int (nI (run T P wo (oeF T P wo oth) m).2.2.1)), (6, .int (nI m))] [] (mw G o ad (upd F 27 (gbg T P wo oth m)) (ur R 24 (wrow P.1 ((run T P wo (oeF T P wo oth) m).2.2.2) (R 24))) ++ X) := by
    intro n
    induction n with
    | zero =>
      intro m hm
      refine zx_iload C d_Mod_goTo_43 rfl ?_
      refine zx_aload C d_Mod_goTo_45 rfl ?_
      refine zm_g C f_Mod_120_12 d_Mod_goTo_46 rfl ?_
      refine zx_ic_ge C d_Mod_goTo_49 (fun h49 => ?_) (fun h49 => ?_)
      · refine zx_iload C d_Mod_goTo_236 rfl ?_
        exact zx_iret C hq d_Mod_goTo_237 (⟨by rw [show m = min T.2.2.1 (la + 1) by omega], by rw [show m = min T.2.2.1 (la + 1) by omega]⟩)
      · have hlt : m < T.2.2.1 := Classical.byContradiction fun z => h49 (by show F 7 ≤ nI m; rw [e7]; exact nI_le (by omega) (by omega))
        refine zx_iload C d_Mod_goTo_52 rfl ?_
        refine zx_iload C d_Mod_goTo_54 rfl ?_
        refine zx_ic_gt C d_Mod_goTo_55 (fun h55 => ?_) (fun h55 => ?_)
        · refine zx_iload C d_Mod_goTo_236 rfl ?_
          exact zx_iret C hq d_Mod_goTo_237 (⟨by rw [show m = min T.2.2.1 (la + 1) by omega], by rw [show m = min T.2.2.1 (la + 1) by omega]⟩)
        · exact absurd (nI_lt (by omega : la < m) (by omega)) h55
    | succ n ih =>
      intro m hm
      have hlt : m < T.2.2.1 := by omega
      have hla2 : m ≤ la := by omega
      have hs := run_ok ht hpk (wo := wo) hol (by omega : m ≤ 60)
      generalize hsd : run T P wo (oeF T P wo oth) m = s at hs ⊢
      have hn1 : run T P wo (oeF T P wo oth) (m + 1) = dstep T P wo (oeF T P wo oth) m s := by rw [← hsd]; rfl
      have hde := dend_ok ht (wo := wo) (m := m) hs
      have hdo := doth_ok ht (m := m) hol hde.1
      have k230 : ZV G Y 0 0 230 [(0, .ref o), (1, .int (nI la)), (2, .int (nI wo)), (3, .int (nI (dstep T P wo (oeF T P wo oth) m s).1)), (4, .int (bzv (dstep T P wo (oeF T P wo oth) m s).2.1)), (5, .int (nI (dstep T P wo (oeF T P wo oth) m s).2.2.1)), (6, .int (nI m))] [] (mw G o ad (upd F 27 (gbg T P wo oth (m + 1))) (ur R 24 (wrow P.1 ((dstep T P wo (oeF T P wo oth) m s).2.2.2) (R 24))) ++ X) := by
        refine zx_iinc C d_Mod_goTo_230 (by decide) rfl (lv1 := [(6, _), (0, _), (1, _), (2, _), (3, _), (4, _), (5, _)]) rfl ?_
        refine zx_goto C d_Mod_goTo_233 ?_
        have k := ih (m + 1) (by omega)
        rw [hn1, nI_succ m] at k
        exact zx_lv [0, 1, 2, 3, 4, 5, 6] rfl k
      have k197 : ZV G Y 0 0 197 [(0, .ref o), (1, .int (nI la)), (2, .int (nI wo)), (3, .int (nI (dstep T P wo (oeF T P wo oth) m s).1)), (4, .int (bzv (dstep T P wo (oeF T P wo oth) m s).2.1)), (5, .int (nI (dstep T P wo (oeF T P wo oth) m s).2.2.1)), (6, .int (nI m))] [] (mw G o ad (upd F 27 (gbg T P wo oth m)) (ur R 24 (wrow P.1 ((dstep T P wo (oeF T P wo oth) m s).2.2.2) (R 24))) ++ X) := by
        have hf3 : (dstep T P wo (oeF T P wo oth) m s).1 = (doth T (oeF T P wo oth) m (dend T wo m s).1) := dbeg_f
        have hlt3 : (dstep T P wo (oeF T P wo oth) m s).1 < 64 := by rw [hf3]; exact hdo
        cases oth with
        | none =>
          refine zx_aload C d_Mod_goTo_197 rfl ?_
          refine zm_g C f_Mod_59_12 d_Mod_goTo_198 rfl ?_
          refine zx_ic C d_Mod_goTo_201 ?_
          refine zx_ic_eq C d_Mod_goTo_203 (fun h203 => ?_) (fun h203 => ?_)
          · exact zx_lv [0, 1, 2, 3, 4, 5, 6] rfl k230
          · exact absurd ho1 h203
        | some q =>
          obtain ⟨om, od⟩ := q
          obtain ⟨e26, hom, hod⟩ := ho2 (om, od) rfl
          have e25 : F 25 = nI od := ho1
          have hb1 : om = m → (dstep T P wo (oeF T P wo (some (om, od))) m s).1 = (run T P wo none (om + 1)).1 := by
            intro hz
            subst hz
            rw [← oeF_run ht hod (Nat.le_refl _), hn1]
          refine zx_aload C d_Mod_goTo_197 rfl ?_
          refine zm_g C f_Mod_59_12 d_Mod_goTo_198 rfl ?_
          refine zx_ic C d_Mod_goTo_201 ?_
          refine zx_ic_eq C d_Mod_goTo_203 (fun h203 => ?_) (fun h203 => ?_)
          · exact absurd (e25.symm.trans h203) (fun z => absurd ((bzv_none (b := some od) (fun d hd => by cases hd; omega)).mp z) (by simp))
          · refine zx_aload C d_Mod_goTo_206 rfl ?_
            refine zm_g C f_Mod_163_12 d_Mod_goTo_207 rfl ?_
            refine zx_iload C d_Mod_goTo_210 rfl ?_
            refine zx_ic_ne C d_Mod_goTo_212 (fun h212 => ?_) (fun h212 => ?_)
            · have hne : om ≠ m := fun z => h212 (by show F 26 = nI m; rw [e26, z])
              have ev : mw G o ad (upd F 27 (gbg T P wo (some (om, od)) m)) (ur R 24 (wrow P.1 (dstep T P wo (oeF T P wo (some (om, od))) m s).2.2.2 (R 24))) ++ X = mw G o ad (upd F 27 (gbg T P wo (some (om, od)) (m + 1))) (ur R 24 (wrow P.1 (dstep T P wo (oeF T P wo (some (om, od))) m s).2.2.2 (R 24))) ++ X := by
                have e0 : gbg T P wo (some (om, od)) m = gbg T P wo (some (om, od)) (m + 1) := by
                  show zB (om < m ∧ _) = zB (om < m + 1 ∧ _)
                  by_cases hq : om < m
                  · simp [zB, hq, Nat.lt_succ_of_lt hq]
                  · simp [zB, hq, show ¬ om < m + 1 by omega]
                rw [e0]
              refine zx_eq rfl rfl ev ?_
              exact zx_lv [0, 1, 2, 3, 4, 5, 6] rfl k230
            · have heq : om = m := (nI_eq (by omega) (by omega)).mp (e26 ▸ h212)
              have ev : mw G o ad (upd (upd F 27 (gbg T P wo (some (om, od)) m)) 27 (zB (may T od m (dstep T P wo (oeF T P wo (some (om, od))) m s).1 = true))) (ur R 24 (wrow P.1 (dstep T P wo (oeF T P wo (some (om, od))) m s).2.2.2 (R 24))) ++ X = mw G o ad (upd F 27 (gbg T P wo (some (om, od)) (m + 1))) (ur R 24 (wrow P.1 (dstep T P wo (oeF T P wo (some (om, od))) m s).2.2.2 (R 24))) ++ X := by
                rw [upd_upd]
                have e0 : zB (may T od m (dstep T P wo (oeF T P wo (some (om, od))) m s).1 = true) = gbg T P wo (some (om, od)) (m + 1) := by
                  show _ = zB (om < m + 1 ∧ may T od om (run T P wo none (om + 1)).1 = true)
                  rw [hb1 heq, ← heq]
                  simp [zB]
                rw [e0]
              refine zx_aload C d_Mod_goTo_215 rfl ?_
              refine zx_aload C d_Mod_goTo_216 rfl ?_
              refine zx_iload C d_Mod_goTo_217 rfl ?_
              refine zx_aload C d_Mod_goTo_218 rfl ?_
              refine zm_g C f_Mod_59_12 d_Mod_goTo_219 rfl ?_
              refine zx_iload C d_Mod_goTo_222 rfl ?_
              rw [show upd F 27 (gbg T P wo (some (om, od)) m) 25 = nI od from e25]
              refine zr_di (zr_V C l_Mod_169 d_Mod_goTo_224 (As := [_, _, _]) rfl rfl (Nat.le_of_ble_eq_true rfl) (c_Mod_mayBegin G _ _ _ _ _ T (by exact hr) _ od m hlt3 hod (by omega)) 0 rfl rfl ⟨Nat.le_of_ble_eq_true rfl, Nat.le_of_ble_eq_true rfl, Nat.le_of_ble_eq_true rfl, Nat.le_of_ble_eq_true rfl⟩) ?_
              refine zm_p C p_Mod_152_12 d_Mod_goTo_227 (zb_fit_z zB_01) (Nat.le_of_ble_eq_true rfl) zms_27 ?_
              refine zx_eq rfl rfl ev ?_
              exact zx_lv [0, 1, 2, 3, 4, 5, 6] rfl k230
      have k129 : ZV G Y 0 0 129 [(0, .ref o), (1, .int (nI la)), (2, .int (nI wo)), (3, .int (nI (doth T (oeF T P wo oth) m (dend T wo m s).1))), (4, .int (bzv (dend T wo m s).2)), (5, .int (nI s.2.2.1)), (6, .int (nI m))] [] (mw G o ad (upd F 27 (gbg T P wo oth m)) (ur R 24 (wrow P.1 (s.2.2.2) (R 24))) ++ X) := by
        cases hpin : pin P m with
        | none =>
          refine zx_aload C d_Mod_goTo_129 rfl ?_
          refine zx_iload C d_Mod_goTo_130 rfl ?_
          refine zr_di (zr_V C l_Mod_166 d_Mod_goTo_132 (As := [_]) rfl rfl (Nat.le_of_ble_eq_true rfl) (c_Mod_pairIn G _ _ _ _ _ T P (by exact hp) m (by omega)) 0 rfl rfl ⟨Nat.le_of_ble_eq_true rfl, Nat.le_of_ble_eq_true rfl, Nat.le_of_ble_eq_true rfl, Nat.le_of_ble_eq_true rfl⟩) ?_
          rw [hpin]
          refine zx_istore C d_Mod_goTo_135 (by decide) (lv1 := [(7, _), (0, _), (1, _), (2, _), (3, _), (4, _), (5, _), (6, _)]) rfl ?_
          refine zx_iload C d_Mod_goTo_137 rfl ?_
          refine zx_ic C d_Mod_goTo_139 ?_
          refine zx_ic_eq C d_Mod_goTo_141 (fun h141 => ?_) (fun h141 => ?_)
          · have ev : (dstep T P wo (oeF T P wo oth) m s) = ((doth T (oeF T P wo oth) m (dend T wo m s).1), (dend T wo m s).2, s.2.2.1, s.2.2.2) := dbeg_no hpin
            rw [ev] at k197
            exact zx_lv [0, 1, 2, 3, 4, 5, 6] rfl k197
          · exact absurd rfl h141
        | some k =>
          obtain ⟨hk1, hk2, hk3⟩ := pin_lt hpin
          obtain ⟨e22, b22, e23, b23⟩ := hp.2.2 k hk1
          obtain ⟨e12, e13, e14, e15⟩ := hr.2.2.2.2.2 (P.2.2 k) b23
          have b7 := ht.2.2.2.2 (P.2.2 k) b23
          refine zx_aload C d_Mod_goTo_129 rfl ?_
          refine zx_iload C d_Mod_goTo_130 rfl ?_
          refine zr_di (zr_V C l_Mod_166 d_Mod_goTo_132 (As := [_]) rfl rfl (Nat.le_of_ble_eq_true rfl) (c_Mod_pairIn G _ _ _ _ _ T P (by exact hp) m (by omega)) 0 rfl rfl ⟨Nat.le_of_ble_eq_true rfl, Nat.le_of_ble_eq_true rfl, Nat.le_of_ble_eq_true rfl, Nat.le_of_ble_eq_true rfl⟩) ?_
          rw [hpin]
          refine zx_istore C d_Mod_goTo_135 (by decide) (lv1 := [(7, _), (0, _), (1, _), (2, _), (3, _), (4, _), (5, _), (6, _)]) rfl ?_
          refine zx_iload C d_Mod_goTo_137 rfl ?_
          refine zx_ic C d_Mod_goTo_139 ?_
          refine zx_ic_eq C d_Mod_goTo_141 (fun h141 => ?_) (fun h141 => ?_)
          · exact absurd h141 (fun z => absurd ((bzv_none (b := some k) (fun d hd => by cases hd; omega)).mp z) (by simp))
          · refine zx_iload C d_Mod_goTo_144 rfl ?_
            refine zx_ic C d_Mod_goTo_146 ?_
            refine zx_ic_ne C d_Mod_goTo_148 (fun h148 => ?_) (fun h148 => ?_)
            · have ev : (dstep T P wo (oeF T P wo oth) m s) = ((doth T (oeF T P wo oth) m (dend T wo m s).1), (dend T wo m s).2, s.2.2.1, s.2.2.2) := dbeg_not hpin (fun z => h148 (by rw [z.1]; rfl))
              rw [ev] at k197
              exact zx_lv [0, 1, 2, 3, 4, 5, 6] rfl k197
            · refine zx_aload C d_Mod_goTo_151 rfl ?_
              refine zx_iload C d_Mod_goTo_152 rfl ?_
              refine zx_aload C d_Mod_goTo_153 rfl ?_
              refine zm_g C f_Mod_52_12 d_Mod_goTo_154 rfl ?_
              refine zx_iload C d_Mod_goTo_157 rfl ?_
              refine zm_ld23 C d_Mod_goTo_159 k rfl (by omega) ?_
              refine zx_iload C d_Mod_goTo_160 rfl ?_
              refine zx_eq rfl (st1 := [.int (nI m), .int (nI (P.2.2 k)), .int (nI (doth T (oeF T P wo oth) m (dend T wo m s).1)), .ref o]) (by rw [show ur R 24 (wrow P.1 s.2.2.2 (R 24)) 23 k = nI (P.2.2 k) from e23]) rfl ?_
              refine zr_di (zr_V C l_Mod_169 d_Mod_goTo_162 (As := [_, _, _]) rfl rfl (Nat.le_of_ble_eq_true rfl) (c_Mod_mayBegin G _ _ _ _ _ T (by exact hr) (doth T (oeF T P wo oth) m (dend T wo m s).1) (P.2.2 k) m hdo b23 (by omega)) 0 rfl rfl ⟨Nat.le_of_ble_eq_true rfl, Nat.le_of_ble_eq_true rfl, Nat.le_of_ble_eq_true rfl, Nat.le_of_ble_eq_true rfl⟩) ?_
              refine zx_ifB_eq C d_Mod_goTo_165 (fun h165 => ?_) (fun h165 => ?_)
              · have ev : (dstep T P wo (oeF T P wo oth) m s) = ((doth T (oeF T P wo oth) m (dend T wo m s).1), (dend T wo m s).2, s.2.2.1, s.2.2.2) := dbeg_not hpin (fun z => h165 z.2)
                rw [ev] at k197
                exact zx_lv [0, 1, 2, 3, 4, 5, 6] rfl k197
              · have hb0 : (dend T wo m s).2 = none := (bzv_none (fun d hd => by have := hde.2 d hd; omega)).mp h148
                have ev : (dstep T P wo (oeF T P wo oth) m s) = ((doth T (oeF T P wo oth) m (dend T wo m s).1), some (P.2.2 k), m + tq T 7 (P.2.2 k), rset s.2.2.2 k) := by rw [dstep, hb0]; exact dbeg_yes hpin h165
                refine zx_aload C d_Mod_goTo_168 rfl ?_
                refine zm_g C f_Mod_55_12 d_Mod_goTo_169 rfl ?_
                refine zx_iload C d_Mod_goTo_172 rfl ?_
                refine zx_ic C d_Mod_goTo_174 ?_
                refine zm_zst24 C d_Mod_goTo_175 k rfl (by omega) (by decide) ?_
                rw [wr_set hk1]
                refine zx_aload C d_Mod_goTo_176 rfl ?_
                refine zm_g C f_Mod_52_12 d_Mod_goTo_177 rfl ?_
                refine zx_iload C d_Mod_goTo_180 rfl ?_
                refine zm_ld23 C d_Mod_goTo_182 k rfl (by omega) ?_
                refine zx_eq rfl (st1 := [.int (nI (P.2.2 k))]) (by rw [show ur R 24 (wrow P.1 (rset s.2.2.2 k) (R 24)) 23 k = nI (P.2.2 k) from e23]) rfl ?_
                refine zx_istore C d_Mod_goTo_183 (by decide) (lv1 := [(4, _), (7, _), (0, _), (1, _), (2, _), (3, _), (5, _), (6, _)]) rfl ?_
                refine zx_iload C d_Mod_goTo_185 rfl ?_
                refine zx_aload C d_Mod_goTo_187 rfl ?_
                refine zm_g C f_Mod_40_12 d_Mod_goTo_188 rfl ?_
                refine zx_iload C d_Mod_goTo_191 rfl ?_
                refine zm_ld15 C d_Mod_goTo_193 (P.2.2 k) rfl (by omega) ?_
                refine zx_iadd C d_Mod_goTo_194 ?_
                refine zx_eq rfl (st1 := [.int (nI (m + tq T 7 (P.2.2 k)))]) (by rw [show ur R 24 (wrow P.1 (rset s.2.2.2 k) (R 24)) 15 (P.2.2 k) = nI (tq T 7 (P.2.2 k)) from e15, nI_add]) rfl ?_
                refine zx_istore C d_Mod_goTo_195 (by decide) (lv1 := [(5, _), (4, _), (7, _), (0, _), (1, _), (2, _), (3, _), (6, _)]) rfl ?_
                rw [ev] at k197
                exact zx_lv [0, 1, 2, 3, 4, 5, 6] rfl k197
      have k93 : ZV G Y 0 0 93 [(0, .ref o), (1, .int (nI la)), (2, .int (nI wo)), (3, .int (nI (dend T wo m s).1)), (4, .int (bzv (dend T wo m s).2)), (5, .int (nI s.2.2.1)), (6, .int (nI m))] [] (mw G o ad (upd F 27 (gbg T P wo oth m)) (ur R 24 (wrow P.1 (s.2.2.2) (R 24))) ++ X) := by
        cases oth with
        | none =>
          refine zx_aload C d_Mod_goTo_93 rfl ?_
          refine zm_g C f_Mod_152_12 d_Mod_goTo_94 rfl ?_
          refine zx_if_eq C d_Mod_goTo_97 (fun h97 => ?_) (fun h97 => ?_)
          · exact zx_lv [0, 1, 2, 3, 4, 5, 6] rfl k129
          · exact absurd rfl h97
        | some q =>
          obtain ⟨om, od⟩ := q
          obtain ⟨e26, hom, hod⟩ := ho2 (om, od) rfl
          have e25 : F 25 = nI od := ho1
          obtain ⟨e12, e13, e14, e15⟩ := hr.2.2.2.2.2 od hod
          have b7 := ht.2.2.2.2 od hod
          refine zx_aload C d_Mod_goTo_93 rfl ?_
          refine zm_g C f_Mod_152_12 d_Mod_goTo_94 rfl ?_
          refine zx_if_eq C d_Mod_goTo_97 (fun h97 => ?_) (fun h97 => ?_)
          · have ev : (doth T (oeF T P wo (some (om, od))) m (dend T wo m s).1) = (dend T wo m s).1 := doth_ne (fun q hq hz => by
              by_cases hb : may T od om (run T P wo none (om + 1)).1 = true
              · rw [oeF_some hb] at hq; cases hq; exact zB_e0.mp h97 ⟨by simp only at hz; omega, hb⟩
              · rw [oeF_not hb] at hq; cases hq)
            rw [ev] at k129
            exact zx_lv [0, 1, 2, 3, 4, 5, 6] rfl k129
          · have hon : om < m ∧ may T od om (run T P wo none (om + 1)).1 = true := Classical.byContradiction fun z => h97 (zB_e0.mpr z)
            refine zx_aload C d_Mod_goTo_100 rfl ?_
            refine zm_g C f_Mod_163_12 d_Mod_goTo_101 rfl ?_
            refine zx_aload C d_Mod_goTo_104 rfl ?_
            refine zm_g C f_Mod_40_12 d_Mod_goTo_105 rfl ?_
            refine zx_aload C d_Mod_goTo_108 rfl ?_
            refine zm_g C f_Mod_59_12 d_Mod_goTo_109 rfl ?_
            refine zm_ld15 C d_Mod_goTo_112 od e25 (by omega) ?_
            refine zx_iadd C d_Mod_goTo_113 ?_
            refine zx_iload C d_Mod_goTo_114 rfl ?_
            refine zx_ic_ne C d_Mod_goTo_116 (fun h116 => ?_) (fun h116 => ?_)
            · have ev : (doth T (oeF T P wo (some (om, od))) m (dend T wo m s).1) = (dend T wo m s).1 := doth_ne (fun q hq hz => by
                rw [oeF_some hon.2] at hq; cases hq; exact h116 (by show F 26 + R 15 od = nI m; rw [e26, e15, nI_add]; exact congrArg nI hz))
              rw [ev] at k129
              exact zx_lv [0, 1, 2, 3, 4, 5, 6] rfl k129
            · have heq : om + tq T 7 od = m := (nI_eq (by omega) (by omega)).mp (by rw [← nI_add, ← e26, ← e15]; exact h116)
              have ev : (doth T (oeF T P wo (some (om, od))) m (dend T wo m s).1) = den T od (dend T wo m s).1 := by rw [oeF_some hon.2]; exact if_pos heq
              refine zx_aload C d_Mod_goTo_119 rfl ?_
              refine zx_iload C d_Mod_goTo_120 rfl ?_
              refine zx_aload C d_Mod_goTo_121 rfl ?_
              refine zm_g C f_Mod_59_12 d_Mod_goTo_122 rfl ?_
              refine zx_eq rfl (st1 := [.int (nI od), .int (nI (dend T wo m s).1), .ref o]) (by rw [show upd F 27 (gbg T P wo (some (om, od)) m) 25 = nI od from e25]) rfl ?_
              refine zr_di (zr_V C l_Mod_159 d_Mod_goTo_125 (As := [_, _]) rfl rfl (Nat.le_of_ble_eq_true rfl) (c_Mod_done G _ _ _ _ _ T (by exact hr) (dend T wo m s).1 od hde.1 hod) 0 rfl rfl ⟨Nat.le_of_ble_eq_true rfl, Nat.le_of_ble_eq_true rfl, Nat.le_of_ble_eq_true rfl, Nat.le_of_ble_eq_true rfl⟩) ?_
              refine zx_istore C d_Mod_goTo_128 (by decide) (lv1 := [(3, _), (0, _), (1, _), (2, _), (4, _), (5, _), (6, _)]) rfl ?_
              rw [ev] at k129
              exact zx_lv [0, 1, 2, 3, 4, 5, 6] rfl k129
      cases hbz : s.2.1 with
      | none =>
        refine zx_iload C d_Mod_goTo_43 rfl ?_
        refine zx_aload C d_Mod_goTo_45 rfl ?_
        refine zm_g C f_Mod_120_12 d_Mod_goTo_46 rfl ?_
        refine zx_ic_ge C d_Mod_goTo_49 (fun h49 => ?_) (fun h49 => ?_)
        · exact absurd h49 (by show ¬ F 7 ≤ nI m; rw [e7]; exact nI_ge (by omega) (by omega))
        · refine zx_iload C d_Mod_goTo_52 rfl ?_
          refine zx_iload C d_Mod_goTo_54 rfl ?_
          refine zx_ic_gt C d_Mod_goTo_55 (fun h55 => ?_) (fun h55 => ?_)
          · exact absurd h55 (nI_nlt (by omega) (by omega))
          · refine zx_aload C d_Mod_goTo_58 rfl ?_
            refine zx_iload C d_Mod_goTo_59 rfl ?_
            refine zx_iload C d_Mod_goTo_60 rfl ?_
            refine zx_iload C d_Mod_goTo_62 rfl ?_
            refine zr_di (zr_V C l_Mod_156 d_Mod_goTo_63 (As := [_, _, _]) rfl rfl (Nat.le_of_ble_eq_true rfl) (c_Mod_happen G _ _ _ _ _ T (by exact hr) s.1 m wo hs.1 (by omega) hw) 0 rfl rfl ⟨Nat.le_of_ble_eq_true rfl, Nat.le_of_ble_eq_true rfl, Nat.le_of_ble_eq_true rfl, Nat.le_of_ble_eq_true rfl⟩) ?_
            refine zx_istore C d_Mod_goTo_66 (by decide) (lv1 := [(3, _), (0, _), (1, _), (2, _), (4, _), (5, _), (6, _)]) rfl ?_
            refine zx_iload C d_Mod_goTo_67 rfl ?_
            refine zx_ic C d_Mod_goTo_69 ?_
            refine zx_ic_eq C d_Mod_goTo_71 (fun h71 => ?_) (fun h71 => ?_)
            · rw [dend_none hbz] at k93
              exact zx_lv [0, 1, 2, 3, 4, 5, 6] rfl k93
            · exact absurd rfl h71
      | some d =>
        have hdl := hs.2.1 d hbz
        refine zx_iload C d_Mod_goTo_43 rfl ?_
        refine zx_aload C d_Mod_goTo_45 rfl ?_
        refine zm_g C f_Mod_120_12 d_Mod_goTo_46 rfl ?_
        refine zx_ic_ge C d_Mod_goTo_49 (fun h49 => ?_) (fun h49 => ?_)
        · exact absurd h49 (by show ¬ F 7 ≤ nI m; rw [e7]; exact nI_ge (by omega) (by omega))
        · refine zx_iload C d_Mod_goTo_52 rfl ?_
          refine zx_iload C d_Mod_goTo_54 rfl ?_
          refine zx_ic_gt C d_Mod_goTo_55 (fun h55 => ?_) (fun h55 => ?_)
          · exact absurd h55 (nI_nlt (by omega) (by omega))
          · refine zx_aload C d_Mod_goTo_58 rfl ?_
            refine zx_iload C d_Mod_goTo_59 rfl ?_
            refine zx_iload C d_Mod_goTo_60 rfl ?_
            refine zx_iload C d_Mod_goTo_62 rfl ?_
            refine zr_di (zr_V C l_Mod_156 d_Mod_goTo_63 (As := [_, _, _]) rfl rfl (Nat.le_of_ble_eq_true rfl) (c_Mod_happen G _ _ _ _ _ T (by exact hr) s.1 m wo hs.1 (by omega) hw) 0 rfl rfl ⟨Nat.le_of_ble_eq_true rfl, Nat.le_of_ble_eq_true rfl, Nat.le_of_ble_eq_true rfl, Nat.le_of_ble_eq_true rfl⟩) ?_
            refine zx_istore C d_Mod_goTo_66 (by decide) (lv1 := [(3, _), (0, _), (1, _), (2, _), (4, _), (5, _), (6, _)]) rfl ?_
            refine zx_iload C d_Mod_goTo_67 rfl ?_
            refine zx_ic C d_Mod_goTo_69 ?_
            refine zx_ic_eq C d_Mod_goTo_71 (fun h71 => ?_) (fun h71 => ?_)
            · exact absurd h71 (fun z => absurd ((bzv_none (b := some d) (fun d2 hd => by cases hd; omega)).mp z) (by simp))
            · refine zx_iload C d_Mod_goTo_74 rfl ?_
              refine zx_iload C d_Mod_goTo_76 rfl ?_
              refine zx_ic_ne C d_Mod_goTo_78 (fun h78 => ?_) (fun h78 => ?_)
              · rw [dend_on hbz (fun z => h78 (by rw [z]))] at k93
                exact zx_lv [0, 1, 2, 3, 4, 5, 6] rfl k93
              · rw [dend_off hbz ((nI_eq (by have := hs.2.2; omega) (by omega)).mp h78)] at k93
                refine zx_aload C d_Mod_goTo_81 rfl ?_
                refine zx_iload C d_Mod_goTo_82 rfl ?_
                refine zx_iload C d_Mod_goTo_83 rfl ?_
                refine zr_di (zr_V C l_Mod_159 d_Mod_goTo_85 (As := [_, _]) rfl rfl (Nat.le_of_ble_eq_true rfl) (c_Mod_done G _ _ _ _ _ T (by exact hr) (hap T m wo T.1 s.1) d (hap_64 ht (Nat.le_refl _) hs.1) hdl) 0 rfl rfl ⟨Nat.le_of_ble_eq_true rfl, Nat.le_of_ble_eq_true rfl, Nat.le_of_ble_eq_true rfl, Nat.le_of_ble_eq_true rfl⟩) ?_
                refine zx_istore C d_Mod_goTo_88 (by decide) (lv1 := [(3, _), (0, _), (1, _), (2, _), (4, _), (5, _), (6, _)]) rfl ?_
                refine zx_ic C d_Mod_goTo_89 ?_
                refine zx_istore C d_Mod_goTo_91 (by decide) (lv1 := [(4, _), (3, _), (0, _), (1, _), (2, _), (5, _), (6, _)]) rfl ?_
                exact zx_lv [0, 1, 2, 3, 4, 5, 6] rfl k93
  have first : ∀ n j, j + n = P.1 → ZV G Y 0 0 17 [(0, .ref o), (1, .int (nI la)), (2, .int (nI wo)), (3, .int 0), (4, .int (-9)), (5, .int 0), (6, .int (nI j))] [] (mw G o ad (upd F 27 0) (ur R 24 (wrow j (fun _ => false) (R 24))) ++ X) := by
    intro n
    induction n with
    | zero =>
      intro j hj
      refine zx_iload C d_Mod_goTo_17 rfl ?_
      refine zx_aload C d_Mod_goTo_19 rfl ?_
      refine zm_g C f_Mod_149_12 d_Mod_goTo_20 rfl ?_
      refine zx_ic_ge C d_Mod_goTo_23 (fun h23 => ?_) (fun h23 => ?_)
      · refine zx_ic C d_Mod_goTo_40 ?_
        refine zx_istore C d_Mod_goTo_41 (by decide) (lv1 := [(6, _), (0, _), (1, _), (2, _), (3, _), (4, _), (5, _)]) rfl ?_
        have k := loop (min T.2.2.1 (la + 1)) 0 (by omega)
        rw [gbg_0, show run T P wo (oeF T P wo oth) 0 = (0, none, 0, fun _ => false) from rfl, show P.1 = j by omega] at k
        exact zx_lv [0, 1, 2, 3, 4, 5, 6] rfl k
      · exact absurd (by show F 21 ≤ nI j; rw [e21]; exact nI_le (by omega) (by omega)) h23
    | succ n ih =>
      intro j hj
      refine zx_iload C d_Mod_goTo_17 rfl ?_
      refine zx_aload C d_Mod_goTo_19 rfl ?_
      refine zm_g C f_Mod_149_12 d_Mod_goTo_20 rfl ?_
      refine zx_ic_ge C d_Mod_goTo_23 (fun h23 => ?_) (fun h23 => ?_)
      · exact absurd h23 (by show ¬ F 21 ≤ nI j; rw [e21]; exact nI_ge (by omega) (by omega))
      · refine zx_aload C d_Mod_goTo_26 rfl ?_
        refine zm_g C f_Mod_55_12 d_Mod_goTo_27 rfl ?_
        refine zx_iload C d_Mod_goTo_30 rfl ?_
        refine zx_ic C d_Mod_goTo_32 ?_
        refine zm_zst24 C d_Mod_goTo_33 j rfl (by omega) (by decide) ?_
        rw [wr_succ j]
        refine zx_iinc C d_Mod_goTo_34 (by decide) rfl (lv1 := [(6, _), (0, _), (1, _), (2, _), (3, _), (4, _), (5, _)]) rfl ?_
        refine zx_goto C d_Mod_goTo_37 ?_
        have k := ih (j + 1) (by omega)
        rw [nI_succ j] at k
        exact zx_lv [0, 1, 2, 3, 4, 5, 6] rfl k
  refine zx_ic C d_Mod_goTo_0 ?_
  refine zx_istore C d_Mod_goTo_1 (by decide) (lv1 := [(3, _), (0, _), (1, _), (2, _)]) rfl ?_
  refine zx_ic C d_Mod_goTo_2 ?_
  refine zx_istore C d_Mod_goTo_4 (by decide) (lv1 := [(4, _), (3, _), (0, _), (1, _), (2, _)]) rfl ?_
  refine zx_ic C d_Mod_goTo_6 ?_
  refine zx_istore C d_Mod_goTo_7 (by decide) (lv1 := [(5, _), (4, _), (3, _), (0, _), (1, _), (2, _)]) rfl ?_
  refine zx_aload C d_Mod_goTo_9 rfl ?_
  refine zx_ic C d_Mod_goTo_10 ?_
  refine zm_p C p_Mod_152_12 d_Mod_goTo_11 (zb_fit_z (by decide)) (Nat.le_of_ble_eq_true rfl) zms_27 ?_
  refine zx_ic C d_Mod_goTo_14 ?_
  refine zx_istore C d_Mod_goTo_15 (by decide) (lv1 := [(6, _), (5, _), (4, _), (3, _), (0, _), (1, _), (2, _)]) rfl ?_
  have k := first P.1 0 (by omega)
  rw [wrow_0, ur_self] at k
  exact zx_lv [0, 1, 2, 3, 4, 5, 6] rfl k
