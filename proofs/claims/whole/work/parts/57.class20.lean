theorem li_0 (I : Nat → Int32) : upd (upd I 14 0) 15 (-9) = li I (I 13) 0 (-9) := by
  rw [li, upd_self]; rfl
theorem urL_self (R : Nat → Nat → Int64) (k : Nat) : urL R k (R k) = R := by
  funext j; unfold urL; split
  · next h => rw [h]
  · rfl
theorem urL_urL (R : Nat → Nat → Int64) (k : Nat) (a b : Nat → Int64) : urL (urL R k a) k b = urL R k b := by
  funext j; unfold urL; split <;> rfl
theorem one_0 : one 0 = 1 := by decide
theorem last_eq {t mm : Nat} {v : Int32} (hv : v = nI t) (h1 : 1 ≤ t) (h60 : t ≤ 60) (hm : mm < 60) : (if (59 : Int32) < (if v - 1 < nI mm then v - 1 else nI mm) then 59 else (if v - 1 < nI mm then v - 1 else nI mm)) = nI (min t (mm + 1) - 1) := by
  subst hv
  rw [show nI t - 1 = nI (t - 1) from pk_sub (b := 1) h1]
  by_cases h : t - 1 < mm
  · rw [if_pos ((nI_ltI (by omega) (by omega)).mpr h), if_neg (fun z => by have := (nI_ltI (a := 59) (by omega) (by omega)).mp z; omega)]
    congr 1; omega
  · rw [if_neg (fun z => h ((nI_ltI (by omega) (by omega)).mp z)), if_neg (fun z => by have := (nI_ltI (a := 59) (by omega) (by omega)).mp z; omega)]
    congr 1; omega
theorem dend_some {T : ZT} {wo m d : Nat} {s : ZD} (h : (dend T wo m s).2 = some d) : s.2.1 = some d := by
  unfold dend at h
  split at h
  · cases h
  · next d2 h2 =>
    split at h
    · cases h
    · cases h; exact h2
theorem doth_lt {T : ZT} (ht : tok T) {zd : Option Nat} {ot m f : Nat} (hz : ∀ d, zd = some d → d < T.2.1) (hf : f < 64) : doth T (zd.map fun d => (ot, d)) m f < 64 := doth_ok ht (fun q hq => by
  cases zd with
  | none => cases hq
  | some d => cases hq; exact hz d rfl) hf
theorem ffw_end {r : Nat → Bool} {j n : Nat} (hn : n ≤ 20) (h : r j = false) (hj : j < n) : ffw r (j + 1) 0 = ffw r n 0 := by
  have := ffw_far h (n - (j + 1)) (by omega)
  rw [show j + 1 + (n - (j + 1)) = n by omega] at this
  exact this.symm
set_option maxHeartbeats 600000 in
set_option maxRecDepth 20000 in
theorem c_Life_factsAt (G : ZG) (ad : Nat → Nat) (I : Nat → Int32) (L : Nat → Int64) (g : Option Nat) (QH QD : Nat → Option Nat) (RI : Nat → Nat → Int32) (RL : Nat → Nat → Int64) (X : va_W) (T : ZT) (hA dA : Nat → Nat) (ht : tok T) (hT : trp T hA dA I L QH QD) (P : ZP) (hp : cprow T P I RI) (zd : Option Nat) (ot : Nat) (hot : ot ≤ 70) (h16 : ∀ d, zd = some d → I 16 = nI ot) (hzd : ∀ d, zd = some d → d < T.2.1) (h1 : 1 ≤ T.2.2.1) (mm M : Nat) (hmm : mm < 60) (hM : M = min T.2.2.1 (mm + 1)) (th wo : Nat) (hth : th < 64) (hw : ∀ h, h < 6 → th.testBit h = !wo.testBit h) : ZM G y_Life_factsAt b_Life_factsAt 5 (some .int) r_Life_factsAt [.ref (ad 13), .int (nI mm), .int (nI th)] (cw G ad I L g (zd.map dA) QH QD RI RL ++ pw hA dA T X) (zpi (fun r w => r = nI (run T P wo (zd.map fun d => (ot, d)) M).1 ∧ ∃ (v : Int32) (j : Nat) (a : Nat → Int64) (g2 : Option Nat), w = (cw G ad (li I v (j) (ffw (run T P wo (zd.map fun d => (ot, d)) M).2.2.2 P.1 0)) (vp_updL L 1 (one (run T P wo (zd.map fun d => (ot, d)) M).1)) g2 (zd.map dA) QH QD RI (urL RL 0 a) ++ pw hA dA T X) ∧ (zd = none → ∀ q, q < M → a q = one (run T P wo (zd.map fun d => (ot, d)) (q + 1)).1) ∧ (∀ d, zd = some d → a = RL 0))) := by
  refine ZM.of "SameTuesday$Life" "factsAt" rfl rfl (by decide) (Nat.le_of_ble_eq_true rfl) (fun Y C hq => ?_)
  change ZV G Y 0 0 0 [(0, .ref (ad 13)), (1, .int (nI mm)), (2, .int (nI th))] [] (cw G ad I L g (zd.map dA) QH QD RI RL ++ pw hA dA T X)
  have h60 := ht.2.2.1
  have h20 := hp.1
  have h6 := ht.1
  have hpk : pok T P := ⟨hp.1, fun k hk => ⟨(hp.2.2 k hk).2.1, (hp.2.2 k hk).2.2.2⟩⟩
  have hoe : ∀ q, (zd.map fun d => (ot, d)) = some q → q.2 < T.2.1 := fun q hq => by
    cases zd with
    | none => cases hq
    | some d => cases hq; exact hzd d rfl
  have lp : ∀ c m (v : Int32) (a : Nat → Int64), m + c = M → (∀ d, (run T P wo (zd.map fun d => (ot, d)) m).2.1 = some d → v = nI (run T P wo (zd.map fun d => (ot, d)) m).2.2.1) → (zd = none → ∀ q, q < m → a q = one (run T P wo (zd.map fun d => (ot, d)) (q + 1)).1) ∧ (∀ d, zd = some d → a = RL 0) → ZV G Y 0 0 38 [(0, .ref (ad 13)), (1, .int (nI mm)), (2, .int (nI th)), (3, .int (nI (M - 1))), (4, .int (nI m))] [] (cw G ad (li I v (npx P m) (ffw (run T P wo (zd.map fun d => (ot, d)) m).2.2.2 (npx P m) 0)) (vp_updL L 1 (one (run T P wo (zd.map fun d => (ot, d)) m).1)) ((run T P wo (zd.map fun d => (ot, d)) m).2.1.map dA) (zd.map dA) QH QD RI (urL RL 0 a) ++ pw hA dA T X) := by
    intro c
    induction c with
    | zero =>
      intro m v a hc hv ha
      obtain rfl : m = M := by omega
      have hok := run_ok ht hpk hoe (wo := wo) (m := m) (by omega)
      have hnp := npx_le (P := P) (m := m)
      refine zx_iload C d_Life_factsAt_38 rfl ?_
      refine zx_iload C d_Life_factsAt_40 rfl ?_
      refine zx_ic_gt C d_Life_factsAt_41 (fun h41 => ?_) (fun h41 => ?_)
      · refine zx_aload C d_Life_factsAt_98 rfl ?_
        refine zx_get C f_Life_41_4 d_Life_factsAt_99 13 zcw_13 rfl ?_
        refine zx_aload C d_Life_factsAt_102 rfl ?_
        refine zx_get C f_Life_22_4 d_Life_factsAt_103 13 zcw_13 rfl ?_
        refine zx_ic_ge C d_Life_factsAt_106 (fun h106 => ?_) (fun h106 => ?_)
        · have e1 : npx P m = P.1 := by
            have y : P.1 ≤ npx P m := (nI_leI (by omega) (by omega)).mp (by rw [← hp.2.1]; exact h106)
            omega
          rw [e1]
          refine zx_aload C d_Life_factsAt_117 rfl ?_
          refine zx_get C f_Life_30_4 d_Life_factsAt_118 13 zcw_13 rfl ?_
          refine zr_di (zr_S C l_Life_92 d_Life_factsAt_121 (As := [_]) rfl rfl (Nat.le_of_ble_eq_true rfl) (c_JLong_numberOfTrailingZeros G _ (run T P wo (zd.map fun d => (ot, d)) m).1 hok.1) ⟨Nat.le_of_ble_eq_true rfl, Nat.le_of_ble_eq_true rfl, Nat.le_of_ble_eq_true rfl, Nat.le_of_ble_eq_true rfl⟩) ?_
          exact zx_iret C hq d_Life_factsAt_124 (⟨_, rfl, rfl, v, P.1, a, _, rfl, ha⟩)
        · have hjP : npx P m < P.1 := Classical.byContradiction fun y => h106 (by show I 12 ≤ _; rw [hp.2.1]; exact (nI_leI (by omega) (by omega)).mpr (by omega))
          have e0 := run_r (T := T) (P := P) (wo := wo) (oe := (zd.map fun d => (ot, d))) (m := m) (npx P m) (Nat.le_refl _)
          refine zx_aload C d_Life_factsAt_109 rfl ?_
          refine zx_aload C d_Life_factsAt_110 rfl ?_
          refine zx_get C f_Life_41_4 d_Life_factsAt_111 13 zcw_13 rfl ?_
          refine zr_dv (zr_V C l_Life_89 d_Life_factsAt_114 (As := [_]) rfl rfl (Nat.le_of_ble_eq_true rfl) (c_Life_noteWrong G _ _ _ _ _ _ _ _ _ _ _) 13 zcw_13 rfl ⟨Nat.le_of_ble_eq_true rfl, Nat.le_of_ble_eq_true rfl, Nat.le_of_ble_eq_true rfl, Nat.le_of_ble_eq_true rfl⟩) ?_
          refine zx_eq rfl rfl (w1 := (cw G ad (li I v (npx P m) (ffw (run T P wo (zd.map fun d => (ot, d)) m).2.2.2 P.1 0)) (vp_updL L 1 (one (run T P wo (zd.map fun d => (ot, d)) m).1)) ((run T P wo (zd.map fun d => (ot, d)) m).2.1.map dA) (zd.map dA) QH QD RI (urL RL 0 a) ++ pw hA dA T X)) (congrArg (fun I => cw G ad I _ _ (zd.map dA) QH QD RI _ ++ pw hA dA T X) ((li_nw (by omega) e0).trans (by rw [ffw_end hp.1 e0 hjP]))) ?_
          refine zx_aload C d_Life_factsAt_117 rfl ?_
          refine zx_get C f_Life_30_4 d_Life_factsAt_118 13 zcw_13 rfl ?_
          refine zr_di (zr_S C l_Life_92 d_Life_factsAt_121 (As := [_]) rfl rfl (Nat.le_of_ble_eq_true rfl) (c_JLong_numberOfTrailingZeros G _ (run T P wo (zd.map fun d => (ot, d)) m).1 hok.1) ⟨Nat.le_of_ble_eq_true rfl, Nat.le_of_ble_eq_true rfl, Nat.le_of_ble_eq_true rfl, Nat.le_of_ble_eq_true rfl⟩) ?_
          exact zx_iret C hq d_Life_factsAt_124 (⟨_, rfl, rfl, v, npx P m, a, _, rfl, ha⟩)
      · exact absurd ((nI_ltI (by omega) (by omega)).mpr (by omega)) h41
    | succ c ih =>
      intro m v a hc hv ha
      have hm60 : m < 60 := by omega
      have hok := run_ok ht hpk hoe (wo := wo) (m := m) (by omega)
      have hdk := dend_ok ht (wo := wo) (m := m) hok
      have hh := hap_64 ht (m := m) (wo := wo) (Nat.le_refl T.1) hok.1
      refine zx_iload C d_Life_factsAt_38 rfl ?_
      refine zx_iload C d_Life_factsAt_40 rfl ?_
      refine zx_ic_gt C d_Life_factsAt_41 (fun h41 => ?_) (fun h41 => ?_)
      · exact absurd ((nI_ltI (by omega) (by omega)).mp h41) (by omega)
      · refine zx_aload C d_Life_factsAt_44 rfl ?_
        refine zx_aload C d_Life_factsAt_45 rfl ?_
        refine zx_get C f_Life_9_4 d_Life_factsAt_46 13 zcw_13 rfl ?_
        refine zx_iload C d_Life_factsAt_49 rfl ?_
        refine zx_aload C d_Life_factsAt_51 rfl ?_
        refine zx_get C f_Life_30_4 d_Life_factsAt_52 13 zcw_13 rfl ?_
        refine zx_iload C d_Life_factsAt_55 rfl ?_
        refine zr_dl (zr_V C l_Life_78 d_Life_factsAt_56 (As := [_, _, _]) rfl rfl (Nat.le_of_ble_eq_true rfl) (c_Twn_happenIn G _ _ _ _ _ _ _ _ _ _ T hA dA (by exact hT.1) h6 (by exact hT.2.2.2.2.1) ht (by exact hT.2.2.2.1) m hm60 _ th hth) 10 zcw_10 rfl ⟨Nat.le_of_ble_eq_true rfl, Nat.le_of_ble_eq_true rfl, Nat.le_of_ble_eq_true rfl, Nat.le_of_ble_eq_true rfl⟩) ?_
        rw [show vp_updL L 1 (one (run T P wo (zd.map fun d => (ot, d)) m).1) 1 = one (run T P wo (zd.map fun d => (ot, d)) m).1 from if_pos rfl, hwl_one ht hw hok.1 (Nat.le_refl _)]
        refine zx_put C p_Life_30_4 d_Life_factsAt_59 13 zcw_13 zb_fit_l (Nat.le_of_ble_eq_true rfl) zcs_13_5 ?_
        rw [vu_self]
        refine zx_aload C d_Life_factsAt_62 rfl ?_
        refine zx_iload C d_Life_factsAt_63 rfl ?_
        refine zr_dv (zr_V C l_Life_82 d_Life_factsAt_65 (As := [_]) rfl rfl (Nat.le_of_ble_eq_true rfl) (c_Life_endDeeds G ad _ L QH QD RI _ X T hA dA ht (run T P wo (zd.map fun d => (ot, d)) m).2.1 zd (hap T m wo T.1 (run T P wo (zd.map fun d => (ot, d)) m).1) (run T P wo (zd.map fun d => (ot, d)) m).2.2.1 ot m hh hm60 hok.2.2 hot (by exact hv) (by exact h16) hok.2.1 hzd) 13 zcw_13 rfl ⟨Nat.le_of_ble_eq_true rfl, Nat.le_of_ble_eq_true rfl, Nat.le_of_ble_eq_true rfl, Nat.le_of_ble_eq_true rfl⟩) ?_
        rw [ednd_dend (T := T) (wo := wo) (m := m) (s := (run T P wo (zd.map fun d => (ot, d)) m))]
        refine zx_aload C d_Life_factsAt_68 rfl ?_
        refine zx_iload C d_Life_factsAt_69 rfl ?_
        refine zr_v (zr_V C l_Life_86 d_Life_factsAt_71 (As := [_]) rfl rfl (Nat.le_of_ble_eq_true rfl) (c_Life_beginPairs G ad I L (zd.map dA) QH QD RI _ X T hA dA ht (by exact hT.2.2.2.2.2) P hp (by exact hT.2.1) (by exact hT.2.2.1) (doth T (zd.map fun d => (ot, d)) m (dend T wo m (run T P wo (zd.map fun d => (ot, d)) m)).1) (doth_lt ht hzd hdk.1) (dend T wo m (run T P wo (zd.map fun d => (ot, d)) m)).2 v m hm60 (run T P wo (zd.map fun d => (ot, d)) m).2.2.1 (run T P wo (zd.map fun d => (ot, d)) m).2.2.2 run_r (fun d hd => hv d (dend_some hd))) 13 zcw_13 rfl ⟨Nat.le_of_ble_eq_true rfl, Nat.le_of_ble_eq_true rfl, Nat.le_of_ble_eq_true rfl, Nat.le_of_ble_eq_true rfl⟩) (fun w1 hw1 => ?_)
        obtain ⟨v2, hv2, rfl⟩ := hw1
        have e1 : doth T (zd.map fun d => (ot, d)) m (dend T wo m (run T P wo (zd.map fun d => (ot, d)) m)).1 = (run T P wo (zd.map fun d => (ot, d)) (m + 1)).1 := dbeg_f.symm
        refine zx_eq rfl rfl (w1 := (cw G ad (li I v2 (npx P (m + 1)) (ffw (run T P wo (zd.map fun d => (ot, d)) (m + 1)).2.2.2 (npx P (m + 1)) 0)) (vp_updL L 1 (one (run T P wo (zd.map fun d => (ot, d)) (m + 1)).1)) ((run T P wo (zd.map fun d => (ot, d)) (m + 1)).2.1.map dA) (zd.map dA) QH QD RI (urL RL 0 a) ++ pw hA dA T X)) (congrArg (fun f => (cw G ad (li I v2 (npx P (m + 1)) (ffw (run T P wo (zd.map fun d => (ot, d)) (m + 1)).2.2.2 (npx P (m + 1)) 0)) (vp_updL L 1 (one f)) ((run T P wo (zd.map fun d => (ot, d)) (m + 1)).2.1.map dA) (zd.map dA) QH QD RI (urL RL 0 a) ++ pw hA dA T X)) e1) ?_
        refine zx_aload C d_Life_factsAt_74 rfl ?_
        refine zx_get C f_Life_47_4 d_Life_factsAt_75 13 zcw_13 rfl ?_
        refine zx_ifnonnull C d_Life_factsAt_78 (fun a78 h78 => ?_) (fun h78 => ?_)
        · refine zx_iinc C d_Life_factsAt_92 (by decide) rfl (lv1 := [(4, _), (0, _), (1, _), (2, _), (3, _)]) rfl ?_
          refine zx_goto C d_Life_factsAt_95 ?_
          rw [show (1 : Int32) = nI 1 from rfl, nI_add]
          exact zx_lv [0, 1, 2, 3, 4] rfl (ih (m + 1) v2 a (by omega) hv2 ⟨fun y => (by rw [y] at h78; cases h78), ha.2⟩)
        · refine zx_aload C d_Life_factsAt_81 rfl ?_
          refine zx_get C f_Life_26_4 d_Life_factsAt_82 13 zcw_13 rfl ?_
          refine zx_iload C d_Life_factsAt_85 rfl ?_
          refine zx_aload C d_Life_factsAt_87 rfl ?_
          refine zx_get C f_Life_30_4 d_Life_factsAt_88 13 zcw_13 rfl ?_
          refine zx_last C d_Life_factsAt_91 16 zcw_16 m rfl (by omega) (by decide) zca_16 ?_
          have hzn : zd = none := by
            cases zd with
            | none => rfl
            | some d => cases h78
          refine zx_eq rfl rfl (w1 := (cw G ad (li I v2 (npx P (m + 1)) (ffw (run T P wo (zd.map fun d => (ot, d)) (m + 1)).2.2.2 (npx P (m + 1)) 0)) (vp_updL L 1 (one (run T P wo (zd.map fun d => (ot, d)) (m + 1)).1)) ((run T P wo (zd.map fun d => (ot, d)) (m + 1)).2.1.map dA) (zd.map dA) QH QD RI (urL RL 0 (vp_updL a m (one (run T P wo (zd.map fun d => (ot, d)) (m + 1)).1))) ++ pw hA dA T X)) (congrArg (fun R => cw G ad _ _ _ (zd.map dA) QH QD RI R ++ pw hA dA T X) (urL_urL RL 0 a _)) ?_
          refine zx_iinc C d_Life_factsAt_92 (by decide) rfl (lv1 := [(4, _), (0, _), (1, _), (2, _), (3, _)]) rfl ?_
          refine zx_goto C d_Life_factsAt_95 ?_
          rw [show (1 : Int32) = nI 1 from rfl, nI_add]
          exact zx_lv [0, 1, 2, 3, 4] rfl (ih (m + 1) v2 _ (by omega) hv2 ⟨fun y q hq => by
              by_cases e : q = m
              · subst e; exact if_pos rfl
              · exact (if_neg e).trans (ha.1 y q (by omega)), fun d hd => by rw [hzn] at hd; cases hd⟩)
  refine zx_aload C d_Life_factsAt_0 rfl ?_
  refine zx_lc C d_Life_factsAt_1 ?_
  refine zx_put C p_Life_30_4 d_Life_factsAt_2 13 zcw_13 zb_fit_l (Nat.le_of_ble_eq_true rfl) zcs_13_5 ?_
  refine zx_aload C d_Life_factsAt_5 rfl ?_
  refine zx_null C d_Life_factsAt_6 ?_
  refine zx_put C p_Life_34_4 d_Life_factsAt_7 13 zcw_13 zb_fit_n (Nat.le_of_ble_eq_true rfl) zcs_13_6N ?_
  refine zx_aload C d_Life_factsAt_10 rfl ?_
  refine zx_ic C d_Life_factsAt_11 ?_
  refine zx_put C p_Life_41_4 d_Life_factsAt_12 13 zcw_13 zb_fit_i (Nat.le_of_ble_eq_true rfl) zcs_13_8 ?_
  refine zx_aload C d_Life_factsAt_15 rfl ?_
  refine zx_ic C d_Life_factsAt_16 ?_
  refine zx_put C p_Life_44_4 d_Life_factsAt_18 13 zcw_13 zb_fit_i (Nat.le_of_ble_eq_true rfl) zcs_13_9 ?_
  refine zx_eq rfl rfl (w1 := (cw G ad (li I (I 13) (0) (-9)) (vp_updL L 1 (one 0)) none (zd.map dA) QH QD RI (urL RL 0 (RL 0)) ++ pw hA dA T X)) (by rw [← li_0, urL_self, one_0]) ?_
  refine zx_aload C d_Life_factsAt_21 rfl ?_
  refine zx_get C f_Life_9_4 d_Life_factsAt_22 13 zcw_13 rfl ?_
  refine zx_iload C d_Life_factsAt_25 rfl ?_
  refine zr_di (zr_V C l_Life_69 d_Life_factsAt_26 (As := [_]) rfl rfl (Nat.le_of_ble_eq_true rfl) (c_Twn_minuteInDay G _ _ _ _ _ _ _ _ _ _ _) 10 zcw_10 rfl ⟨Nat.le_of_ble_eq_true rfl, Nat.le_of_ble_eq_true rfl, Nat.le_of_ble_eq_true rfl, Nat.le_of_ble_eq_true rfl⟩) ?_
  refine zx_ic C d_Life_factsAt_29 ?_
  refine zx_mmin C zk_math_Life_72 d_Life_factsAt_31 (Nat.le_of_ble_eq_true rfl) (Nat.le_of_ble_eq_true rfl) (Nat.le_of_ble_eq_true rfl) (Nat.le_of_ble_eq_true rfl) ?_
  refine zx_eq rfl (st1 := [.int (nI (M - 1))]) (congrArg (fun v => [Value.int v]) (by rw [hM]; exact last_eq hT.2.2.1 h1 h60 hmm)) rfl ?_
  refine zx_istore C d_Life_factsAt_34 (by decide) (lv1 := [(3, _), (0, _), (1, _), (2, _)]) rfl ?_
  refine zx_ic C d_Life_factsAt_35 ?_
  refine zx_istore C d_Life_factsAt_36 (by decide) (lv1 := [(4, _), (3, _), (0, _), (1, _), (2, _)]) rfl ?_
  have k1 := lp M 0 (I 13) (RL 0) (by omega) (fun d hd => by cases hd) ⟨fun _ q hq => absurd hq (Nat.not_lt_zero q), fun _ _ => rfl⟩
  rw [npx_0] at k1
  exact zx_lv [0, 1, 2, 3, 4] rfl k1
