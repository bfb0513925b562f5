def fndk (k v : Int32) (s : Nat × Int32) : Prop := s.2 = v ∧ ∃ c, c < s.1 ∧ nI c = k
def nfk (k : Int32) (s : Nat × Int32) : Prop := s.2 = -9 ∧ ∀ c, c < s.1 → ¬ nI c = k
theorem fnd_ostp {T : ZT} {P : ZP} {set m d : Nat} {k v : Int32} {s : Nat × Int32} (hb : s.1 < 2 ^ 31) (h : fndk k v s) : fndk k v (ostp T P set k m d s) := by
  unfold ostp
  split
  · obtain ⟨h1, c, hc, he⟩ := h
    refine ⟨?_, c, by show c < s.1 + 1; omega, he⟩
    show (if nI s.1 = k then _ else s.2) = v
    rw [if_neg (fun z => by have := (nI_eqz hb (by omega)).mp (z.trans he.symm); omega)]
    exact h1
  · exact h
theorem fnd_olpD {T : ZT} {P : ZP} {set m d0 : Nat} {k v : Int32} {s : Nat × Int32} (hb : s.1 ≤ 1000) (h : fndk k v (olpD T P set k m d0 s)) : ∀ c, d0 + c ≤ 1000 → fndk k v (olpD T P set k m (d0 + c) s)
  | 0, _ => h
  | c + 1, hc => fnd_ostp (by have := olpD_le (T := T) (P := P) (set := set) (m := m) (k := k) (s := s) (d := d0 + c); show (olpD T P set k m (d0 + c) s).1 < _; omega) (fnd_olpD hb h c (by omega))
theorem fnd_olpM {T : ZT} (hd : T.2.1 ≤ 5) {P : ZP} {set m0 : Nat} {k v : Int32} (h : fndk k v (olpM T P set k m0)) : ∀ c, m0 + c ≤ 100 → fndk k v (olpM T P set k (m0 + c))
  | 0, _ => h
  | c + 1, hc => by
    have ih := fnd_olpM hd h c (by omega)
    have h1 := olpM_le hd (P := P) (set := set) (k := k) (m := m0 + c)
    have := fnd_olpD (T := T) (P := P) (set := set) (m := m0 + c) (d0 := 0) (s := olpM T P set k (m0 + c)) (by omega) ih T.2.1 (by omega)
    rw [Nat.zero_add] at this
    exact this
theorem fnd_end {T : ZT} (hd5 : T.2.1 ≤ 5) (h60 : T.2.2.1 ≤ 60) {P : ZP} {set m d : Nat} {k : Int32} (hm : m < T.2.2.1) (hd : d < T.2.1) (ho : oth1 T P set m d = true) (hk : nI (olpD T P set k m d (olpM T P set k m)).1 = k) : (olpM T P set k T.2.2.1).2 = nI (10 * m + d) := by
  have h1 := olpM_le hd5 (P := P) (set := set) (k := k) (m := m)
  have e1 : fndk k (nI (10 * m + d)) (olpD T P set k m (d + 1) (olpM T P set k m)) := by
    show fndk k _ (ostp T P set k m d (olpD T P set k m d (olpM T P set k m)))
    rw [ostp_yes ho]
    exact ⟨if_pos hk, _, Nat.lt_succ_self _, hk⟩
  have e2 := fnd_olpD (by omega) e1 (T.2.1 - (d + 1)) (by omega)
  rw [show d + 1 + (T.2.1 - (d + 1)) = T.2.1 by omega] at e2
  have e3 := fnd_olpM hd5 (m0 := m + 1) e2 (T.2.2.1 - (m + 1)) (by omega)
  rw [show m + 1 + (T.2.2.1 - (m + 1)) = T.2.2.1 by omega] at e3
  exact e3.1
theorem nf_yes {T : ZT} {P : ZP} {set m d : Nat} {k : Int32} {s : Nat × Int32} (ho : oth1 T P set m d = true) (hk : ¬ nI s.1 = k) (h : nfk k s) : nfk k (ostp T P set k m d s) := by
  rw [ostp_yes ho, if_neg hk]
  refine ⟨h.1, fun c hc => ?_⟩
  by_cases e : c = s.1
  · subst e; exact hk
  · exact h.2 c (by have : c < s.1 + 1 := hc; omega)
set_option maxHeartbeats 600000 in
set_option maxRecDepth 20000 in
theorem c_Life_endsWith (G : ZG) (ad : Nat → Nat) (I : Nat → Int32) (L : Nat → Int64) (g : Option Nat) (QH QD : Nat → Option Nat) (RI : Nat → Nat → Int32) (RL : Nat → Nat → Int64) (X : va_W) (S : ZA) (hA dA : Nat → Nat) (hm : crp S hA dA I L QH QD RI RL) (P : ZP) (hp : cprow (aT S) P I RI) (h1 : 1 ≤ (aT S).2.2.1) (d m set : Nat) (hd : d < (aT S).2.1) (hmm : m < 60) (hs : set < 64) : ZM G y_Life_endsWith b_Life_endsWith 5 (some .boolean) r_Life_endsWith [.ref (ad 13), .ref (dA d), .int (nI m), .int (nI set)] (cw G ad I L g none QH QD RI RL ++ pw hA dA (aT S) X) (zpi (fun r w => r = zB ((run (aT S) P 0 (some (m + tq (aT S) 7 d, d)) (aT S).2.2.1).1 = set) ∧ ∃ (I2 : Nat → Int32) (L2 : Nat → Int64) (g2 : Option Nat), w = cw G ad I2 L2 g2 none QH QD RI RL ++ pw hA dA (aT S) X ∧ crp S hA dA I2 L2 QH QD RI RL ∧ cprow (aT S) P I2 RI)) := by
  refine ZM.of "SameTuesday$Life" "endsWith" rfl rfl (by decide) (Nat.le_of_ble_eq_true rfl) (fun Y C hq => ?_)
  change ZV G Y 0 0 0 [(0, .ref (ad 13)), (1, .ref (dA d)), (2, .int (nI m)), (3, .int (nI set))] [] (cw G ad I L g none QH QD RI RL ++ pw hA dA (aT S) X)
  have h60 := hm.1.2.1.2.2.1
  have hdk := hm.1.2.1.2.2.2.2 d hd
  have hpk : pok (aT S) P := ⟨hp.1, fun k hk => ⟨(hp.2.2 k hk).2.1, (hp.2.2 k hk).2.2.2⟩⟩
  have hrn := (run_ok hm.1.2.1 hpk (wo := 0) (oe := some (m + tq (aT S) 7 d, d)) (fun q hq => by cases hq; exact hd) h60).1
  refine zx_aload C d_Life_endsWith_0 rfl ?_
  refine zx_aload C d_Life_endsWith_1 rfl ?_
  refine zx_put C p_Life_47_4 d_Life_endsWith_2 13 zcw_13 zb_fit_r (Nat.le_of_ble_eq_true rfl) zcs_13_10R ?_
  refine zx_aload C d_Life_endsWith_5 rfl ?_
  refine zx_iload C d_Life_endsWith_6 rfl ?_
  refine zx_aload C d_Life_endsWith_7 rfl ?_
  refine zx_get C f_Life_118_1 d_Life_endsWith_8 (23 + ((aT S).1 + d)) (zcw_de hd) rfl ?_
  refine zx_iadd C d_Life_endsWith_11 ?_
  rw [nI_add]
  refine zx_put C p_Life_50_4 d_Life_endsWith_12 13 zcw_13 zb_fit_i (Nat.le_of_ble_eq_true rfl) zcs_13_11 ?_
  refine zx_aload C d_Life_endsWith_15 rfl ?_
  refine zx_ic C d_Life_endsWith_16 ?_
  refine zx_ic C d_Life_endsWith_18 ?_
  refine zr_i (zr_V C l_Life_121 d_Life_endsWith_20 (As := [_, _]) rfl rfl (Nat.le_of_ble_eq_true rfl) (c_Life_factsAt G ad (upd I 16 (nI (m + tq (aT S) 7 d))) L g QH QD RI RL X (aT S) hA dA hm.1.2.1 (by exact hm.2.2.2.2.2.2.1) P (by exact hp) (some d) (m + tq (aT S) 7 d) (by omega) (fun d2 hd2 => rfl) (fun d2 hd2 => by cases hd2; exact hd) h1 59 (aT S).2.2.1 (by decide) (by omega) 63 0 (by decide) th_0) 13 zcw_13 rfl ⟨Nat.le_of_ble_eq_true rfl, Nat.le_of_ble_eq_true rfl, Nat.le_of_ble_eq_true rfl, Nat.le_of_ble_eq_true rfl⟩) (fun r w2 hfa => ?_)
  obtain ⟨rfl, v, j, a, g2, rfl, -, ha⟩ := hfa
  obtain rfl := ha d rfl
  rw [urL_self]
  refine zx_istore C d_Life_endsWith_23 (by decide) (lv1 := [(4, _), (0, _), (1, _), (2, _), (3, _)]) rfl ?_
  refine zx_aload C d_Life_endsWith_25 rfl ?_
  refine zx_null C d_Life_endsWith_26 ?_
  refine zx_put C p_Life_47_4 d_Life_endsWith_27 13 zcw_13 zb_fit_n (Nat.le_of_ble_eq_true rfl) zcs_13_10N ?_
  refine zx_iload C d_Life_endsWith_30 rfl ?_
  refine zx_iload C d_Life_endsWith_32 rfl ?_
  refine zx_ic_ne C d_Life_endsWith_33 (fun h33 => ?_) (fun h33 => ?_)
  · have e : ¬ (run (aT S) P 0 (some (m + tq (aT S) 7 d, d)) (aT S).2.2.1).1 = set := fun y => h33 (congrArg nI y)
    refine zx_ic C d_Life_endsWith_40 ?_
    exact zx_zret C hq (by decide) d_Life_endsWith_41 (by first | exact ⟨_, rfl, (zB_t e).symm, _, _, g2, rfl, by exact (crp_any hm (fun b hb => (li_far (by omega)).trans (upd_far (by omega))) (fun k hk => rfl) rfl rfl), ⟨hp.1, (li_far (by omega)).trans hp.2.1, hp.2.2⟩⟩ | exact ⟨_, rfl, (zB_f e).symm, _, _, g2, rfl, by exact (crp_any hm (fun b hb => (li_far (by omega)).trans (upd_far (by omega))) (fun k hk => rfl) rfl rfl), ⟨hp.1, (li_far (by omega)).trans hp.2.1, hp.2.2⟩⟩)
  · have e : (run (aT S) P 0 (some (m + tq (aT S) 7 d, d)) (aT S).2.2.1).1 = set := (nI_eqz (by omega) (by omega)).mp (by first | exact h33 | exact Classical.byContradiction h33)
    refine zx_ic C d_Life_endsWith_36 ?_
    refine zx_goto C d_Life_endsWith_37 ?_
    exact zx_zret C hq (by decide) d_Life_endsWith_41 (by first | exact ⟨_, rfl, (zB_t e).symm, _, _, g2, rfl, by exact (crp_any hm (fun b hb => (li_far (by omega)).trans (upd_far (by omega))) (fun k hk => rfl) rfl rfl), ⟨hp.1, (li_far (by omega)).trans hp.2.1, hp.2.2⟩⟩ | exact ⟨_, rfl, (zB_f e).symm, _, _, g2, rfl, by exact (crp_any hm (fun b hb => (li_far (by omega)).trans (upd_far (by omega))) (fun k hk => rfl) rfl rfl), ⟨hp.1, (li_far (by omega)).trans hp.2.1, hp.2.2⟩⟩)
set_option maxHeartbeats 600000 in
set_option maxRecDepth 20000 in
theorem c_Life_otherAt (G : ZG) (ad : Nat → Nat) (I : Nat → Int32) (L : Nat → Int64) (g : Option Nat) (QH QD : Nat → Option Nat) (RI : Nat → Nat → Int32) (RL : Nat → Nat → Int64) (X : va_W) (S : ZA) (hA dA : Nat → Nat) (hm : crp S hA dA I L QH QD RI RL) (P : ZP) (hp : cprow (aT S) P I RI) (h1 : 1 ≤ (aT S).2.2.1) (set : Nat) (hs : set < 64) (k : Int32) : ZM G y_Life_otherAt b_Life_otherAt 7 (some .int) r_Life_otherAt [.ref (ad 13), .int (nI set), .int k] (cw G ad I L g none QH QD RI RL ++ pw hA dA (aT S) X) (zpi (fun r w => r = (if k = -1 then nI (olpM (aT S) P set k (aT S).2.2.1).1 else (olpM (aT S) P set k (aT S).2.2.1).2) ∧ ∃ (I2 : Nat → Int32) (L2 : Nat → Int64) (g2 : Option Nat) (RL2 : Nat → Nat → Int64), w = cw G ad I2 L2 g2 none QH QD RI RL2 ++ pw hA dA (aT S) X ∧ crp S hA dA I2 L2 QH QD RI RL2)) := by
  refine ZM.of "SameTuesday$Life" "otherAt" rfl rfl (by decide) (Nat.le_of_ble_eq_true rfl) (fun Y C hq => ?_)
  change ZV G Y 0 0 0 [(0, .ref (ad 13)), (1, .int (nI set)), (2, .int k)] [] (cw G ad I L g none QH QD RI RL ++ pw hA dA (aT S) X)
  have h60 := hm.1.2.1.2.2.1
  have hpk : pok (aT S) P := ⟨hp.1, fun k hk => ⟨(hp.2.2 k hk).2.1, (hp.2.2 k hk).2.2.2⟩⟩
  refine zx_aload C d_Life_otherAt_0 rfl ?_
  refine zx_ic C d_Life_otherAt_1 ?_
  refine zx_ic C d_Life_otherAt_3 ?_
  refine zr_i (zr_V C l_Life_121 d_Life_otherAt_5 (As := [_, _]) rfl rfl (Nat.le_of_ble_eq_true rfl) (c_Life_factsAt G ad I L g QH QD RI RL X (aT S) hA dA hm.1.2.1 (hm.2.2.2.2.2.2.1) P hp none 0 (by decide) (fun d hd => by cases hd) (fun d hd => by cases hd) h1 59 (aT S).2.2.1 (by omega) (by omega) 63 0 (by decide) th_0) 13 zcw_13 rfl ⟨Nat.le_of_ble_eq_true rfl, Nat.le_of_ble_eq_true rfl, Nat.le_of_ble_eq_true rfl, Nat.le_of_ble_eq_true rfl⟩) (fun r w2 hfa => ?_)
  obtain ⟨rfl, I4, L4, g4, RL4, rfl, hm4, hp4, h15, hal⟩ := fa_crp hm hp hfa
  have h5 := hm.1.2.1.2.1
  have lp : ∀ c m (I3 : Nat → Int32) (L3 : Nat → Int64) (g3 : Option Nat), m + c = (aT S).2.2.1 → crp S hA dA I3 L3 QH QD RI RL4 → cprow (aT S) P I3 RI → nfk k (olpM (aT S) P set k m) → ZV G Y 0 0 14 [(0, .ref (ad 13)), (1, .int (nI set)), (2, .int k), (3, .int (nI (olpM (aT S) P set k m).1)), (4, .int (nI m))] [] (cw G ad I3 L3 g3 none QH QD RI RL4 ++ pw hA dA (aT S) X) := by
    intro c
    induction c with
    | zero =>
      intro m I3 L3 g3 hc hm3 hp3 hn
      obtain rfl : m = (aT S).2.2.1 := by omega
      refine zx_iload C d_Life_otherAt_14 rfl ?_
      refine zx_aload C d_Life_otherAt_16 rfl ?_
      refine zx_get C f_Life_9_4 d_Life_otherAt_17 13 zcw_13 rfl ?_
      refine zr_di (zr_V C l_Life_128 d_Life_otherAt_20 (As := []) rfl rfl (Nat.le_of_ble_eq_true rfl) (c_Twn_minuteCount G _ _ _ _ _ _ _ _ _ _) 10 zcw_10 rfl ⟨Nat.le_of_ble_eq_true rfl, Nat.le_of_ble_eq_true rfl, Nat.le_of_ble_eq_true rfl, Nat.le_of_ble_eq_true rfl⟩) ?_
      refine zx_ic_ge C d_Life_otherAt_23 (fun h23 => ?_) (fun h23 => ?_)
      · refine zx_iload C d_Life_otherAt_128 rfl ?_
        refine zx_ic C d_Life_otherAt_129 ?_
        refine zx_ic_ne C d_Life_otherAt_130 (fun h130 => ?_) (fun h130 => ?_)
        · have ev : (if k = -1 then nI (olpM (aT S) P set k (aT S).2.2.1).1 else (olpM (aT S) P set k (aT S).2.2.1).2) = -9 := by rw [if_neg h130]; exact hn.1
          refine zx_ic C d_Life_otherAt_137 ?_
          exact zx_iret C hq d_Life_otherAt_139 (⟨_, rfl, ev.symm, I3, L3, g3, RL4, rfl, hm3⟩)
        · have ev : (if k = -1 then nI (olpM (aT S) P set k (aT S).2.2.1).1 else (olpM (aT S) P set k (aT S).2.2.1).2) = nI (olpM (aT S) P set k (aT S).2.2.1).1 := if_pos (by first | exact h130 | exact Classical.byContradiction h130)
          refine zx_iload C d_Life_otherAt_133 rfl ?_
          refine zx_goto C d_Life_otherAt_134 ?_
          exact zx_iret C hq d_Life_otherAt_139 (⟨_, rfl, ev.symm, I3, L3, g3, RL4, rfl, hm3⟩)
      · exact absurd (by rw [hm3.2.2.2.2.2.2.1.2.2.1]; exact Int32.le_refl _) h23
    | succ c ih =>
      intro m I3 L3 g3 hc hm3 hp3 hn
      have hmT : m < (aT S).2.2.1 := by omega
      have hm60 : m < 60 := by omega
      have hrn := (run_ok hm.1.2.1 hpk (wo := 0) (oe := none) (fun q hq => by cases hq) (m := m + 1) (by omega)).1
      have lpd : ∀ cd d (I3 : Nat → Int32) (L3 : Nat → Int64) (g3 : Option Nat), d + cd = (aT S).2.1 → crp S hA dA I3 L3 QH QD RI RL4 → cprow (aT S) P I3 RI → nfk k (olpD (aT S) P set k m d (olpM (aT S) P set k m)) → ZV G Y 0 0 36 [(0, .ref (ad 13)), (1, .int (nI set)), (2, .int k), (3, .int (nI (olpD (aT S) P set k m d (olpM (aT S) P set k m)).1)), (4, .int (nI m)), (5, .int (nI d))] [] (cw G ad I3 L3 g3 none QH QD RI RL4 ++ pw hA dA (aT S) X) := by
        intro cd
        induction cd with
        | zero =>
          intro d I3 L3 g3 hc hm3 hp3 hn
          obtain rfl : d = (aT S).2.1 := by omega
          refine zx_iload C d_Life_otherAt_36 rfl ?_
          refine zx_aload C d_Life_otherAt_38 rfl ?_
          refine zx_get C f_Life_9_4 d_Life_otherAt_39 13 zcw_13 rfl ?_
          refine zr_di (zr_V C l_Life_131 d_Life_otherAt_42 (As := []) rfl rfl (Nat.le_of_ble_eq_true rfl) (c_Twn_deedCount G _ _ _ _ _ _ _ _ _ _) 10 zcw_10 rfl ⟨Nat.le_of_ble_eq_true rfl, Nat.le_of_ble_eq_true rfl, Nat.le_of_ble_eq_true rfl, Nat.le_of_ble_eq_true rfl⟩) ?_
          refine zx_ic_ge C d_Life_otherAt_45 (fun h45 => ?_) (fun h45 => ?_)
          · refine zx_iinc C d_Life_otherAt_122 (by decide) rfl (lv1 := [(4, _), (0, _), (1, _), (2, _), (3, _), (5, _)]) rfl ?_
            refine zx_goto C d_Life_otherAt_125 ?_
            rw [show (1 : Int32) = nI 1 from rfl, nI_add]
            exact zx_lv [0, 1, 2, 3, 4] rfl (ih (m + 1) I3 L3 g3 (by omega) hm3 hp3 hn)
          · exact absurd (by rw [hm3.2.2.2.2.2.2.1.2.1]; exact Int32.le_refl _) h45
        | succ cd ihd =>
          intro d I3 L3 g3 hc hm3 hp3 hn
          have hd : d < (aT S).2.1 := by omega
          refine zx_iload C d_Life_otherAt_36 rfl ?_
          refine zx_aload C d_Life_otherAt_38 rfl ?_
          refine zx_get C f_Life_9_4 d_Life_otherAt_39 13 zcw_13 rfl ?_
          refine zr_di (zr_V C l_Life_131 d_Life_otherAt_42 (As := []) rfl rfl (Nat.le_of_ble_eq_true rfl) (c_Twn_deedCount G _ _ _ _ _ _ _ _ _ _) 10 zcw_10 rfl ⟨Nat.le_of_ble_eq_true rfl, Nat.le_of_ble_eq_true rfl, Nat.le_of_ble_eq_true rfl, Nat.le_of_ble_eq_true rfl⟩) ?_
          refine zx_ic_ge C d_Life_otherAt_45 (fun h45 => ?_) (fun h45 => ?_)
          · exact absurd h45 (by rw [hm3.2.2.2.2.2.2.1.2.1]; exact nI_ge (by omega) (by omega))
          · refine zx_aload C d_Life_otherAt_48 rfl ?_
            refine zx_get C f_Life_9_4 d_Life_otherAt_49 13 zcw_13 rfl ?_
            refine zx_iload C d_Life_otherAt_52 rfl ?_
            refine zr_dq (zr_V C l_Life_63 d_Life_otherAt_54 (As := [_]) rfl rfl (Nat.le_of_ble_eq_true rfl) (c_Twn_deedOf G _ _ _ _ _ _ _ _ _ _ (aT S).2.1 (by exact hm3.2.2.2.2.2.2.1.2.1) h5 _) 10 zcw_10 rfl ⟨Nat.le_of_ble_eq_true rfl, Nat.le_of_ble_eq_true rfl, Nat.le_of_ble_eq_true rfl, Nat.le_of_ble_eq_true rfl⟩) ?_
            rw [qof_at hd (by omega), hm3.2.2.2.2.2.2.1.2.2.2.2.2 d hd]
            refine zx_astore C d_Life_otherAt_57 (by decide) (lv1 := [(6, _), (0, _), (1, _), (2, _), (3, _), (4, _), (5, _)]) rfl ?_
            refine zx_aload C d_Life_otherAt_59 rfl ?_
            refine zx_ifnullR C d_Life_otherAt_61 ?_
            refine zx_aload C d_Life_otherAt_64 rfl ?_
            refine zx_get C f_Life_9_4 d_Life_otherAt_65 13 zcw_13 rfl ?_
            refine zx_aload C d_Life_otherAt_68 rfl ?_
            refine zx_iload C d_Life_otherAt_70 rfl ?_
            refine zx_aload C d_Life_otherAt_72 rfl ?_
            refine zx_get C f_Life_26_4 d_Life_otherAt_73 13 zcw_13 rfl ?_
            refine zx_iload C d_Life_otherAt_76 rfl ?_
            refine zx_lald C d_Life_otherAt_78 16 zcw_16 m rfl hm60 (by decide) ?_
            rw [hal m hmT]
            refine zr_dl (zr_V C l_Life_114 d_Life_otherAt_79 (As := [_, _, _]) rfl rfl (Nat.le_of_ble_eq_true rfl) (c_Twn_openTo G _ _ _ _ _ _ _ _ _ _ (23 + ((aT S).1 + d)) (dA d) _ _ _ _ _ (zcw_de hd) (nI m) _) 10 zcw_10 rfl ⟨Nat.le_of_ble_eq_true rfl, Nat.le_of_ble_eq_true rfl, Nat.le_of_ble_eq_true rfl, Nat.le_of_ble_eq_true rfl⟩) ?_
            refine zx_lc C d_Life_otherAt_82 ?_
            refine zx_lcmp C d_Life_otherAt_83 ?_
            refine zx_if_eq C d_Life_otherAt_84 (fun h84 => ?_) (fun h84 => ?_)
            · have ho : ¬ oth1 (aT S) P set m d = true := fun y => by
                rw [oth1, Bool.and_eq_true] at y
                exact (op_0 hm.1.2.1 hd hrn hm60 hm3.2.2.2.2.2.2.1.2.2.1).mp ((lg_cmp_eq _ _).mp h84) y.1
              have ev := ostp_no (k := k) (s := (olpD (aT S) P set k m d (olpM (aT S) P set k m))) ho
              have hn2 : nfk k (olpD (aT S) P set k m (d + 1) (olpM (aT S) P set k m)) := by rw [show (olpD (aT S) P set k m (d + 1) (olpM (aT S) P set k m)) = _ from ev]; exact hn
              have hmz := hm3
              have hpz := hp3
              refine zx_iinc C d_Life_otherAt_116 (by decide) rfl (lv1 := [(5, _), (6, _), (0, _), (1, _), (2, _), (3, _), (4, _)]) rfl ?_
              refine zx_goto C d_Life_otherAt_119 ?_
              rw [show (1 : Int32) = nI 1 from rfl, nI_add]
              have k1 := ihd (d + 1) I3 L3 g3 (by omega) hmz hpz hn2
              rw [show (olpD (aT S) P set k m (d + 1) (olpM (aT S) P set k m)).1 = _ from congrArg Prod.fst ev] at k1
              exact zx_lv [0, 1, 2, 3, 4, 5] rfl k1
            · have hmay : may (aT S) d m (run (aT S) P 0 none (m + 1)).1 = true := Classical.byContradiction fun y => h84 ((lg_cmp_eq _ _).mpr ((op_0 hm.1.2.1 hd hrn hm60 hm3.2.2.2.2.2.2.1.2.2.1).mpr y))
              refine zx_aload C d_Life_otherAt_87 rfl ?_
              refine zx_aload C d_Life_otherAt_88 rfl ?_
              refine zx_iload C d_Life_otherAt_90 rfl ?_
              refine zx_iload C d_Life_otherAt_92 rfl ?_
              refine zr_i (zr_V C l_Life_134 d_Life_otherAt_93 (As := [_, _, _]) rfl rfl (Nat.le_of_ble_eq_true rfl) (c_Life_endsWith G ad I3 L3 g3 QH QD RI RL4 X S hA dA hm3 P hp3 h1 d m set hd hm60 hs) 13 zcw_13 rfl ⟨Nat.le_of_ble_eq_true rfl, Nat.le_of_ble_eq_true rfl, Nat.le_of_ble_eq_true rfl, Nat.le_of_ble_eq_true rfl⟩) (fun r w2 hfa => ?_)
              obtain ⟨rfl, I5, L5, g5, rfl, hm5, hp5⟩ := hfa
              refine zx_ifB_eq C d_Life_otherAt_96 (fun h96 => ?_) (fun h96 => ?_)
              · have ho : ¬ oth1 (aT S) P set m d = true := fun y => by
                  rw [oth1, Bool.and_eq_true] at y
                  exact h96 (beq_iff_eq.mp y.2)
                have ev := ostp_no (k := k) (s := (olpD (aT S) P set k m d (olpM (aT S) P set k m))) ho
                have hn2 : nfk k (olpD (aT S) P set k m (d + 1) (olpM (aT S) P set k m)) := by rw [show (olpD (aT S) P set k m (d + 1) (olpM (aT S) P set k m)) = _ from ev]; exact hn
                have hmz := hm5
                have hpz := hp5
                refine zx_iinc C d_Life_otherAt_116 (by decide) rfl (lv1 := [(5, _), (6, _), (0, _), (1, _), (2, _), (3, _), (4, _)]) rfl ?_
                refine zx_goto C d_Life_otherAt_119 ?_
                rw [show (1 : Int32) = nI 1 from rfl, nI_add]
                have k1 := ihd (d + 1) I5 L5 g5 (by omega) hmz hpz hn2
                rw [show (olpD (aT S) P set k m (d + 1) (olpM (aT S) P set k m)).1 = _ from congrArg Prod.fst ev] at k1
                exact zx_lv [0, 1, 2, 3, 4, 5] rfl k1
              · have ho : oth1 (aT S) P set m d = true := by rw [oth1, hmay, beq_iff_eq.mpr h96]; rfl
                refine zx_iload C d_Life_otherAt_99 rfl ?_
                refine zx_iload C d_Life_otherAt_100 rfl ?_
                refine zx_ic_ne C d_Life_otherAt_101 (fun h101 => ?_) (fun h101 => ?_)
                · have ev : (ostp (aT S) P set k m d (olpD (aT S) P set k m d (olpM (aT S) P set k m))).1 = (olpD (aT S) P set k m d (olpM (aT S) P set k m)).1 + 1 := by rw [ostp_yes ho]
                  have hn2 := nf_yes ho h101 hn
                  have hmz := hm5
                  have hpz := hp5
                  refine zx_iinc C d_Life_otherAt_113 (by decide) rfl (lv1 := [(3, _), (6, _), (0, _), (1, _), (2, _), (4, _), (5, _)]) rfl ?_
                  refine zx_iinc C d_Life_otherAt_116 (by decide) rfl (lv1 := [(5, _), (3, _), (6, _), (0, _), (1, _), (2, _), (4, _)]) rfl ?_
                  refine zx_goto C d_Life_otherAt_119 ?_
                  rw [show (1 : Int32) = nI 1 from rfl, nI_add, nI_add]
                  have k1 := ihd (d + 1) I5 L5 g5 (by omega) hmz hpz hn2
                  rw [show (olpD (aT S) P set k m (d + 1) (olpM (aT S) P set k m)).1 = _ from ev] at k1
                  exact zx_lv [0, 1, 2, 3, 4, 5] rfl k1
                · have h101 : nI (olpD (aT S) P set k m d (olpM (aT S) P set k m)).1 = k := by first | exact h101 | exact Classical.byContradiction h101
                  have hcl := olpM_le h5 (P := P) (set := set) (k := k) (m := m)
                  have hcd := olpD_le (T := aT S) (P := P) (set := set) (m := m) (k := k) (s := olpM (aT S) P set k m) (d := d)
                  have hk1 : ¬ k = -1 := fun y => nI_nn (a := (olpD (aT S) P set k m d (olpM (aT S) P set k m)).1) (by omega) (by rw [h101, y]; decide)
                  have ev : (if k = -1 then nI (olpM (aT S) P set k (aT S).2.2.1).1 else (olpM (aT S) P set k (aT S).2.2.1).2) = nI (10 * m + d) := by rw [if_neg hk1]; exact fnd_end h5 h60 hmT hd ho h101
                  refine zx_ic C d_Life_otherAt_104 ?_
                  refine zx_iload C d_Life_otherAt_106 rfl ?_
                  refine zx_imul C d_Life_otherAt_108 ?_
                  refine zx_iload C d_Life_otherAt_109 rfl ?_
                  refine zx_iadd C d_Life_otherAt_111 ?_
                  exact zx_iret C hq d_Life_otherAt_112 (⟨_, rfl, by rw [ev, show (10 : Int32) = nI 10 from rfl, pk_mul, nI_add], I5, L5, g5, RL4, rfl, hm5⟩)
      refine zx_iload C d_Life_otherAt_14 rfl ?_
      refine zx_aload C d_Life_otherAt_16 rfl ?_
      refine zx_get C f_Life_9_4 d_Life_otherAt_17 13 zcw_13 rfl ?_
      refine zr_di (zr_V C l_Life_128 d_Life_otherAt_20 (As := []) rfl rfl (Nat.le_of_ble_eq_true rfl) (c_Twn_minuteCount G _ _ _ _ _ _ _ _ _ _) 10 zcw_10 rfl ⟨Nat.le_of_ble_eq_true rfl, Nat.le_of_ble_eq_true rfl, Nat.le_of_ble_eq_true rfl, Nat.le_of_ble_eq_true rfl⟩) ?_
      refine zx_ic_ge C d_Life_otherAt_23 (fun h23 => ?_) (fun h23 => ?_)
      · exact absurd h23 (by rw [hm3.2.2.2.2.2.2.1.2.2.1]; exact nI_ge (by omega) (by omega))
      · refine zx_iload C d_Life_otherAt_26 rfl ?_
        refine zx_ic C d_Life_otherAt_28 ?_
        refine zx_ic_ge C d_Life_otherAt_30 (fun h30 => ?_) (fun h30 => ?_)
        · exact absurd h30 (nI_ge (b := 60) (by omega) (by omega))
        · refine zx_ic C d_Life_otherAt_33 ?_
          refine zx_istore C d_Life_otherAt_34 (by decide) (lv1 := [(5, _), (0, _), (1, _), (2, _), (3, _), (4, _)]) rfl ?_
          exact zx_lv [0, 1, 2, 3, 4, 5] rfl (lpd (aT S).2.1 0 I3 L3 g3 (by omega) hm3 hp3 hn)
  refine zx_pop C rfl d_Life_otherAt_8 ?_
  refine zx_ic C d_Life_otherAt_9 ?_
  refine zx_istore C d_Life_otherAt_10 (by decide) (lv1 := [(3, _), (0, _), (1, _), (2, _)]) rfl ?_
  refine zx_ic C d_Life_otherAt_11 ?_
  refine zx_istore C d_Life_otherAt_12 (by decide) (lv1 := [(4, _), (3, _), (0, _), (1, _), (2, _)]) rfl ?_
  exact zx_lv [0, 1, 2, 3, 4] rfl (lp (aT S).2.2.1 0 I4 L4 g4 (by omega) hm4 hp4 ⟨rfl, fun c hc => absurd hc (Nat.not_lt_zero c)⟩)
set_option maxHeartbeats 600000 in
set_option maxRecDepth 20000 in
theorem c_Tue_others (G : ZG) (ad : Nat → Nat) (I : Nat → Int32) (L : Nat → Int64) (g : Option Nat) (QH QD : Nat → Option Nat) (RI : Nat → Nat → Int32) (RL : Nat → Nat → Int64) (X : va_W) (S : ZA) (hA dA : Nat → Nat) (hm : crp S hA dA I L QH QD RI RL) (set k sh l i n : Int32) : ZM G y_Tue_others b_Tue_others 8 (some .int) r_Tue_others [.ref (ad 0), .int set, .int k, .int sh, .int l, .int i, .int n] (cw G ad I L g none QH QD RI RL ++ pw hA dA (aT S) X) (cpi G ad X (ap_others S set k sh l i n).1 (ap_others S set k sh l i n).2) := by
  refine ZM.of "SameTuesday" "others" rfl rfl (by decide) (Nat.le_of_ble_eq_true rfl) (fun Y C hq => ?_)
  change ZV G Y 0 0 0 [(0, .ref (ad 0)), (1, .int set), (2, .int k), (3, .int sh), (4, .int l), (5, .int i), (6, .int n)] [] (cw G ad I L g none QH QD RI RL ++ pw hA dA (aT S) X)
  refine zx_aload C d_Tue_others_0 rfl ?_
  refine zx_ic C d_Tue_others_1 ?_
  refine zx_put C p_Tue_55_11 d_Tue_others_2 0 zcw_0 zb_fit_i (Nat.le_of_ble_eq_true rfl) zcs_0_6 ?_
  refine zx_iload C d_Tue_others_5 rfl ?_
  refine zx_ic C d_Tue_others_6 ?_
  refine zx_ic_ge C d_Tue_others_7 (fun h7 => ?_) (fun h7 => ?_)
  · have h7 : ¬ k < -1 := Int32.not_lt.mpr h7
    refine zx_aload C d_Tue_others_12 rfl ?_
    refine zx_iload C d_Tue_others_13 rfl ?_
    refine zx_iload C d_Tue_others_14 rfl ?_
    refine zx_iload C d_Tue_others_16 rfl ?_
    refine zx_iload C d_Tue_others_18 rfl ?_
    refine zx_iload C d_Tue_others_20 rfl ?_
    refine zr_di (zr_S C l_Tue_157 d_Tue_others_21 (As := [_]) rfl rfl (Nat.le_of_ble_eq_true rfl) (c_Tue_isSet G _ _) ⟨Nat.le_of_ble_eq_true rfl, Nat.le_of_ble_eq_true rfl, Nat.le_of_ble_eq_true rfl, Nat.le_of_ble_eq_true rfl⟩) ?_
    refine zr_i (zr_V C l_Tue_143 d_Tue_others_24 (As := [_, _, _, _, _]) rfl rfl (Nat.le_of_ble_eq_true rfl) (c_Tue_takeRow G _ _ _ _ _ _ _ _ _ (sf S 0) hA dA (crp_f hm 0) _ _ _ _ (¬ set < 0 ∧ ¬ 63 < set)) 0 zcw_0 rfl ⟨Nat.le_of_ble_eq_true rfl, Nat.le_of_ble_eq_true rfl, Nat.le_of_ble_eq_true rfl, Nat.le_of_ble_eq_true rfl⟩) (fun q w1 hpq => ?_)
    obtain ⟨rfl, I2, RI2, rfl, hm2, hp2⟩ := hpq
    refine zx_istore C d_Tue_others_27 (by decide) (lv1 := [(7, _), (0, _), (1, _), (2, _), (3, _), (4, _), (5, _), (6, _)]) rfl ?_
    refine zx_iload C d_Tue_others_29 rfl ?_
    refine zx_if_eq C d_Tue_others_31 (fun hz => ?_) (fun hz => ?_)
    · obtain ⟨hz2, hz1, hfit⟩ := trow_z (S := S) hz
      have hm3 : crp (sf S 0) hA dA I2 L QH QD RI2 RL := by have y := hm2; rw [show (trow (sf S 0) sh l i n (¬ set < 0 ∧ ¬ 63 < set)).2 = 0 from hz2] at y; exact y
      have hp3 : cprow (aT S) (apR S sh i n) I2 RI2 := hp2 hz
      have h1 : 1 ≤ (aT S).2.2.1 := hm.1.2.2.1 (by omega)
      obtain ⟨x, hx, rfl⟩ := ix_le (n := 63) (by decide) hfit.1 hfit.2
      have ev : ap_others S (nI x) k sh l i n = (if k = -1 then nI (olpM (aT S) (apR S sh i n) x k (aT S).2.2.1).1 else (olpM (aT S) (apR S sh i n) x k (aT S).2.2.1).2, sf S 0) := by rw [ap_others, if_neg h7, if_neg (fun y => y hz), nI_cl (by omega)]
      refine zx_aload C d_Tue_others_39 rfl ?_
      refine zx_get C f_Tue_30_11 d_Tue_others_40 0 zcw_0 rfl ?_
      refine zx_iload C d_Tue_others_43 rfl ?_
      refine zx_iload C d_Tue_others_44 rfl ?_
      refine zr_i (zr_V C l_Tue_202 d_Tue_others_45 (As := [_, _]) rfl rfl (Nat.le_of_ble_eq_true rfl) (c_Life_otherAt G ad I2 L g QH QD RI2 RL X (sf S 0) hA dA hm3 (apR S sh i n) hp3 h1 x (by omega) k) 13 zcw_13 rfl ⟨Nat.le_of_ble_eq_true rfl, Nat.le_of_ble_eq_true rfl, Nat.le_of_ble_eq_true rfl, Nat.le_of_ble_eq_true rfl⟩) (fun r w2 hfa => ?_)
      obtain ⟨rfl, I4, L4, g4, RL4, rfl, hm4⟩ := hfa
      exact zx_iret C hq d_Tue_others_48 (by rw [ev]; first | exact cpi_i rfl hm2 | exact cpi_i rfl hm4)
    · have ev : ap_others S set k sh l i n = ((trow S sh l i n (¬ set < 0 ∧ ¬ 63 < set)).1, sf S (trow S sh l i n (¬ set < 0 ∧ ¬ 63 < set)).2) := by rw [ap_others, if_neg h7]; exact if_pos hz
      refine zx_iload C d_Tue_others_34 rfl ?_
      refine zx_goto C d_Tue_others_36 ?_
      exact zx_iret C hq d_Tue_others_48 (by rw [ev]; first | exact cpi_i rfl hm2 | exact cpi_i rfl hm4)
  · have ev : ap_others S set k sh l i n = (-1, sf S 0) := if_pos (Int32.not_le.mp h7)
    have hm2 := crp_f hm 0
    refine zx_ic C d_Tue_others_10 ?_
    exact zx_iret C hq d_Tue_others_11 (by rw [ev]; first | exact cpi_i rfl hm2 | exact cpi_i rfl hm4)
