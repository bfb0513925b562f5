theorem crp_any {S : ZA} {hA dA : Nat → Nat} {I I2 : Nat → Int32} {L L2 : Nat → Int64} {QH QD : Nat → Option Nat} {RI RI2 : Nat → Nat → Int32} {RL RL2 : Nat → Nat → Int64} (h : crp S hA dA I L QH QD RI RL) (hI : ∀ b, b ≤ 11 ∨ 17 ≤ b → I2 b = I b) (hR : ∀ k, k < 4 ∨ k = 6 → RI2 k = RI k) (hL : L2 0 = L 0) (hRL : RL2 1 = RL 1) : crp S hA dA I2 L2 QH QD RI2 RL2 := by
  obtain ⟨a, b1, b2, b3, b4, b5, b6, b7⟩ := h
  refine ⟨a, (hI 0 (by omega)).trans b1, (hI 19 (by omega)).trans b2, fun k hk => ?_, (hI 18 (by omega)).trans b4, fun j hj => ?_, ⟨(hI 9 (by omega)).trans b6.1, (hI 10 (by omega)).trans b6.2.1, (hI 11 (by omega)).trans b6.2.2.1, fun m hm => by rw [hL]; exact b6.2.2.2.1 m hm, b6.2.2.2.2⟩, ?_⟩
  · obtain ⟨z1, z2, z3⟩ := b3 k hk
    exact ⟨(hI _ (by omega)).trans z1, (hI _ (by omega)).trans z2, by rw [hR k (Or.inl hk)]; exact z3⟩
  · rw [hR 6 (Or.inr rfl)]; exact b5 j hj
  · rw [crc, hI 17 (by omega), hRL]; exact b7
def cprow (T : ZT) (P : ZP) (I : Nat → Int32) (RI : Nat → Nat → Int32) : Prop := P.1 ≤ 20 ∧ I 12 = nI P.1 ∧ ∀ k, k < P.1 → RI 4 k = nI (P.2.1 k) ∧ P.2.1 k ≤ 59 ∧ RI 5 k = nI (P.2.2 k) ∧ P.2.2 k < T.2.1
def rpost (G : ZG) (ad : Nat → Nat) (X : va_W) (L : Nat → Int64) (g : Option Nat) (QH QD : Nat → Option Nat) (RL : Nat → Nat → Int64) (hA dA : Nat → Nat) (S : ZA) (r0 : Int32) (P : ZP) : Option Value → va_W → Prop := zpi (fun r w => r = r0 ∧ ∃ (I : Nat → Int32) (RI : Nat → Nat → Int32), w = cw G ad I L g none QH QD RI RL ++ pw hA dA (aT S) X ∧ crp S hA dA I L QH QD RI RL ∧ (r0 = 0 → cprow (aT S) P I RI))
theorem rpost_i {G : ZG} {ad : Nat → Nat} {X : va_W} {L : Nat → Int64} {g : Option Nat} {QH QD : Nat → Option Nat} {RL : Nat → Nat → Int64} {hA dA : Nat → Nat} {S : ZA} {r0 : Int32} {P : ZP} {r : Int32} {I : Nat → Int32} {RI : Nat → Nat → Int32} (h : r = r0) (hm : crp S hA dA I L QH QD RI RL) (hp : r0 = 0 → cprow (aT S) P I RI) : rpost G ad X L g QH QD RL hA dA S r0 P (some (.int r)) (cw G ad I L g none QH QD RI RL ++ pw hA dA (aT S) X) := ⟨r, rfl, h, I, RI, rfl, hm, hp⟩
theorem ur45 (RI : Nat → Nat → Int32) (r4 r5 : Nat → Int32) (x y : Int32) (p : Nat) : ur (ur (ur (ur RI 4 r4) 5 r5) 4 (upd (ur (ur RI 4 r4) 5 r5 4) p x)) 5 (upd (ur (ur (ur RI 4 r4) 5 r5) 4 (upd (ur (ur RI 4 r4) 5 r5 4) p x) 5) p y) = ur (ur RI 4 (upd r4 p x)) 5 (upd r5 p y) := by
  funext j
  by_cases e5 : j = 5
  · subst e5; rfl
  · by_cases e4 : j = 4
    · subst e4; rfl
    · exact (if_neg e5).trans ((if_neg e4).trans ((if_neg e5).trans ((if_neg e4).trans ((if_neg e5).trans (if_neg e4)).symm)))
set_option maxHeartbeats 600000 in
set_option maxRecDepth 20000 in
theorem c_Life_readPairs (G : ZG) (ad : Nat → Nat) (I : Nat → Int32) (L : Nat → Int64) (g : Option Nat) (QH QD : Nat → Option Nat) (RI : Nat → Nat → Int32) (RL : Nat → Nat → Int64) (X : va_W) (S : ZA) (hA dA : Nat → Nat) (hm : crp S hA dA I L QH QD RI RL) (k : Nat) (hk : k < 4) (ii nn : Nat) (hn : nn ≤ 20) (hs : ii + 2 * nn ≤ asz S k) : ZM G y_Life_readPairs b_Life_readPairs 7 (some .int) r_Life_readPairs [.ref (ad 13), .ref (ad (2 + k)), .int (nI ii), .int (nI nn)] (cw G ad I L g none QH QD RI RL ++ pw hA dA (aT S) X) (rpost G ad X L g QH QD RL hA dA S (pchk S k ii nn 0) (rowP S k ii nn)) := by
  refine ZM.of "SameTuesday$Life" "readPairs" rfl rfl (by decide) (Nat.le_of_ble_eq_true rfl) (fun Y C hq => ?_)
  change ZV G Y 0 0 0 [(0, .ref (ad 13)), (1, .ref (ad (2 + k))), (2, .int (nI ii)), (3, .int (nI nn))] [] (cw G ad I L g none QH QD RI RL ++ pw hA dA (aT S) X)
  obtain ⟨e1, e2, e3⟩ := hm.2.2.2.1 k hk
  have hsz := (hm.1.1 k hk).2.1
  have h5 := hm.1.2.1.2.1
  have lp : ∀ c p r4 r5, p + c = nn → pchk S k ii c p = pchk S k ii nn 0 → (∀ q, q < p → r4 q = nI ((rowP S k ii nn).2.1 q) ∧ (rowP S k ii nn).2.1 q ≤ 59 ∧ r5 q = nI ((rowP S k ii nn).2.2 q) ∧ (rowP S k ii nn).2.2 q < (aT S).2.1) → ZV G Y 0 0 8 [(0, .ref (ad 13)), (1, .ref (ad (2 + k))), (2, .int (nI ii)), (3, .int (nI nn)), (4, .int (nI p))] [] (cw G ad (upd I 12 (nI p)) L g none QH QD (ur (ur RI 4 r4) 5 r5) RL ++ pw hA dA (aT S) X) := by
    intro c
    induction c with
    | zero =>
      intro p r4 r5 hc hck hi
      obtain rfl : p = nn := by omega
      refine zx_iload C d_Life_readPairs_8 rfl ?_
      refine zx_iload C d_Life_readPairs_10 rfl ?_
      refine zx_ic_ge C d_Life_readPairs_11 (fun h11 => ?_) (fun h11 => ?_)
      · refine zx_ic C d_Life_readPairs_104 ?_
        exact zx_iret C hq d_Life_readPairs_105 (rpost_i hck (crp_any hm (fun b hb => upd_far (by omega)) (fun q hq => (if_neg (by omega)).trans (if_neg (by omega))) rfl rfl) (fun _ => ⟨by exact hn, rfl, fun q hq => hi q hq⟩))
      · exact absurd (Int32.le_refl _) h11
    | succ c ih =>
      intro p r4 r5 hc hck hi
      rw [pchk] at hck
      have fr : (ur (ur RI 4 r4) 5 r5) k = RI k := (if_neg (by omega)).trans (if_neg (by omega))
      have f1 := e3 (ii + 2 * p) (by omega)
      have f2 := e3 (ii + 2 * p + 1) (by omega)
      refine zx_iload C d_Life_readPairs_8 rfl ?_
      refine zx_iload C d_Life_readPairs_10 rfl ?_
      refine zx_ic_ge C d_Life_readPairs_11 (fun h11 => ?_) (fun h11 => ?_)
      · exact absurd h11 (nI_ge (by omega) (by omega))
      · refine zx_iload C d_Life_readPairs_14 rfl ?_
        refine zx_ic C d_Life_readPairs_16 ?_
        refine zx_ic_ge C d_Life_readPairs_18 (fun h18 => ?_) (fun h18 => ?_)
        · exact absurd h18 (nI_ge (b := 20) (by omega) (by omega))
        · refine zx_aload C d_Life_readPairs_21 rfl ?_
          refine zx_iload C d_Life_readPairs_22 rfl ?_
          refine zx_ic C d_Life_readPairs_23 ?_
          refine zx_iload C d_Life_readPairs_24 rfl ?_
          refine zx_imul C d_Life_readPairs_26 ?_
          refine zx_iadd C d_Life_readPairs_27 ?_
          refine zx_eq rfl (st1 := [.int (nI (ii + 2 * p)), .ref (ad (2 + k))]) (by rw [show (2 : Int32) = nI 2 from rfl, pk_mul, nI_add]) rfl ?_
          refine zr_di (zr_V C l_Life_53 d_Life_readPairs_28 (As := [_]) rfl rfl (Nat.le_of_ble_eq_true rfl) (c_Sht_cellAt G _ _ _ _ _ _ _ _ _ _ k hk (ii + 2 * p) (asz S k) (by exact (upd_far (by omega)).trans e2) (by omega) hsz) (2 + k) (zcw_sh hk) rfl ⟨Nat.le_of_ble_eq_true rfl, Nat.le_of_ble_eq_true rfl, Nat.le_of_ble_eq_true rfl, Nat.le_of_ble_eq_true rfl⟩) ?_
          rw [fr, f1]
          refine zx_istore C d_Life_readPairs_31 (by decide) (lv1 := [(5, _), (0, _), (1, _), (2, _), (3, _), (4, _)]) rfl ?_
          refine zx_aload C d_Life_readPairs_33 rfl ?_
          refine zx_iload C d_Life_readPairs_34 rfl ?_
          refine zx_ic C d_Life_readPairs_35 ?_
          refine zx_iload C d_Life_readPairs_36 rfl ?_
          refine zx_imul C d_Life_readPairs_38 ?_
          refine zx_iadd C d_Life_readPairs_39 ?_
          refine zx_ic C d_Life_readPairs_40 ?_
          refine zx_iadd C d_Life_readPairs_41 ?_
          refine zx_eq rfl (st1 := [.int (nI (ii + 2 * p + 1)), .ref (ad (2 + k))]) (by rw [show (2 : Int32) = nI 2 from rfl, pk_mul, nI_add, show (1 : Int32) = nI 1 from rfl, nI_add]) rfl ?_
          refine zr_di (zr_V C l_Life_53 d_Life_readPairs_42 (As := [_]) rfl rfl (Nat.le_of_ble_eq_true rfl) (c_Sht_cellAt G _ _ _ _ _ _ _ _ _ _ k hk (ii + 2 * p + 1) (asz S k) (by exact (upd_far (by omega)).trans e2) (by omega) hsz) (2 + k) (zcw_sh hk) rfl ⟨Nat.le_of_ble_eq_true rfl, Nat.le_of_ble_eq_true rfl, Nat.le_of_ble_eq_true rfl, Nat.le_of_ble_eq_true rfl⟩) ?_
          rw [fr, f2]
          refine zx_istore C d_Life_readPairs_45 (by decide) (lv1 := [(6, _), (5, _), (0, _), (1, _), (2, _), (3, _), (4, _)]) rfl ?_
          refine zx_iload C d_Life_readPairs_47 rfl ?_
          refine zr_di (zr_N C l_Life_59 d_Life_readPairs_49 (As := [_]) rfl rfl (Nat.le_of_ble_eq_true rfl) (c_Tue_isMinute G _ _) ⟨Nat.le_of_ble_eq_true rfl, Nat.le_of_ble_eq_true rfl, Nat.le_of_ble_eq_true rfl, Nat.le_of_ble_eq_true rfl⟩) ?_
          refine zx_ifB_ne C d_Life_readPairs_52 (fun h52 => ?_) (fun h52 => ?_)
          · rw [if_neg (nor_of h52)] at hck
            refine zx_aload C d_Life_readPairs_58 rfl ?_
            refine zx_get C f_Life_9_4 d_Life_readPairs_59 13 zcw_13 rfl ?_
            refine zx_iload C d_Life_readPairs_62 rfl ?_
            refine zr_dq (zr_V C l_Life_63 d_Life_readPairs_64 (As := [_]) rfl rfl (Nat.le_of_ble_eq_true rfl) (c_Twn_deedOf G _ _ _ _ _ _ _ _ _ _ (aT S).2.1 (by exact (upd_far (by decide)).trans hm.2.2.2.2.2.2.1.2.1) h5 _) 10 zcw_10 rfl ⟨Nat.le_of_ble_eq_true rfl, Nat.le_of_ble_eq_true rfl, Nat.le_of_ble_eq_true rfl, Nat.le_of_ble_eq_true rfl⟩) ?_
            refine zx_ifnonnull C d_Life_readPairs_67 (fun a67 h67 => ?_) (fun h67 => ?_)
            · obtain ⟨j, hj, ej, _, nj⟩ := qof_s (by omega) h67
              rw [if_neg nj] at hck
              obtain ⟨m, hm9, em⟩ := ix_le (n := 59) (by decide) h52.1 h52.2
              refine zx_aload C d_Life_readPairs_72 rfl ?_
              refine zx_get C f_Life_15_4 d_Life_readPairs_73 13 zcw_13 rfl ?_
              refine zx_iload C d_Life_readPairs_76 rfl ?_
              refine zx_iload C d_Life_readPairs_78 rfl ?_
              refine zx_iast C d_Life_readPairs_80 14 zcw_14 p rfl (by omega) (by decide) zca_14 ?_
              refine zx_aload C d_Life_readPairs_81 rfl ?_
              refine zx_get C f_Life_19_4 d_Life_readPairs_82 13 zcw_13 rfl ?_
              refine zx_iload C d_Life_readPairs_85 rfl ?_
              refine zx_iload C d_Life_readPairs_87 rfl ?_
              refine zx_iast C d_Life_readPairs_89 15 zcw_15 p rfl (by omega) (by decide) zca_15 ?_
              refine zx_aload C d_Life_readPairs_90 rfl ?_
              refine zx_iload C d_Life_readPairs_91 rfl ?_
              refine zx_ic C d_Life_readPairs_93 ?_
              refine zx_iadd C d_Life_readPairs_94 ?_
              refine zx_put C p_Life_22_4 d_Life_readPairs_95 13 zcw_13 zb_fit_i (Nat.le_of_ble_eq_true rfl) zcs_13_3 ?_
              rw [show ur (ur (ur (ur RI 4 r4) 5 r5) 4 (upd (ur (ur RI 4 r4) 5 r5 4) p (ace S k (ii + 2 * p)))) 5 (upd (ur (ur (ur RI 4 r4) 5 r5) 4 (upd (ur (ur RI 4 r4) 5 r5 4) p (ace S k (ii + 2 * p))) 5) p (ace S k (ii + 2 * p + 1))) = ur (ur RI 4 (upd r4 p (ace S k (ii + 2 * p)))) 5 (upd r5 p (ace S k (ii + 2 * p + 1))) from ur45 RI r4 r5 _ _ p, upd_upd, show (1 : Int32) = nI 1 from rfl, nI_add]
              refine zx_iinc C d_Life_readPairs_98 (by decide) rfl (lv1 := [(4, _), (6, _), (5, _), (0, _), (1, _), (2, _), (3, _)]) rfl ?_
              refine zx_goto C d_Life_readPairs_101 ?_
              rw [show (1 : Int32) = nI 1 from rfl, nI_add]
              refine zx_lv [0, 1, 2, 3, 4] rfl (ih (p + 1) _ _ (by omega) hck (fun q hq => ?_))
              by_cases e : q = p
              · subst e
                rw [upd_eq, upd_eq]
                exact ⟨by show _ = nI (ace S k (ii + 2 * q)).toNatClampNeg; rw [em, nI_cl (by omega)], by show (ace S k (ii + 2 * q)).toNatClampNeg ≤ 59; rw [em, nI_cl (by omega)]; exact hm9, by show _ = nI (ace S k (ii + 2 * q + 1)).toNatClampNeg; rw [ej, nI_cl (by omega)], by show (ace S k (ii + 2 * q + 1)).toNatClampNeg < _; rw [ej, nI_cl (by omega)]; exact hj⟩
              · rw [upd_ne _ _ e, upd_ne _ _ e]
                exact hi q (by omega)
            · rw [if_pos (qof_n hm.2.2.2.2.2.2.1.2.2.2.2.2 (by omega) h67)] at hck
              refine zx_ic C d_Life_readPairs_70 ?_
              exact zx_iret C hq d_Life_readPairs_71 (rpost_i hck (crp_any hm (fun b hb => upd_far (by omega)) (fun q hq => (if_neg (by omega)).trans (if_neg (by omega))) rfl rfl) (fun z => absurd (hck.trans z) (by decide)))
          · rw [if_pos (nand_or h52)] at hck
            refine zx_ic C d_Life_readPairs_55 ?_
            exact zx_iret C hq d_Life_readPairs_57 (rpost_i hck (crp_any hm (fun b hb => upd_far (by omega)) (fun q hq => (if_neg (by omega)).trans (if_neg (by omega))) rfl rfl) (fun z => absurd (hck.trans z) (by decide)))
  refine zx_aload C d_Life_readPairs_0 rfl ?_
  refine zx_ic C d_Life_readPairs_1 ?_
  refine zx_put C p_Life_22_4 d_Life_readPairs_2 13 zcw_13 zb_fit_i (Nat.le_of_ble_eq_true rfl) zcs_13_3 ?_
  refine zx_ic C d_Life_readPairs_5 ?_
  refine zx_istore C d_Life_readPairs_6 (by decide) (lv1 := [(4, _), (0, _), (1, _), (2, _), (3, _)]) rfl ?_
  have k1 := lp nn 0 (RI 4) (RI 5) (by omega) rfl (fun q hq => absurd hq (Nat.not_lt_zero q))
  rw [show ur (ur RI 4 (RI 4)) 5 (RI 5) = RI from by rw [ur_self]; exact ur_self RI 5] at k1
  exact zx_lv [0, 1, 2, 3, 4] rfl k1
theorem rf_row {S : ZA} {I : Nat → Int32} {j x : Nat} {l i : Int32} {fits : Prop} [Decidable fits] (hj : j < 4) (u1 : I (1 + j) = aln S j) (nj : ¬ (nI j < 0 ∨ 3 < nI j)) (hn : ¬ nI x < 0 ∧ ¬ 20 < nI x) (hx : x ≤ 20) (hf : fits) (h : ¬ rfv (I (1 + j)) (asz S j) l i (nI (2 * x)) = 0) : ∃ v, trow S (nI j) l i (nI x) fits = (rfv (I (1 + j)) (asz S j) l i (nI (2 * x)), v) ∧ ((v = 0 ∧ rfI I (I (1 + j)) (asz S j) l i (nI (2 * x)) = I) ∨ rfI I (I (1 + j)) (asz S j) l i (nI (2 * x)) = upd I 0 v) := by
  rw [u1] at h ⊢
  by_cases hl : l < 0 ∨ 2 < l
  · exact ⟨0, by rw [trow, if_neg nj, if_pos (Or.inl (Or.inl hl)), rfv, if_pos hl], Or.inl ⟨rfl, if_pos hl⟩⟩
  · have ha : ¬ ag (aln S j) (asz S j) l i (nI (2 * x)) = 0 := fun z => h (by rw [rfv, if_neg hl, if_pos z])
    refine ⟨ag (aln S j) (asz S j) l i (nI (2 * x)), ?_, Or.inr (by rw [rfI, if_neg hl, if_neg ha])⟩
    rw [trow, if_neg nj, if_neg (nor_of ⟨nor_of ⟨hl, nor_of hn⟩, fun z => z hf⟩), nI_cl (by omega), nI_cl (by omega), rfv, if_neg hl, if_neg ha]
    exact if_pos ha
theorem row_ok {S : ZA} {j x : Nat} {l i : Int32} {fits : Prop} [Decidable fits] (hj : j < 4) (nj : ¬ (nI j < 0 ∨ 3 < nI j)) (hn : ¬ nI x < 0 ∧ ¬ 20 < nI x) (hx : x ≤ 20) (hf : fits) (hl : ¬ l < 0 ∧ ¬ 2 < l) (ha : ag (aln S j) (asz S j) l i (nI (2 * x)) = 0) : trow S (nI j) l i (nI x) fits = if (aT S).1 = 0 then (-3, 0) else (pchk (sf S 0) j i.toNatClampNeg x 0, 0) := by
  rw [trow, if_neg nj, if_neg (nor_of ⟨nor_of ⟨nor_of hl, nor_of hn⟩, fun z => z hf⟩), nI_cl (by omega), nI_cl (by omega)]
  exact if_neg (fun z => z ha)
set_option maxHeartbeats 600000 in
set_option maxRecDepth 20000 in
theorem c_Tue_takeRow (G : ZG) (ad : Nat → Nat) (I : Nat → Int32) (L : Nat → Int64) (g : Option Nat) (QH QD : Nat → Option Nat) (RI : Nat → Nat → Int32) (RL : Nat → Nat → Int64) (X : va_W) (S : ZA) (hA dA : Nat → Nat) (hm : crp S hA dA I L QH QD RI RL) (sh l i n : Int32) (fits : Prop) [Decidable fits] : ZM G y_Tue_takeRow b_Tue_takeRow 8 (some .int) r_Tue_takeRow [.ref (ad 0), .int sh, .int l, .int i, .int n, .int (zB fits)] (cw G ad I L g none QH QD RI RL ++ pw hA dA (aT S) X) (rpost G ad X L g QH QD RL hA dA (sf S (trow S sh l i n fits).2) (trow S sh l i n fits).1 (apR S sh i n)) := by
  refine ZM.of "SameTuesday" "takeRow" rfl rfl (by decide) (Nat.le_of_ble_eq_true rfl) (fun Y C hq => ?_)
  change ZV G Y 0 0 0 [(0, .ref (ad 0)), (1, .int sh), (2, .int l), (3, .int i), (4, .int n), (5, .int (zB fits))] [] (cw G ad I L g none QH QD RI RL ++ pw hA dA (aT S) X)
  refine zx_aload C d_Tue_takeRow_0 rfl ?_
  refine zx_ic C d_Tue_takeRow_1 ?_
  refine zx_put C p_Tue_55_11 d_Tue_takeRow_2 0 zcw_0 zb_fit_i (Nat.le_of_ble_eq_true rfl) zcs_0_6 ?_
  refine zx_aload C d_Tue_takeRow_5 rfl ?_
  refine zx_iload C d_Tue_takeRow_6 rfl ?_
  refine zr_dq (zr_V C l_Tue_59 d_Tue_takeRow_7 (As := [_]) rfl rfl (Nat.le_of_ble_eq_true rfl) (c_Tue_sheetOf G _ _ _ _ _ _ _ _ _ _ _) 0 zcw_0 rfl ⟨Nat.le_of_ble_eq_true rfl, Nat.le_of_ble_eq_true rfl, Nat.le_of_ble_eq_true rfl, Nat.le_of_ble_eq_true rfl⟩) ?_
  refine zx_astoreq C d_Tue_takeRow_10 (by decide) (lv1 := [(6, _), (0, _), (1, _), (2, _), (3, _), (4, _), (5, _)]) rfl ?_
  refine zx_aloadq C d_Tue_takeRow_12 rfl ?_
  refine zx_ifnonnull C d_Tue_takeRow_14 (fun a14 h14 => ?_) (fun h14 => ?_)
  · obtain ⟨j, hj, rfl, ej, nj⟩ := shq_some h14
    rw [ej]
    obtain ⟨p1j, p2j, p3j⟩ := hm.2.2.2.1 j hj
    have qj := hm.1.1 j hj
    have u1 : upd I 0 0 (1 + j) = aln S j := (upd_far (by omega)).trans p1j
    refine zx_iload C d_Tue_takeRow_19 rfl ?_
    refine zx_if_lt C d_Tue_takeRow_21 (fun h21 => ?_) (fun h21 => ?_)
    · have ev : trow S (nI j) l i n fits = (-2, 0) := by rw [trow, if_neg nj, if_pos (Or.inl (Or.inr (Or.inl h21)))]
      have hm2 := crp_f hm 0
      refine zx_ic C d_Tue_takeRow_36 ?_
      exact zx_iret C hq d_Tue_takeRow_38 (by rw [ev]; exact rpost_i rfl hm2 (fun z => absurd z (by first | decide | exact hz)))
    · refine zx_iload C d_Tue_takeRow_24 rfl ?_
      refine zx_ic C d_Tue_takeRow_26 ?_
      refine zx_ic_gt C d_Tue_takeRow_28 (fun h28 => ?_) (fun h28 => ?_)
      · have ev : trow S (nI j) l i n fits = (-2, 0) := by rw [trow, if_neg nj, if_pos (Or.inl (Or.inr (Or.inr h28)))]
        have hm2 := crp_f hm 0
        refine zx_ic C d_Tue_takeRow_36 ?_
        exact zx_iret C hq d_Tue_takeRow_38 (by rw [ev]; exact rpost_i rfl hm2 (fun z => absurd z (by first | decide | exact hz)))
      · refine zx_iload C d_Tue_takeRow_31 rfl ?_
        refine zx_if_ne C d_Tue_takeRow_33 (fun h33 => ?_) (fun h33 => ?_)
        · have hf : fits := Classical.byContradiction fun z => h33 (zB_e0.mpr z)
          obtain ⟨x, hx, rfl⟩ := ix_le (n := 20) (by decide) h21 h28
          refine zx_aload C d_Tue_takeRow_39 rfl ?_
          refine zx_aload C d_Tue_takeRow_40 rfl ?_
          refine zx_iload C d_Tue_takeRow_42 rfl ?_
          refine zx_iload C d_Tue_takeRow_43 rfl ?_
          refine zx_ic C d_Tue_takeRow_44 ?_
          refine zx_iload C d_Tue_takeRow_45 rfl ?_
          refine zx_imul C d_Tue_takeRow_47 ?_
          refine zx_eq rfl (st1 := [.int (nI (2 * x)), .int i, .int l, .ref (ad (2 + j)), .ref (ad 0)]) (by rw [show (2 : Int32) = nI 2 from rfl, pk_mul]) rfl ?_
          refine zr_di (zr_V C l_Tue_63 d_Tue_takeRow_48 (As := [_, _, _, _]) rfl rfl (Nat.le_of_ble_eq_true rfl) (c_Tue_refusalOfCells G _ _ _ _ _ _ _ _ _ _ j hj (asz S j) (by exact (upd_far (by omega)).trans p2j) _ _ _) 0 zcw_0 rfl ⟨Nat.le_of_ble_eq_true rfl, Nat.le_of_ble_eq_true rfl, Nat.le_of_ble_eq_true rfl, Nat.le_of_ble_eq_true rfl⟩) ?_
          refine zx_istore C d_Tue_takeRow_51 (by decide) (lv1 := [(7, _), (6, _), (0, _), (1, _), (2, _), (3, _), (4, _), (5, _)]) rfl ?_
          refine zx_iload C d_Tue_takeRow_53 rfl ?_
          refine zx_if_eq C d_Tue_takeRow_55 (fun h55 => ?_) (fun h55 => ?_)
          · obtain ⟨hl, ha⟩ := rf_zero h55
            rw [(rf_f (I := upd I 0 0) hl ha).2]
            rw [u1] at ha
            obtain ⟨_, _, ii, rfl, hii⟩ := ag_fine (m := 2 * x) qj.2.1 (by omega) ha
            have evz := row_ok (S := S) (fits := fits) hj nj ⟨h21, h28⟩ hx hf hl ha
            rw [nI_cl (by omega)] at evz
            refine zx_aload C d_Tue_takeRow_61 rfl ?_
            refine zx_get C f_Tue_21_11 d_Tue_takeRow_62 0 zcw_0 rfl ?_
            refine zr_di (zr_V C l_Tue_125 d_Tue_takeRow_65 (As := []) rfl rfl (Nat.le_of_ble_eq_true rfl) (c_Twn_isTold G _ _ _ _ _ _ _ _ _ _ (aT S).1 (by exact hm.2.2.2.2.2.2.1.1) hm.1.2.1.1) 10 zcw_10 rfl ⟨Nat.le_of_ble_eq_true rfl, Nat.le_of_ble_eq_true rfl, Nat.le_of_ble_eq_true rfl, Nat.le_of_ble_eq_true rfl⟩) ?_
            refine zx_ifB_eq C d_Tue_takeRow_68 (fun h68 => ?_) (fun h68 => ?_)
            · rw [if_pos (by first | exact h68 | exact Classical.byContradiction h68)] at evz
              have ev := evz
              have hm2 := crp_f hm 0
              refine zx_ic C d_Tue_takeRow_86 ?_
              exact zx_iret C hq d_Tue_takeRow_88 (by rw [ev]; exact rpost_i rfl hm2 (fun z => absurd z (by first | decide | exact hz)))
            · rw [if_neg h68] at evz
              have ev := evz
              refine zx_aload C d_Tue_takeRow_71 rfl ?_
              refine zx_get C f_Tue_30_11 d_Tue_takeRow_72 0 zcw_0 rfl ?_
              refine zx_aload C d_Tue_takeRow_75 rfl ?_
              refine zx_iload C d_Tue_takeRow_77 rfl ?_
              refine zx_iload C d_Tue_takeRow_78 rfl ?_
              refine zr_i (zr_V C l_Tue_263 d_Tue_takeRow_80 (As := [_, _, _]) rfl rfl (Nat.le_of_ble_eq_true rfl) (c_Life_readPairs G _ _ _ _ _ _ _ _ _ (sf S 0) _ _ (by exact crp_f hm 0) j hj ii x hx (by exact hii)) 13 zcw_13 rfl ⟨Nat.le_of_ble_eq_true rfl, Nat.le_of_ble_eq_true rfl, Nat.le_of_ble_eq_true rfl, Nat.le_of_ble_eq_true rfl⟩) (fun r w1 hpq => ?_)
              obtain ⟨rfl, I2, RI2, rfl, hm2, hp2⟩ := hpq
              refine zx_goto C d_Tue_takeRow_83 ?_
              exact zx_iret C hq d_Tue_takeRow_88 (by rw [ev, apR, nI_cl (by omega), nI_cl (by omega), nI_cl (by omega)]; exact rpost_i rfl hm2 hp2)
          · obtain ⟨v, ev, hv⟩ := rf_row (S := S) (I := upd I 0 0) (l := l) (i := i) hj u1 nj ⟨h21, h28⟩ hx hf h55
            have hz := h55
            have hm2 : crp (sf S v) hA dA (rfI (upd I 0 0) (upd I 0 0 (1 + j)) (asz S j) l i (nI (2 * x))) L QH QD RI RL := by
              rcases hv with ⟨rfl, e⟩ | e
              · rw [e]; exact crp_f hm 0
              · rw [e]; exact crp_0 hm v
            refine zx_iload C d_Tue_takeRow_58 rfl ?_
            exact zx_iret C hq d_Tue_takeRow_60 (by rw [ev]; exact rpost_i rfl hm2 (fun z => absurd z (by first | decide | exact hz)))
        · have ev : trow S (nI j) l i n fits = (-2, 0) := by rw [trow, if_neg nj, if_pos (Or.inr (zB_e0.mp (by first | exact h33 | exact Classical.byContradiction h33)))]
          have hm2 := crp_f hm 0
          refine zx_ic C d_Tue_takeRow_36 ?_
          exact zx_iret C hq d_Tue_takeRow_38 (by rw [ev]; exact rpost_i rfl hm2 (fun z => absurd z (by first | decide | exact hz)))
  · have ev : trow S sh l i n fits = (-1, 0) := if_pos (shq_none h14)
    have hm2 := crp_f hm 0
    refine zx_ic C d_Tue_takeRow_17 ?_
    exact zx_iret C hq d_Tue_takeRow_18 (by rw [ev]; exact rpost_i rfl hm2 (fun z => absurd z (by first | decide | exact hz)))
