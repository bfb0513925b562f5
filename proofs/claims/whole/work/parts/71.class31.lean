theorem crp_tue {S : ZA} {hA dA : Nat → Nat} {I : Nat → Int32} {L : Nat → Int64} {QH QD : Nat → Option Nat} {RI : Nat → Nat → Int32} {RL : Nat → Nat → Int64} (h : crp (sf S 0) hA dA I L QH QD RI RL) {nh nd : Nat} {q : Nat → Nat → Nat} {v : Int32} (hv : v = 0) (ht : tok ((nh, nd, 60, q) : ZT)) {hA1 dA1 : Nat → Nat} {QH1 QD1 : Nat → Option Nat} (hQ : ∀ j, j < nh → QH1 j = some (hA1 j)) (hQD : ∀ j, j < nd → QD1 j = some (dA1 j)) : crp ((0, atr S, aln S, asz S, ace S, ((nh, nd, 60, q) : ZT), 0, ady S) : ZA) hA1 dA1 (upd (upd (upd (upd (upd I 9 (nI nh)) 10 (nI nd)) 11 60) 18 v) 17 1) (vp_updL L 0 (evw ((nh, nd, 60, q) : ZT) nh)) QH1 QD1 RI RL := by
  subst hv
  obtain ⟨⟨a1, a2, a3, a4⟩, b1, b2, b3, b4, b5, b6, b7⟩ := h
  have s1 : srp ((0, atr S, aln S, asz S, ace S, ((nh, nd, 60, q) : ZT), 0, ady S) : ZA) I RI := b3
  refine ⟨⟨a1, ht, fun _ => by show 1 ≤ 60; omega, Nat.zero_le _, fun j hj => absurd hj (Nat.not_lt_zero j)⟩, b1, b2, ?_, rfl, fun j hj => absurd hj (Nat.not_lt_zero j), ⟨rfl, rfl, rfl, fun m hm => evw_bt ht nh (Nat.le_refl _) m hm, hQ, hQD⟩, Or.inr rfl, fun z => absurd z (by show ¬ (1 : Int32) = 0; decide)⟩
  exact srp_u (srp_u (srp_u (srp_u (srp_u s1 (fun k hk => ⟨by omega, by omega⟩)) (fun k hk => ⟨by omega, by omega⟩)) (fun k hk => ⟨by omega, by omega⟩)) (fun k hk => ⟨by omega, by omega⟩)) (fun k hk => ⟨by omega, by omega⟩)
theorem tue_rf {S : ZA} {I : Nat → Int32} {j : Nat} {l i n : Int32} (hj : j < 4) (u1 : I (1 + j) = aln S j) (nj : ¬ (nI j < 0 ∨ 3 < nI j)) (h : ¬ rfv (I (1 + j)) (asz S j) l i n = 0) : ∃ v, ap_tue S (nI j) l i n = (rfv (I (1 + j)) (asz S j) l i n, sf S v) ∧ ((v = 0 ∧ rfI I (I (1 + j)) (asz S j) l i n = I) ∨ rfI I (I (1 + j)) (asz S j) l i n = upd I 0 v) := by
  rw [u1] at h ⊢
  by_cases hl : l < 0 ∨ 2 < l
  · exact ⟨0, by rw [ap_tue, if_neg nj, if_pos hl, rfv, if_pos hl], Or.inl ⟨rfl, if_pos hl⟩⟩
  · have ha : ¬ ag (aln S j) (asz S j) l i n = 0 := fun z => h (by rw [rfv, if_neg hl, if_pos z])
    refine ⟨ag (aln S j) (asz S j) l i n, ?_, Or.inr (by rw [rfI, if_neg hl, if_neg ha])⟩
    rw [ap_tue, if_neg nj, if_neg hl, nI_cl (by omega), if_pos ha, rfv, if_neg hl, if_neg ha]
theorem tue_no {S : ZA} {j ii nn : Nat} {l : Int32} (hj : j < 4) (hii : ii ≤ 60) (hnn : nn ≤ 60) (nj : ¬ (nI j < 0 ∨ 3 < nI j)) (hl : ¬ l < 0 ∧ ¬ 2 < l) (ha : ag (aln S j) (asz S j) l (nI ii) (nI nn) = 0) {p : Nat} (hr : prs (fun x => ace S j (ii + x)) nn = (p, none)) : ap_tue S (nI j) l (nI ii) (nI nn) = (-100 - nI p, sf S 0) := by
  rw [ap_tue, if_neg nj, if_neg (nor_of hl), nI_cl (by omega), if_neg (fun z => z ha), nI_cl (by omega), nI_cl (by omega), hr]
theorem tue_yes {S : ZA} {j ii nn : Nat} {l : Int32} (hj : j < 4) (hii : ii ≤ 60) (hnn : nn ≤ 60) (nj : ¬ (nI j < 0 ∨ 3 < nI j)) (hl : ¬ l < 0 ∧ ¬ 2 < l) (ha : ag (aln S j) (asz S j) l (nI ii) (nI nn) = 0) {e nh nd : Nat} {q : Nat → Nat → Nat} (hr : prs (fun x => ace S j (ii + x)) nn = (e, some (nh, nd, q))) : ap_tue S (nI j) l (nI ii) (nI nn) = (nI nh, (0, atr S, aln S, asz S, ace S, (nh, nd, 60, q), 0, ady S)) := by
  rw [ap_tue, if_neg nj, if_neg (nor_of hl), nI_cl (by omega), if_neg (fun z => z ha), nI_cl (by omega), nI_cl (by omega), hr]
theorem ag_nn {ln l i n : Int32} {s : Nat} (h : ag ln s l i n = 0) : ¬ n < 0 := fun z => by
  unfold ag at h
  split at h
  · exact absurd h (by decide)
  · split at h
    · exact absurd h (by decide)
    · first | exact absurd h (by decide) | (rw [if_pos z] at h; exact absurd h (by decide))
theorem ag_fine2 {ln : Int32} {sz : Nat} {l i : Int32} {m : Nat} (hsz : sz ≤ 60) (hm : m < 2 ^ 31) (h : ag ln sz l i (nI m) = 0) : ¬ ln = -1 ∧ ln = l ∧ ∃ ii, i = nI ii ∧ ii + m ≤ sz := by
  unfold ag at h
  split at h
  · exact absurd h (by decide)
  · next h1 =>
    split at h
    · exact absurd h (by decide)
    · next h2 =>
      split at h
      · exact absurd h (by decide)
      · next h3 =>
        split at h
        · exact absurd h (by decide)
        · next h4 =>
          refine ⟨h2, Classical.byContradiction fun z => h1 ⟨h2, z⟩, ?_⟩
          obtain ⟨ii, hii, rfl⟩ := ix_le (by omega) (fun z => h4 (Or.inl z)) (fun z => h4 (Or.inr (Or.inl z)))
          refine ⟨ii, rfl, ?_⟩
          have h5 : ¬ nI sz - nI ii < nI m := fun z => h4 (Or.inr (Or.inr z))
          rw [pk_sub hii, nI_ltI (by omega) hm] at h5
          omega
theorem rdH_ple {c : Nat → Int32} {n p p1 : Nat} (h : rdH c n p = (p1, none)) : p1 ≤ p + 4 := by
  unfold rdH at h
  split at h
  · cases h; omega
  · split at h
    · cases h; omega
    · split at h
      · cases h; omega
      · split at h
        · cases h; omega
        · split at h
          · cases h; omega
          · cases h
theorem rdD_ple {c : Nat → Int32} {n p p1 : Nat} (h : rdD c n p = (p1, none)) : p1 ≤ p + 3 := by
  unfold rdD at h
  split at h
  · cases h; omega
  · split at h
    · cases h; omega
    · split at h
      · cases h; omega
      · split at h
        · cases h; omega
        · cases h
theorem pH_le {c : Nat → Int32} {n : Nat} : ∀ {k p nh : Nat} {q : Nat → Nat → Nat}, (pH c n k p nh q).1 ≤ p + 6 * k
  | 0, p, nh, q => Nat.le_refl _
  | k + 1, p, nh, q => by
    unfold pH
    split
    · cases hr : rdH c n (p + 1) with
      | mk p1 ox =>
        cases ox with
        | none => have := rdH_ple hr; show p1 ≤ _; omega
        | some x =>
          have e := rdH_p hr
          have := pH_le (c := c) (n := n) (k := k) (p := p1) (nh := nh + 1) (q := put4 q 0 nh x)
          show (pH c n k p1 (nh + 1) (put4 q 0 nh x)).1 ≤ _
          omega
    · show p ≤ _; omega
theorem pD_le {c : Nat → Int32} {n : Nat} : ∀ {k p nd : Nat} {q : Nat → Nat → Nat}, (pD c n k p nd q).1 ≤ p + 5 * k
  | 0, p, nd, q => Nat.le_refl _
  | k + 1, p, nd, q => by
    unfold pD
    split
    · cases hr : rdD c n (p + 1) with
      | mk p1 ox =>
        cases ox with
        | none => have := rdD_ple hr; show p1 ≤ _; omega
        | some x =>
          have e := rdD_p hr
          have := pD_le (c := c) (n := n) (k := k) (p := p1) (nd := nd + 1) (q := put4 q 4 nd x)
          show (pD c n k p1 (nd + 1) (put4 q 4 nd x)).1 ≤ _
          omega
    · show p ≤ _; omega
theorem prD_le {c : Nat → Int32} {n : Nat} {r : Nat × Option (Nat × (Nat → Nat → Nat))} : (prD c n r).1 ≤ r.1 + 25 := by
  obtain ⟨p, o⟩ := r
  cases o with
  | none => show p ≤ p + 25; omega
  | some x =>
    obtain ⟨nh, q⟩ := x
    rw [prD_some]
    have h := pD_le (c := c) (n := n) (k := 5) (p := p) (nd := 0) (q := q)
    cases hd : pD c n 5 p 0 q with
    | mk p1 o1 =>
      rw [hd] at h
      have h : p1 ≤ p + 5 * 5 := h
      cases o1 with
      | none => show p1 ≤ p + 25; omega
      | some y =>
        obtain ⟨nd, q1⟩ := y
        rw [pfin_some]
        split <;> (show p1 ≤ p + 25; omega)
theorem prs_le {c : Nat → Int32} {n p : Nat} (_ : n ≤ 60) {o : Option (Nat × Nat × (Nat → Nat → Nat))} (h : prs c n = (p, o)) : p ≤ 200 := by
  unfold prs at h
  split at h
  · cases h; omega
  · split at h
    · cases h; omega
    · cases hr : rdH c n 2 with
      | mk p1 ox =>
        rw [hr] at h
        cases ox with
        | none => cases h; have := rdH_ple hr; omega
        | some x =>
          have e := rdH_p hr
          have h2 := prD_le (c := c) (n := n) (r := pH c n 5 p1 1 (put4 (fun _ _ => 0) 0 0 x))
          have h3 := pH_le (c := c) (n := n) (k := 5) (p := p1) (nh := 1) (q := put4 (fun _ _ => 0) 0 0 x)
          have h4 : prD c n (pH c n 5 p1 1 (put4 (fun _ _ => 0) 0 0 x)) = (p, o) := h
          rw [h4] at h2
          have h2 : p ≤ _ := h2
          omega
set_option maxHeartbeats 600000 in
set_option maxRecDepth 20000 in
theorem c_Tue_tuesday (G : ZG) (ad : Nat → Nat) (I : Nat → Int32) (L : Nat → Int64) (g : Option Nat) (QH QD : Nat → Option Nat) (RI : Nat → Nat → Int32) (RL : Nat → Nat → Int64) (X : va_W) (S : ZA) (hA dA : Nat → Nat) (hm : crp S hA dA I L QH QD RI RL) (sh l i n : Int32) : ZM G y_Tue_tuesday b_Tue_tuesday 9 (some .int) r_Tue_tuesday [.ref (ad 0), .int sh, .int l, .int i, .int n] (cw G ad I L g none QH QD RI RL ++ pw hA dA (aT S) X) (cpi G ad X (ap_tue S sh l i n).1 (ap_tue S sh l i n).2) := by
  refine ZM.of "SameTuesday" "tuesday" rfl rfl (by decide) (Nat.le_of_ble_eq_true rfl) (fun Y C hq => ?_)
  change ZV G Y 0 0 0 [(0, .ref (ad 0)), (1, .int sh), (2, .int l), (3, .int i), (4, .int n)] [] (cw G ad I L g none QH QD RI RL ++ pw hA dA (aT S) X)
  refine zx_aload C d_Tue_tuesday_0 rfl ?_
  refine zx_ic C d_Tue_tuesday_1 ?_
  refine zx_put C p_Tue_55_11 d_Tue_tuesday_2 0 zcw_0 zb_fit_i (Nat.le_of_ble_eq_true rfl) zcs_0_6 ?_
  refine zx_aload C d_Tue_tuesday_5 rfl ?_
  refine zx_iload C d_Tue_tuesday_6 rfl ?_
  refine zr_dq (zr_V C l_Tue_59 d_Tue_tuesday_7 (As := [_]) rfl rfl (Nat.le_of_ble_eq_true rfl) (c_Tue_sheetOf G _ _ _ _ _ _ _ _ _ _ _) 0 zcw_0 rfl ⟨Nat.le_of_ble_eq_true rfl, Nat.le_of_ble_eq_true rfl, Nat.le_of_ble_eq_true rfl, Nat.le_of_ble_eq_true rfl⟩) ?_
  refine zx_astoreq C d_Tue_tuesday_10 (by decide) (lv1 := [(5, _), (0, _), (1, _), (2, _), (3, _), (4, _)]) rfl ?_
  refine zx_aloadq C d_Tue_tuesday_12 rfl ?_
  refine zx_ifnonnull C d_Tue_tuesday_14 (fun a14 h14 => ?_) (fun h14 => ?_)
  · obtain ⟨j, hj, rfl, ej, nj⟩ := shq_some h14
    rw [ej]
    obtain ⟨p1j, p2j, p3j⟩ := hm.2.2.2.1 j hj
    have qj := hm.1.1 j hj
    have u1 : upd I 0 0 (1 + j) = aln S j := (upd_far (by omega)).trans p1j
    refine zx_aload C d_Tue_tuesday_19 rfl ?_
    refine zx_aload C d_Tue_tuesday_20 rfl ?_
    refine zx_iload C d_Tue_tuesday_22 rfl ?_
    refine zx_iload C d_Tue_tuesday_23 rfl ?_
    refine zx_iload C d_Tue_tuesday_24 rfl ?_
    refine zr_di (zr_V C l_Tue_63 d_Tue_tuesday_26 (As := [_, _, _, _]) rfl rfl (Nat.le_of_ble_eq_true rfl) (c_Tue_refusalOfCells G _ _ _ _ _ _ _ _ _ _ j hj (asz S j) (by exact (upd_far (by omega)).trans p2j) _ _ _) 0 zcw_0 rfl ⟨Nat.le_of_ble_eq_true rfl, Nat.le_of_ble_eq_true rfl, Nat.le_of_ble_eq_true rfl, Nat.le_of_ble_eq_true rfl⟩) ?_
    refine zx_istore C d_Tue_tuesday_29 (by decide) (lv1 := [(6, _), (5, _), (0, _), (1, _), (2, _), (3, _), (4, _)]) rfl ?_
    refine zx_iload C d_Tue_tuesday_31 rfl ?_
    refine zx_if_eq C d_Tue_tuesday_33 (fun h33 => ?_) (fun h33 => ?_)
    · obtain ⟨hl, ha⟩ := rf_zero h33
      rw [(rf_f (I := upd I 0 0) hl ha).2]
      rw [u1] at ha
      obtain ⟨nn, hnn, rfl⟩ := nI_of (ag_nn ha)
      obtain ⟨_, _, ii, rfl, hii⟩ := ag_fine2 qj.2.1 hnn ha
      have hii2 : nn ≤ 60 := by have := qj.2.1; omega
      have hsz6 := qj.2.1
      have hce : ∀ x, x < nn → RI j (ii + x) = ace S j (ii + x) := fun x hx => p3j _ (by omega)
      refine zx_new C nw_Tue_67 d_Tue_tuesday_39 (Nat.le_of_ble_eq_true rfl) (Nat.le_of_ble_eq_true rfl) (fun q => ?_)
      refine zx_dup C rfl d_Tue_tuesday_42 ?_
      refine zx_aload C d_Tue_tuesday_43 rfl ?_
      refine zx_iload C d_Tue_tuesday_45 rfl ?_
      refine zx_iload C d_Tue_tuesday_46 rfl ?_
      refine zr_dv (zr_I C l_Tue_69 d_Tue_tuesday_48 (As := [_, _, _]) rfl rfl (Nat.le_of_ble_eq_true rfl) (c_Txt_init G _ (cw G ad (upd I 0 0) L g none QH QD RI RL ++ pw hA dA (aT S) X).length q sg_last (ad (2 + j)) _ _) ⟨Nat.le_of_ble_eq_true rfl, Nat.le_of_ble_eq_true rfl, Nat.le_of_ble_eq_true rfl, Nat.le_of_ble_eq_true rfl⟩) ?_
      rw [sg_set]
      refine zx_astore C d_Tue_tuesday_51 (by decide) (lv1 := [(7, _), (6, _), (5, _), (0, _), (1, _), (2, _), (3, _), (4, _)]) rfl ?_
      refine zx_perm (w1 := cw G ad (upd I 0 0) L g none QH QD RI RL ++ ((tcl q ad j ii nn (nI 0) (nI 0) (nI 0)) :: pw hA dA (aT S) X)) pm_mid ?_
      refine zx_aload C d_Tue_tuesday_53 rfl ?_
      refine zr_i (zr_V C l_Tue_72 d_Tue_tuesday_55 (As := []) rfl rfl (Nat.le_of_ble_eq_true rfl) (c_Txt_firstFault G ad (upd I 0 0) L g none QH QD RI RL (pw hA dA (aT S) X) q j ii nn hj (asz S j) (by exact (upd_far (by omega)).trans p2j) qj.2.1 hii (fun x => ace S j (ii + x)) hce) 23 zcw_t rfl ⟨Nat.le_of_ble_eq_true rfl, Nat.le_of_ble_eq_true rfl, Nat.le_of_ble_eq_true rfl, Nat.le_of_ble_eq_true rfl⟩) (fun r w1 hff => ?_)
      obtain ⟨p, nh, nd, rfl, hff⟩ := hff
      rcases hff with ⟨e, he, rfl⟩ | ⟨e, q0, he, hts2, rfl⟩
      · have he2 : e ≤ 200 := prs_le hii2 he
        refine zx_istore C d_Tue_tuesday_58 (by decide) (lv1 := [(8, _), (7, _), (6, _), (5, _), (0, _), (1, _), (2, _), (3, _), (4, _)]) rfl ?_
        refine zx_iload C d_Tue_tuesday_60 rfl ?_
        refine zx_ic C d_Tue_tuesday_62 ?_
        refine zx_ic_eq C d_Tue_tuesday_64 (fun h64 => ?_) (fun h64 => ?_)
        · exact absurd h64 (nI_n9b (by omega))
        · refine zx_ic C d_Tue_tuesday_67 ?_
          refine zx_iload C d_Tue_tuesday_69 rfl ?_
          refine zx_isub C d_Tue_tuesday_71 ?_
          refine zx_drop (w1 := (cw G ad (upd I 0 0) L g none QH QD RI RL ++ pw hA dA (aT S) X)) (List.Sublist.append (List.Sublist.refl _) (List.Sublist.cons _ (List.Sublist.refl _))) ?_
          refine zx_widen (kc1 := 12) (ks1 := 67) (by decide) (by decide) ?_
          exact zx_iret C hq d_Tue_tuesday_72 (by rw [tue_no hj (by omega) (by omega) nj hl ha he]; exact cpi_i rfl (crp_f hm 0))
      · have ht := (prs_ok he).1
        refine zx_istore C d_Tue_tuesday_58 (by decide) (lv1 := [(8, _), (7, _), (6, _), (5, _), (0, _), (1, _), (2, _), (3, _), (4, _)]) rfl ?_
        refine zx_iload C d_Tue_tuesday_60 rfl ?_
        refine zx_ic C d_Tue_tuesday_62 ?_
        refine zx_ic_eq C d_Tue_tuesday_64 (fun h64 => ?_) (fun h64 => ?_)
        · refine zx_aload C d_Tue_tuesday_73 rfl ?_
          refine zx_get C f_Tue_21_11 d_Tue_tuesday_74 0 zcw_0 rfl ?_
          refine zx_aload C d_Tue_tuesday_77 rfl ?_
          refine zr_vA (zr_V C l_Tue_76 d_Tue_tuesday_79 (As := [_]) rfl rfl (Nat.le_of_ble_eq_true rfl) (c_Twn_retell G ad (upd I 0 0) L g none QH QD RI RL (pw hA dA (aT S) X) q j ii nn hj (asz S j) (by exact (upd_far (by omega)).trans p2j) qj.2.1 hii (fun x => ace S j (ii + x)) hce p nh nd q0 ht hts2 X sb_X) 10 zcw_10 rfl ⟨(Nat.le_of_ble_eq_true rfl), (Nat.le_of_ble_eq_true rfl), (Nat.le_of_ble_eq_true rfl), (Nat.le_of_ble_eq_true rfl)⟩) (fun w2 hw2 => ?_)
          obtain ⟨hA1, dA1, QH1, QD1, hQ, hQD, rfl⟩ := hw2
          refine zx_aload C d_Tue_tuesday_82 rfl ?_
          refine zx_get C f_Tue_44_11 d_Tue_tuesday_83 0 zcw_0 rfl ?_
          refine zx_aload C d_Tue_tuesday_86 rfl ?_
          refine zx_get C f_Tue_44_11 d_Tue_tuesday_87 0 zcw_0 rfl ?_
          refine zr_di (zr_V C l_Tue_80 d_Tue_tuesday_90 (As := []) rfl rfl (Nat.le_of_ble_eq_true rfl) (c_Law_dayCount G _ _ _ _ _ _ _ _ _ _) 20 zcw_20 rfl ⟨(Nat.le_of_ble_eq_true rfl), (Nat.le_of_ble_eq_true rfl), (Nat.le_of_ble_eq_true rfl), (Nat.le_of_ble_eq_true rfl)⟩) ?_
          refine zr_dv (zr_V C l_Tue_83 d_Tue_tuesday_93 (As := [_]) rfl rfl (Nat.le_of_ble_eq_true rfl) (c_Law_dropLast G _ _ _ _ _ _ _ _ _ _ _) 20 zcw_20 rfl ⟨(Nat.le_of_ble_eq_true rfl), (Nat.le_of_ble_eq_true rfl), (Nat.le_of_ble_eq_true rfl), (Nat.le_of_ble_eq_true rfl)⟩) ?_
          refine zx_aload C d_Tue_tuesday_96 rfl ?_
          refine zx_get C f_Tue_37_11 d_Tue_tuesday_97 0 zcw_0 rfl ?_
          refine zr_dv (zr_V C l_Tue_87 d_Tue_tuesday_100 (As := []) rfl rfl (Nat.le_of_ble_eq_true rfl) (c_Rch_spoil G _ _ _ _ _ _ _ _ _ _) 17 zcw_17 rfl ⟨(Nat.le_of_ble_eq_true rfl), (Nat.le_of_ble_eq_true rfl), (Nat.le_of_ble_eq_true rfl), (Nat.le_of_ble_eq_true rfl)⟩) ?_
          refine zx_aload C d_Tue_tuesday_103 rfl ?_
          refine zx_get C f_Tue_21_11 d_Tue_tuesday_104 0 zcw_0 rfl ?_
          refine zr_di (zr_V C l_Tue_90 d_Tue_tuesday_107 (As := []) rfl rfl (Nat.le_of_ble_eq_true rfl) (c_Twn_happeningCount G _ _ _ _ _ _ _ _ _ _) 10 zcw_10 rfl ⟨(Nat.le_of_ble_eq_true rfl), (Nat.le_of_ble_eq_true rfl), (Nat.le_of_ble_eq_true rfl), (Nat.le_of_ble_eq_true rfl)⟩) ?_
          refine zx_widen (kc1 := 12) (ks1 := 67) (by decide) (by decide) ?_
          exact zx_iret C hq d_Tue_tuesday_110 (by rw [tue_yes hj (by omega) (by omega) nj hl ha he]; exact cpi_i rfl (crp_tue (crp_f hm 0) (hv := by rw [Int32.sub_self]; rfl) ht hQ hQD))
        · exact absurd rfl h64
    · obtain ⟨v, ev, hv⟩ := tue_rf (S := S) (I := upd I 0 0) hj u1 nj h33
      have hm2 : crp (sf S v) hA dA (rfI (upd I 0 0) (upd I 0 0 (1 + j)) (asz S j) l i n) L QH QD RI RL := by
        rcases hv with ⟨rfl, e⟩ | e
        · rw [e]; exact crp_f hm 0
        · rw [e]; exact crp_0 hm v
      refine zx_iload C d_Tue_tuesday_36 rfl ?_
      exact zx_widen (kc1 := 12) (ks1 := 67) (by decide) (by decide) (zx_iret C hq d_Tue_tuesday_38 (by rw [ev]; exact cpi_i rfl hm2))
  · have ev : ap_tue S sh l i n = (-1, sf S 0) := if_pos (shq_none h14)
    have hm2 := crp_f hm 0
    refine zx_ic C d_Tue_tuesday_17 ?_
    exact zx_widen (kc1 := 12) (ks1 := 67) (by decide) (by decide) (zx_iret C hq d_Tue_tuesday_18 (by rw [ev]; exact cpi_i rfl hm2))
