theorem cd_is {c : Nat → Int32} {n p : Nat} {x : Int32} (hx : ¬ x = -1) : cdA c n p = x ↔ p < n ∧ c p = x := by
  unfold cdA
  by_cases h : p < n
  · rw [if_pos h]; exact ⟨fun z => ⟨h, z⟩, fun z => z.2⟩
  · rw [if_neg h]; exact ⟨fun z => absurd z.symm hx, fun z => absurd z.1 h⟩
theorem fd_n {c : Nat → Int32} {n p lo hi : Nat} (hl : lo ≤ 9) (h : ¬ isdB (cdA c n p) lo hi = true) : dg c n p lo hi = none := (cd_dg hl).mpr (fun z => h (decide_eq_true z))
theorem fd_s {c : Nat → Int32} {n p lo hi : Nat} (hl : lo ≤ 9) (h : isdB (cdA c n p) lo hi = true) : ∃ x, dg c n p lo hi = some x := by
  cases hd : dg c n p lo hi with
  | none => exact absurd (of_decide_eq_true h) ((cd_dg hl).mp hd)
  | some x => exact ⟨x, rfl⟩
theorem fk_n {c : Nat → Int32} {n p : Nat} (h : ¬ fitH 1 (cdA c n p) = true) : kdO c n p = none := cd_kd.mpr (Classical.byContradiction fun z => h (by show (!decide (kdc (cdA c n p) = -9)) = true; rw [decide_eq_false z]; rfl))
theorem fk_s {c : Nat → Int32} {n p : Nat} (h : fitH 1 (cdA c n p) = true) : ∃ k, kdO c n p = some k := by
  cases hd : kdO c n p with
  | none =>
    have z := cd_kd.mp hd
    have y : (!decide (kdc (cdA c n p) = -9)) = true := h
    rw [decide_eq_true z] at y; cases y
  | some x => exact ⟨x, rfl⟩
section RdFails
variable {c : Nat → Int32} {n p k a b e f : Nat}
theorem rdH_1 (h1 : kdO c n p = none) : rdH c n p = (p, none) := by unfold rdH; rw [h1]
theorem rdH_2 (h1 : kdO c n p = some k) (h2 : dg c n (p + 1) 0 5 = none) : rdH c n p = (p + 1, none) := by unfold rdH; rw [h1]; simp only []; rw [h2]
theorem rdH_3 (h1 : kdO c n p = some k) (h2 : dg c n (p + 1) 0 5 = some a) (h3 : dg c n (p + 2) 0 9 = none) : rdH c n p = (p + 2, none) := by unfold rdH; rw [h1]; simp only []; rw [h2]; simp only []; rw [h3]
theorem rdH_4 (h1 : kdO c n p = some k) (h2 : dg c n (p + 1) 0 5 = some a) (h3 : dg c n (p + 2) 0 9 = some b) (h4 : dg c n (p + 3) 0 6 = none) : rdH c n p = (p + 3, none) := by unfold rdH; rw [h1]; simp only []; rw [h2]; simp only []; rw [h3]; simp only []; rw [h4]
theorem rdH_5 (h1 : kdO c n p = some k) (h2 : dg c n (p + 1) 0 5 = some a) (h3 : dg c n (p + 2) 0 9 = some b) (h4 : dg c n (p + 3) 0 6 = some e) (h5 : dg c n (p + 4) 0 5 = none) : rdH c n p = (p + 4, none) := by unfold rdH; rw [h1]; simp only []; rw [h2]; simp only []; rw [h3]; simp only []; rw [h4]; simp only []; rw [h5]
theorem rdH_6 (h1 : kdO c n p = some k) (h2 : dg c n (p + 1) 0 5 = some a) (h3 : dg c n (p + 2) 0 9 = some b) (h4 : dg c n (p + 3) 0 6 = some e) (h5 : dg c n (p + 4) 0 5 = some f) : rdH c n p = (p + 5, some (k, 10 * a + b, e, f)) := by unfold rdH; rw [h1]; simp only []; rw [h2]; simp only []; rw [h3]; simp only []; rw [h4]; simp only []; rw [h5]
theorem rdD_1 (h1 : dg c n p 0 6 = none) : rdD c n p = (p, none) := by unfold rdD; rw [h1]
theorem rdD_2 (h1 : dg c n p 0 6 = some a) (h2 : dg c n (p + 1) 0 5 = none) : rdD c n p = (p + 1, none) := by unfold rdD; rw [h1]; simp only []; rw [h2]
theorem rdD_3 (h1 : dg c n p 0 6 = some a) (h2 : dg c n (p + 1) 0 5 = some b) (h3 : dg c n (p + 2) 0 6 = none) : rdD c n p = (p + 2, none) := by unfold rdD; rw [h1]; simp only []; rw [h2]; simp only []; rw [h3]
theorem rdD_4 (h1 : dg c n p 0 6 = some a) (h2 : dg c n (p + 1) 0 5 = some b) (h3 : dg c n (p + 2) 0 6 = some e) (h4 : dg c n (p + 3) 1 9 = none) : rdD c n p = (p + 3, none) := by unfold rdD; rw [h1]; simp only []; rw [h2]; simp only []; rw [h3]; simp only []; rw [h4]
theorem rdD_5 (h1 : dg c n p 0 6 = some a) (h2 : dg c n (p + 1) 0 5 = some b) (h3 : dg c n (p + 2) 0 6 = some e) (h4 : dg c n (p + 3) 1 9 = some f) : rdD c n p = (p + 4, some (a, b, e, f)) := by unfold rdD; rw [h1]; simp only []; rw [h2]; simp only []; rw [h3]; simp only []; rw [h4]
end RdFails
theorem pp_Hn {c : Nat → Int32} {n p nh nd p1 : Nat} (h : (p < n ∧ c p = 59) ∧ nd = 0 ∧ nh < 6) (hr : rdH c n (p + 1) = (p1, none)) : ppS c n p nh nd = (false, p1, nh, nd) := by rw [ppS, if_pos h, hr]
theorem pp_Hs {c : Nat → Int32} {n p nh nd p1 : Nat} {x : Nat × Nat × Nat × Nat} (h : (p < n ∧ c p = 59) ∧ nd = 0 ∧ nh < 6) (hr : rdH c n (p + 1) = (p1, some x)) : ppS c n p nh nd = (true, p1, nh + 1, nd) := by rw [ppS, if_pos h, hr]
theorem pp_no {c : Nat → Int32} {n p nh nd : Nat} (h : (p < n ∧ c p = 44) ∧ 0 < nh ∧ nd < 5) : ¬ ((p < n ∧ c p = 59) ∧ nd = 0 ∧ nh < 6) := fun z => by rw [h.1.2] at z; exact absurd z.1.2 (by decide)
theorem pp_Dn {c : Nat → Int32} {n p nh nd p1 : Nat} (h : (p < n ∧ c p = 44) ∧ 0 < nh ∧ nd < 5) (hr : rdD c n (p + 1) = (p1, none)) : ppS c n p nh nd = (false, p1, nh, nd) := by rw [ppS, if_neg (pp_no h), if_pos h, hr]
theorem pp_Ds {c : Nat → Int32} {n p nh nd p1 : Nat} {x : Nat × Nat × Nat × Nat} (h : (p < n ∧ c p = 44) ∧ 0 < nh ∧ nd < 5) (hr : rdD c n (p + 1) = (p1, some x)) : ppS c n p nh nd = (true, p1, nh, nd + 1) := by rw [ppS, if_neg (pp_no h), if_pos h, hr]
theorem pp_0 {c : Nat → Int32} {n p nh nd : Nat} (h : ¬ ((p < n ∧ c p = 59) ∧ nd = 0 ∧ nh < 6)) (h2 : ¬ ((p < n ∧ c p = 44) ∧ 0 < nh ∧ nd < 5)) : ppS c n p nh nd = (false, p, nh, nd) := by rw [ppS, if_neg h, if_neg h2]
set_option maxHeartbeats 600000 in
set_option maxRecDepth 20000 in
theorem c_Txt_passPart (G : ZG) (ad : Nat → Nat) (I : Nat → Int32) (L : Nat → Int64) (g z : Option Nat) (QH QD : Nat → Option Nat) (RI : Nat → Nat → Int32) (RL : Nat → Nat → Int64) (Z : va_W) (ta k st n : Nat) (hk : k < 4) (sz : Nat) (hz : I (5 + k) = nI sz) (hsz : sz ≤ 60) (hn : st + n ≤ sz) (c : Nat → Int32) (hc : ∀ j, j < n → RI k (st + j) = c j) (p nh nd : Nat) (hp : p ≤ 200) (hnh : nh ≤ 6) (hnd : nd ≤ 5) : ZM G y_Txt_passPart b_Txt_passPart 7 (some .boolean) r_Txt_passPart [.ref ta] (cw G ad I L g z QH QD RI RL ++ (tcl ta ad k st n (nI (p)) (nI (nh)) (nI (nd)) :: Z)) (zdi (zB ((ppS c n p nh nd).1 = true)) (cw G ad I L g z QH QD RI RL ++ (tcl ta ad k st n (nI ((ppS c n p nh nd).2.1)) (nI ((ppS c n p nh nd).2.2.1)) (nI ((ppS c n p nh nd).2.2.2)) :: Z))) := by
  refine ZM.of "SameTuesday$Text" "passPart" rfl rfl (by decide) (Nat.le_of_ble_eq_true rfl) (fun Y C hq => ?_)
  change ZV G Y 0 0 0 [(0, .ref ta)] [] (cw G ad I L g z QH QD RI RL ++ (tcl ta ad k st n (nI (p)) (nI (nh)) (nI (nd)) :: Z))
  have itH : ∀ i, i < 5 → (¬ fitH (i + 1) (cdA c n (p + (i + 1))) = true → (ppS c n p nh nd) = (false, p + (i + 1), nh, nd)) → (fitH (i + 1) (cdA c n (p + (i + 1))) = true → ZV G Y 0 0 89 [(0, .ref ta), (2, .int 1), (3, .int 0), (4, .int 6), (5, .int (nI (i + 1 + 1)))] [] (cw G ad I L g z QH QD RI RL ++ (tcl ta ad k st n (nI (p + (i + 1))) (nI (nh)) (nI (nd)) :: Z))) → ZV G Y 0 0 89 [(0, .ref ta), (2, .int 1), (3, .int 0), (4, .int 6), (5, .int (nI (i + 1)))] [] (cw G ad I L g z QH QD RI RL ++ (tcl ta ad k st n (nI (p + i)) (nI (nh)) (nI (nd)) :: Z)) := by
    intro i hi hno hyes
    refine zx_iload C d_Txt_passPart_89 rfl ?_
    refine zx_iload C d_Txt_passPart_91 rfl ?_
    refine zx_ic_ge C d_Txt_passPart_93 (fun h93 => ?_) (fun h93 => ?_)
    · exact absurd h93 (nI_ge (b := 6) (by omega) (by omega))
    · refine zx_aload C d_Txt_passPart_96 rfl ?_
      refine zx_dup C rfl d_Txt_passPart_97 ?_
      refine zx_get C f_Txt_22_8 d_Txt_passPart_98 23 zcw_t rfl ?_
      refine zx_ic C d_Txt_passPart_101 ?_
      refine zx_iadd C d_Txt_passPart_102 ?_
      refine zx_put C p_Txt_22_8 d_Txt_passPart_103 23 zcw_t zb_fit_i (Nat.le_of_ble_eq_true rfl) zcs_t_3 ?_
      refine zx_eq rfl rfl (w1 := (cw G ad I L g z QH QD RI RL ++ (tcl ta ad k st n (nI (p + (i + 1))) (nI (nh)) (nI (nd)) :: Z))) (by rw [show nI (p + i) + 1 = nI (p + (i + 1)) from by rw [← Nat.add_assoc, nI_succ]]) ?_
      refine zx_aload C d_Txt_passPart_106 rfl ?_
      refine zx_aload C d_Txt_passPart_107 rfl ?_
      refine zx_get C f_Txt_22_8 d_Txt_passPart_108 23 zcw_t rfl ?_
      refine zr_di (zr_V C l_Txt_31 d_Txt_passPart_111 (As := [_]) rfl rfl (Nat.le_of_ble_eq_true rfl) (c_Txt_codeAt G ad I L g z QH QD RI RL Z ta k st n hk sz hz hsz hn c hc _ _ _ (p + (i + 1)) (by omega)) 23 zcw_t rfl ⟨Nat.le_of_ble_eq_true rfl, Nat.le_of_ble_eq_true rfl, Nat.le_of_ble_eq_true rfl, Nat.le_of_ble_eq_true rfl⟩) ?_
      refine zx_istore C d_Txt_passPart_114 (by decide) (lv1 := [(6, _), (0, _), (2, _), (3, _), (4, _), (5, _)]) rfl ?_
      refine zx_iload C d_Txt_passPart_116 rfl ?_
      refine zx_if_eq C d_Txt_passPart_117 (fun h117 => ?_) (fun h117 => ?_)
      · exact absurd h117 (by decide)
      · refine zx_iload C d_Txt_passPart_120 rfl ?_
        refine zx_iload C d_Txt_passPart_122 rfl ?_
        refine zr_di (zr_S C l_Txt_39 d_Txt_passPart_124 (As := [_, _]) rfl rfl (Nat.le_of_ble_eq_true rfl) (c_Txt_fitsHappening G _ (i + 1) (by omega) (by omega) _) ⟨Nat.le_of_ble_eq_true rfl, Nat.le_of_ble_eq_true rfl, Nat.le_of_ble_eq_true rfl, Nat.le_of_ble_eq_true rfl⟩) ?_
        refine zx_ifB_ne C d_Txt_passPart_127 (fun h127 => ?_) (fun h127 => ?_)
        · refine zx_iinc C d_Txt_passPart_145 (by decide) rfl (lv1 := [(5, _), (6, _), (0, _), (2, _), (3, _), (4, _)]) rfl ?_
          refine zx_goto C d_Txt_passPart_148 ?_
          rw [show (1 : Int32) = nI 1 from rfl, nI_add]
          exact zx_lv [0, 2, 3, 4, 5] rfl (hyes h127)
        · have ev := hno h127
          refine zx_goto C d_Txt_passPart_130 ?_
          refine zx_ic C d_Txt_passPart_143 ?_
          exact zx_zret C hq (by decide) d_Txt_passPart_144 (⟨by rw [ev]; rfl, by rw [ev]⟩)
  have itD : ∀ i, i < 4 → (¬ fitD (i + 1) (cdA c n (p + (i + 1))) = true → (ppS c n p nh nd) = (false, p + (i + 1), nh, nd)) → (fitD (i + 1) (cdA c n (p + (i + 1))) = true → ZV G Y 0 0 89 [(0, .ref ta), (2, .int 0), (3, .int 1), (4, .int 5), (5, .int (nI (i + 1 + 1)))] [] (cw G ad I L g z QH QD RI RL ++ (tcl ta ad k st n (nI (p + (i + 1))) (nI (nh)) (nI (nd)) :: Z))) → ZV G Y 0 0 89 [(0, .ref ta), (2, .int 0), (3, .int 1), (4, .int 5), (5, .int (nI (i + 1)))] [] (cw G ad I L g z QH QD RI RL ++ (tcl ta ad k st n (nI (p + i)) (nI (nh)) (nI (nd)) :: Z)) := by
    intro i hi hno hyes
    refine zx_iload C d_Txt_passPart_89 rfl ?_
    refine zx_iload C d_Txt_passPart_91 rfl ?_
    refine zx_ic_ge C d_Txt_passPart_93 (fun h93 => ?_) (fun h93 => ?_)
    · exact absurd h93 (nI_ge (b := 5) (by omega) (by omega))
    · refine zx_aload C d_Txt_passPart_96 rfl ?_
      refine zx_dup C rfl d_Txt_passPart_97 ?_
      refine zx_get C f_Txt_22_8 d_Txt_passPart_98 23 zcw_t rfl ?_
      refine zx_ic C d_Txt_passPart_101 ?_
      refine zx_iadd C d_Txt_passPart_102 ?_
      refine zx_put C p_Txt_22_8 d_Txt_passPart_103 23 zcw_t zb_fit_i (Nat.le_of_ble_eq_true rfl) zcs_t_3 ?_
      refine zx_eq rfl rfl (w1 := (cw G ad I L g z QH QD RI RL ++ (tcl ta ad k st n (nI (p + (i + 1))) (nI (nh)) (nI (nd)) :: Z))) (by rw [show nI (p + i) + 1 = nI (p + (i + 1)) from by rw [← Nat.add_assoc, nI_succ]]) ?_
      refine zx_aload C d_Txt_passPart_106 rfl ?_
      refine zx_aload C d_Txt_passPart_107 rfl ?_
      refine zx_get C f_Txt_22_8 d_Txt_passPart_108 23 zcw_t rfl ?_
      refine zr_di (zr_V C l_Txt_31 d_Txt_passPart_111 (As := [_]) rfl rfl (Nat.le_of_ble_eq_true rfl) (c_Txt_codeAt G ad I L g z QH QD RI RL Z ta k st n hk sz hz hsz hn c hc _ _ _ (p + (i + 1)) (by omega)) 23 zcw_t rfl ⟨Nat.le_of_ble_eq_true rfl, Nat.le_of_ble_eq_true rfl, Nat.le_of_ble_eq_true rfl, Nat.le_of_ble_eq_true rfl⟩) ?_
      refine zx_istore C d_Txt_passPart_114 (by decide) (lv1 := [(6, _), (0, _), (2, _), (3, _), (4, _), (5, _)]) rfl ?_
      refine zx_iload C d_Txt_passPart_116 rfl ?_
      refine zx_if_eq C d_Txt_passPart_117 (fun h117 => ?_) (fun h117 => ?_)
      · refine zx_iload C d_Txt_passPart_133 rfl ?_
        refine zx_iload C d_Txt_passPart_135 rfl ?_
        refine zr_di (zr_S C l_Txt_43 d_Txt_passPart_137 (As := [_, _]) rfl rfl (Nat.le_of_ble_eq_true rfl) (c_Txt_fitsDeed G _ (i + 1) (by omega) (by omega) _) ⟨Nat.le_of_ble_eq_true rfl, Nat.le_of_ble_eq_true rfl, Nat.le_of_ble_eq_true rfl, Nat.le_of_ble_eq_true rfl⟩) ?_
        refine zx_ifB_ne C d_Txt_passPart_140 (fun h140 => ?_) (fun h140 => ?_)
        · refine zx_iinc C d_Txt_passPart_145 (by decide) rfl (lv1 := [(5, _), (6, _), (0, _), (2, _), (3, _), (4, _)]) rfl ?_
          refine zx_goto C d_Txt_passPart_148 ?_
          rw [show (1 : Int32) = nI 1 from rfl, nI_add]
          exact zx_lv [0, 2, 3, 4, 5] rfl (hyes h140)
        · have ev := hno h140
          refine zx_ic C d_Txt_passPart_143 ?_
          exact zx_zret C hq (by decide) d_Txt_passPart_144 (⟨by rw [ev]; rfl, by rw [ev]⟩)
      · exact absurd rfl h117
  have fin : ZV G Y 0 0 64 [(0, .ref ta), (1, .int (cdA c n p)), (2, .int (zB ((p < n ∧ c p = 59) ∧ nd = 0 ∧ nh < 6))), (3, .int (zB ((p < n ∧ c p = 44) ∧ 0 < nh ∧ nd < 5)))] [] (cw G ad I L g z QH QD RI RL ++ (tcl ta ad k st n (nI (p)) (nI (nh)) (nI (nd)) :: Z)) := by
    by_cases hH : ((p < n ∧ c p = 59) ∧ nd = 0 ∧ nh < 6)
    · have hD : ¬ ((p < n ∧ c p = 44) ∧ 0 < nh ∧ nd < 5) := fun y => pp_no y hH
      rw [zB_t hH, zB_f hD]
      refine zx_iload C d_Txt_passPart_64 rfl ?_
      refine zx_if_ne C d_Txt_passPart_65 (fun h65 => ?_) (fun h65 => ?_)
      · refine zx_iload C d_Txt_passPart_74 rfl ?_
        refine zx_if_eq C d_Txt_passPart_75 (fun h75 => ?_) (fun h75 => ?_)
        · exact absurd h75 (by decide)
        · refine zx_ic C d_Txt_passPart_78 ?_
          refine zx_goto C d_Txt_passPart_80 ?_
          refine zx_istore C d_Txt_passPart_84 (by decide) (lv1 := [(4, _), (0, _), (1, _), (2, _), (3, _)]) rfl ?_
          refine zx_ic C d_Txt_passPart_86 ?_
          refine zx_istore C d_Txt_passPart_87 (by decide) (lv1 := [(5, _), (4, _), (0, _), (1, _), (2, _), (3, _)]) rfl ?_
          refine zx_lv [0, 2, 3, 4, 5] rfl ?_
          refine itH 0 (by omega) (fun y => pp_Hn hH (rdH_1 (p := p + 1) (fk_n y))) (fun y => ?_)
          obtain ⟨k, g0⟩ := fk_s y
          refine itH 1 (by omega) (fun y => pp_Hn hH (rdH_2 (p := p + 1) g0 (fd_n (lo := 0) (hi := 5) (by omega) y))) (fun y => ?_)
          obtain ⟨a, g1⟩ := fd_s (lo := 0) (hi := 5) (by omega) y
          refine itH 2 (by omega) (fun y => pp_Hn hH (rdH_3 (p := p + 1) g0 g1 (fd_n (lo := 0) (hi := 9) (by omega) y))) (fun y => ?_)
          obtain ⟨b, g2⟩ := fd_s (lo := 0) (hi := 9) (by omega) y
          refine itH 3 (by omega) (fun y => pp_Hn hH (rdH_4 (p := p + 1) g0 g1 g2 (fd_n (lo := 0) (hi := 6) (by omega) y))) (fun y => ?_)
          obtain ⟨e, g3⟩ := fd_s (lo := 0) (hi := 6) (by omega) y
          refine itH 4 (by omega) (fun y => pp_Hn hH (rdH_5 (p := p + 1) g0 g1 g2 g3 (fd_n (lo := 0) (hi := 5) (by omega) y))) (fun y => ?_)
          obtain ⟨f, g4⟩ := fd_s (lo := 0) (hi := 5) (by omega) y
          have ev := pp_Hs hH (rdH_6 (p := p + 1) g0 g1 g2 g3 g4)
          refine zx_iload C d_Txt_passPart_89 rfl ?_
          refine zx_iload C d_Txt_passPart_91 rfl ?_
          refine zx_ic_ge C d_Txt_passPart_93 (fun h93 => ?_) (fun h93 => ?_)
          · refine zx_aload C d_Txt_passPart_151 rfl ?_
            refine zx_dup C rfl d_Txt_passPart_152 ?_
            refine zx_get C f_Txt_22_8 d_Txt_passPart_153 23 zcw_t rfl ?_
            refine zx_ic C d_Txt_passPart_156 ?_
            refine zx_iadd C d_Txt_passPart_157 ?_
            refine zx_put C p_Txt_22_8 d_Txt_passPart_158 23 zcw_t zb_fit_i (Nat.le_of_ble_eq_true rfl) zcs_t_3 ?_
            refine zx_aload C d_Txt_passPart_161 rfl ?_
            refine zx_dup C rfl d_Txt_passPart_162 ?_
            refine zx_get C f_Txt_25_8 d_Txt_passPart_163 23 zcw_t rfl ?_
            refine zx_iload C d_Txt_passPart_166 rfl ?_
            refine zx_if_eq C d_Txt_passPart_167 (fun h167 => ?_) (fun h167 => ?_)
            · exact absurd h167 (by decide)
            · refine zx_ic C d_Txt_passPart_170 ?_
              refine zx_goto C d_Txt_passPart_171 ?_
              refine zx_iadd C d_Txt_passPart_175 ?_
              refine zx_put C p_Txt_25_8 d_Txt_passPart_176 23 zcw_t zb_fit_i (Nat.le_of_ble_eq_true rfl) zcs_t_4 ?_
              refine zx_aload C d_Txt_passPart_179 rfl ?_
              refine zx_dup C rfl d_Txt_passPart_180 ?_
              refine zx_get C f_Txt_28_8 d_Txt_passPart_181 23 zcw_t rfl ?_
              refine zx_iload C d_Txt_passPart_184 rfl ?_
              refine zx_if_eq C d_Txt_passPart_185 (fun h185 => ?_) (fun h185 => ?_)
              · refine zx_ic C d_Txt_passPart_192 ?_
                refine zx_iadd C d_Txt_passPart_193 ?_
                refine zx_put C p_Txt_28_8 d_Txt_passPart_194 23 zcw_t zb_fit_i (Nat.le_of_ble_eq_true rfl) zcs_t_5 ?_
                refine zx_ic C d_Txt_passPart_197 ?_
                exact zx_zret C hq (by decide) d_Txt_passPart_198 (⟨by rw [ev]; rfl, by rw [ev, nI_succ (p + 5), nI_succ nh, show nI nd + 0 = nI nd from Int32.add_zero _]⟩)
              · exact absurd rfl h185
          · exact absurd (Int32.le_refl _) h93
      · exact absurd h65 (by decide)
    · by_cases hD : ((p < n ∧ c p = 44) ∧ 0 < nh ∧ nd < 5)
      · rw [zB_f hH, zB_t hD]
        refine zx_iload C d_Txt_passPart_64 rfl ?_
        refine zx_if_ne C d_Txt_passPart_65 (fun h65 => ?_) (fun h65 => ?_)
        · exact absurd rfl h65
        · refine zx_iload C d_Txt_passPart_68 rfl ?_
          refine zx_if_ne C d_Txt_passPart_69 (fun h69 => ?_) (fun h69 => ?_)
          · refine zx_iload C d_Txt_passPart_74 rfl ?_
            refine zx_if_eq C d_Txt_passPart_75 (fun h75 => ?_) (fun h75 => ?_)
            · refine zx_ic C d_Txt_passPart_83 ?_
              refine zx_istore C d_Txt_passPart_84 (by decide) (lv1 := [(4, _), (0, _), (1, _), (2, _), (3, _)]) rfl ?_
              refine zx_ic C d_Txt_passPart_86 ?_
              refine zx_istore C d_Txt_passPart_87 (by decide) (lv1 := [(5, _), (4, _), (0, _), (1, _), (2, _), (3, _)]) rfl ?_
              refine zx_lv [0, 2, 3, 4, 5] rfl ?_
              refine itD 0 (by omega) (fun y => pp_Dn hD (rdD_1 (p := p + 1) (fd_n (lo := 0) (hi := 6) (by omega) y))) (fun y => ?_)
              obtain ⟨a, g0⟩ := fd_s (lo := 0) (hi := 6) (by omega) y
              refine itD 1 (by omega) (fun y => pp_Dn hD (rdD_2 (p := p + 1) g0 (fd_n (lo := 0) (hi := 5) (by omega) y))) (fun y => ?_)
              obtain ⟨b, g1⟩ := fd_s (lo := 0) (hi := 5) (by omega) y
              refine itD 2 (by omega) (fun y => pp_Dn hD (rdD_3 (p := p + 1) g0 g1 (fd_n (lo := 0) (hi := 6) (by omega) y))) (fun y => ?_)
              obtain ⟨e, g2⟩ := fd_s (lo := 0) (hi := 6) (by omega) y
              refine itD 3 (by omega) (fun y => pp_Dn hD (rdD_4 (p := p + 1) g0 g1 g2 (fd_n (lo := 1) (hi := 9) (by omega) y))) (fun y => ?_)
              obtain ⟨f, g3⟩ := fd_s (lo := 1) (hi := 9) (by omega) y
              have ev := pp_Ds hD (rdD_5 (p := p + 1) g0 g1 g2 g3)
              refine zx_iload C d_Txt_passPart_89 rfl ?_
              refine zx_iload C d_Txt_passPart_91 rfl ?_
              refine zx_ic_ge C d_Txt_passPart_93 (fun h93 => ?_) (fun h93 => ?_)
              · refine zx_aload C d_Txt_passPart_151 rfl ?_
                refine zx_dup C rfl d_Txt_passPart_152 ?_
                refine zx_get C f_Txt_22_8 d_Txt_passPart_153 23 zcw_t rfl ?_
                refine zx_ic C d_Txt_passPart_156 ?_
                refine zx_iadd C d_Txt_passPart_157 ?_
                refine zx_put C p_Txt_22_8 d_Txt_passPart_158 23 zcw_t zb_fit_i (Nat.le_of_ble_eq_true rfl) zcs_t_3 ?_
                refine zx_aload C d_Txt_passPart_161 rfl ?_
                refine zx_dup C rfl d_Txt_passPart_162 ?_
                refine zx_get C f_Txt_25_8 d_Txt_passPart_163 23 zcw_t rfl ?_
                refine zx_iload C d_Txt_passPart_166 rfl ?_
                refine zx_if_eq C d_Txt_passPart_167 (fun h167 => ?_) (fun h167 => ?_)
                · refine zx_ic C d_Txt_passPart_174 ?_
                  refine zx_iadd C d_Txt_passPart_175 ?_
                  refine zx_put C p_Txt_25_8 d_Txt_passPart_176 23 zcw_t zb_fit_i (Nat.le_of_ble_eq_true rfl) zcs_t_4 ?_
                  refine zx_aload C d_Txt_passPart_179 rfl ?_
                  refine zx_dup C rfl d_Txt_passPart_180 ?_
                  refine zx_get C f_Txt_28_8 d_Txt_passPart_181 23 zcw_t rfl ?_
                  refine zx_iload C d_Txt_passPart_184 rfl ?_
                  refine zx_if_eq C d_Txt_passPart_185 (fun h185 => ?_) (fun h185 => ?_)
                  · exact absurd h185 (by decide)
                  · refine zx_ic C d_Txt_passPart_188 ?_
                    refine zx_goto C d_Txt_passPart_189 ?_
                    refine zx_iadd C d_Txt_passPart_193 ?_
                    refine zx_put C p_Txt_28_8 d_Txt_passPart_194 23 zcw_t zb_fit_i (Nat.le_of_ble_eq_true rfl) zcs_t_5 ?_
                    refine zx_ic C d_Txt_passPart_197 ?_
                    exact zx_zret C hq (by decide) d_Txt_passPart_198 (⟨by rw [ev]; rfl, by rw [ev, nI_succ (p + 4), nI_succ nd, show nI nh + 0 = nI nh from Int32.add_zero _]⟩)
                · exact absurd rfl h167
              · exact absurd (Int32.le_refl _) h93
            · exact absurd rfl h75
          · exact absurd h69 (by decide)
      · rw [zB_f hH, zB_f hD]
        have ev := pp_0 hH hD
        refine zx_iload C d_Txt_passPart_64 rfl ?_
        refine zx_if_ne C d_Txt_passPart_65 (fun h65 => ?_) (fun h65 => ?_)
        · exact absurd rfl h65
        · refine zx_iload C d_Txt_passPart_68 rfl ?_
          refine zx_if_ne C d_Txt_passPart_69 (fun h69 => ?_) (fun h69 => ?_)
          · exact absurd rfl h69
          · refine zx_ic C d_Txt_passPart_72 ?_
            exact zx_zret C hq (by decide) d_Txt_passPart_73 (⟨by rw [ev]; rfl, by rw [ev]⟩)
  have s63 : ∀ b : Int32, b = zB ((p < n ∧ c p = 44) ∧ 0 < nh ∧ nd < 5) → ZV G Y 0 0 63 [(2, .int (zB ((p < n ∧ c p = 59) ∧ nd = 0 ∧ nh < 6))), (1, .int (cdA c n p)), (0, .ref ta)] [.int b] (cw G ad I L g z QH QD RI RL ++ (tcl ta ad k st n (nI (p)) (nI (nh)) (nI (nd)) :: Z)) := by
    intro b hb
    subst hb
    refine zx_istore C d_Txt_passPart_63 (by decide) (lv1 := [(3, _), (2, _), (1, _), (0, _)]) rfl ?_
    exact zx_lv [0, 1, 2, 3] rfl fin
  have s36 : ∀ b : Int32, b = zB ((p < n ∧ c p = 59) ∧ nd = 0 ∧ nh < 6) → ZV G Y 0 0 36 [(1, .int (cdA c n p)), (0, .ref ta)] [.int b] (cw G ad I L g z QH QD RI RL ++ (tcl ta ad k st n (nI (p)) (nI (nh)) (nI (nd)) :: Z)) := by
    intro b hb
    subst hb
    refine zx_istore C d_Txt_passPart_36 (by decide) (lv1 := [(2, _), (1, _), (0, _)]) rfl ?_
    refine zx_iload C d_Txt_passPart_37 rfl ?_
    refine zx_ic C d_Txt_passPart_38 ?_
    refine zx_ic_ne C d_Txt_passPart_40 (fun h40 => ?_) (fun h40 => ?_)
    · have hb : (0 : Int32) = zB ((p < n ∧ c p = 44) ∧ 0 < nh ∧ nd < 5) := (zB_f (fun y => h40 ((cd_is (by decide)).mpr y.1))).symm
      refine zx_ic C d_Txt_passPart_62 ?_
      exact s63 _ hb
    · have h40 : cdA c n p = 44 := by first | exact h40 | exact Classical.byContradiction h40
      refine zx_aload C d_Txt_passPart_43 rfl ?_
      refine zx_get C f_Txt_25_8 d_Txt_passPart_44 23 zcw_t rfl ?_
      refine zx_if_le C d_Txt_passPart_47 (fun h47 => ?_) (fun h47 => ?_)
      · have hb : (0 : Int32) = zB ((p < n ∧ c p = 44) ∧ 0 < nh ∧ nd < 5) := (zB_f (fun y => by have := (nI_np (by omega)).mp h47; omega)).symm
        refine zx_ic C d_Txt_passPart_62 ?_
        exact s63 _ hb
      · refine zx_aload C d_Txt_passPart_50 rfl ?_
        refine zx_get C f_Txt_28_8 d_Txt_passPart_51 23 zcw_t rfl ?_
        refine zx_ic C d_Txt_passPart_54 ?_
        refine zx_ic_ge C d_Txt_passPart_55 (fun h55 => ?_) (fun h55 => ?_)
        · have hb : (0 : Int32) = zB ((p < n ∧ c p = 44) ∧ 0 < nh ∧ nd < 5) := (zB_f (fun y => by have := (nI_leI (a := 5) (by omega) (by omega)).mp h55; omega)).symm
          refine zx_ic C d_Txt_passPart_62 ?_
          exact s63 _ hb
        · have hb : (1 : Int32) = zB ((p < n ∧ c p = 44) ∧ 0 < nh ∧ nd < 5) := (zB_t ⟨(cd_is (by decide)).mp h40, Classical.byContradiction fun y => h47 ((nI_np (by omega)).mpr (by omega)), Classical.byContradiction fun y => h55 ((nI_leI (a := 5) (by omega) (by omega)).mpr (by omega))⟩).symm
          refine zx_ic C d_Txt_passPart_58 ?_
          refine zx_goto C d_Txt_passPart_59 ?_
          exact s63 _ hb
  refine zx_aload C d_Txt_passPart_0 rfl ?_
  refine zx_aload C d_Txt_passPart_1 rfl ?_
  refine zx_get C f_Txt_22_8 d_Txt_passPart_2 23 zcw_t rfl ?_
  refine zr_di (zr_V C l_Txt_31 d_Txt_passPart_5 (As := [_]) rfl rfl (Nat.le_of_ble_eq_true rfl) (c_Txt_codeAt G ad I L g z QH QD RI RL Z ta k st n hk sz hz hsz hn c hc _ _ _ (p) (by omega)) 23 zcw_t rfl ⟨Nat.le_of_ble_eq_true rfl, Nat.le_of_ble_eq_true rfl, Nat.le_of_ble_eq_true rfl, Nat.le_of_ble_eq_true rfl⟩) ?_
  refine zx_istore C d_Txt_passPart_8 (by decide) (lv1 := [(1, _), (0, _)]) rfl ?_
  refine zx_iload C d_Txt_passPart_9 rfl ?_
  refine zx_ic C d_Txt_passPart_10 ?_
  refine zx_ic_ne C d_Txt_passPart_12 (fun h12 => ?_) (fun h12 => ?_)
  · have hb : (0 : Int32) = zB ((p < n ∧ c p = 59) ∧ nd = 0 ∧ nh < 6) := (zB_f (fun y => h12 ((cd_is (by decide)).mpr y.1))).symm
    refine zx_ic C d_Txt_passPart_35 ?_
    exact s36 _ hb
  · have h12 : cdA c n p = 59 := by first | exact h12 | exact Classical.byContradiction h12
    refine zx_aload C d_Txt_passPart_15 rfl ?_
    refine zx_get C f_Txt_28_8 d_Txt_passPart_16 23 zcw_t rfl ?_
    refine zx_if_ne C d_Txt_passPart_19 (fun h19 => ?_) (fun h19 => ?_)
    · have hb : (0 : Int32) = zB ((p < n ∧ c p = 59) ∧ nd = 0 ∧ nh < 6) := (zB_f (fun y => h19 (by rw [y.2.1]; rfl))).symm
      refine zx_ic C d_Txt_passPart_35 ?_
      exact s36 _ hb
    · have h19 : nd = 0 := (nI_e0 (by omega)).mp (by first | exact h19 | exact Classical.byContradiction h19)
      refine zx_aload C d_Txt_passPart_22 rfl ?_
      refine zx_get C f_Txt_25_8 d_Txt_passPart_23 23 zcw_t rfl ?_
      refine zx_ic C d_Txt_passPart_26 ?_
      refine zx_ic_ge C d_Txt_passPart_28 (fun h28 => ?_) (fun h28 => ?_)
      · have hb : (0 : Int32) = zB ((p < n ∧ c p = 59) ∧ nd = 0 ∧ nh < 6) := (zB_f (fun y => by have := (nI_leI (a := 6) (by omega) (by omega)).mp h28; omega)).symm
        refine zx_ic C d_Txt_passPart_35 ?_
        exact s36 _ hb
      · have hb : (1 : Int32) = zB ((p < n ∧ c p = 59) ∧ nd = 0 ∧ nh < 6) := (zB_t ⟨(cd_is (by decide)).mp h12, h19, Classical.byContradiction fun y => h28 ((nI_leI (a := 6) (by omega) (by omega)).mpr (by omega))⟩).symm
        refine zx_ic C d_Txt_passPart_31 ?_
        refine zx_goto C d_Txt_passPart_32 ?_
        exact s36 _ hb
set_option maxHeartbeats 600000 in
set_option maxRecDepth 20000 in
theorem c_Txt_firstFault (G : ZG) (ad : Nat → Nat) (I : Nat → Int32) (L : Nat → Int64) (g z : Option Nat) (QH QD : Nat → Option Nat) (RI : Nat → Nat → Int32) (RL : Nat → Nat → Int64) (Z : va_W) (ta k st n : Nat) (hk : k < 4) (sz : Nat) (hz : I (5 + k) = nI sz) (hsz : sz ≤ 60) (hn : st + n ≤ sz) (c : Nat → Int32) (hc : ∀ j, j < n → RI k (st + j) = c j) : ZM G y_Txt_firstFault b_Txt_firstFault 3 (some .int) r_Txt_firstFault [.ref ta] (cw G ad I L g z QH QD RI RL ++ (tcl ta ad k st n (nI (0)) (nI (0)) (nI (0)) :: Z)) (zpi (fun r w => ∃ p nh nd : Nat, w = (cw G ad I L g z QH QD RI RL ++ (tcl ta ad k st n (nI (p)) (nI (nh)) (nI (nd)) :: Z)) ∧ ((∃ e, prs c n = (e, none) ∧ r = nI e) ∨ ∃ (e : Nat) (q : Nat → Nat → Nat), prs c n = (e, some (nh, nd, q)) ∧ tsp c n nh nd q ∧ r = -9))) := by
  refine ZM.of "SameTuesday$Text" "firstFault" rfl rfl (by decide) (Nat.le_of_ble_eq_true rfl) (fun Y C hq => ?_)
  change ZV G Y 0 0 0 [(0, .ref ta)] [] (cw G ad I L g z QH QD RI RL ++ (tcl ta ad k st n (nI (0)) (nI (0)) (nI (0)) :: Z))
  have s0 : ∀ (e p nh nd x : Nat), prs c n = (e, none) → e = p → ZV G Y 0 0 21 [(0, .ref ta), (1, .int 0), (2, .int (nI (x)))] [] (cw G ad I L g z QH QD RI RL ++ (tcl ta ad k st n (nI (p)) (nI (nh)) (nI (nd)) :: Z)) := by
    intro e p nh nd x he hep
    subst hep
    refine zx_iload C d_Txt_firstFault_21 rfl ?_
    refine zx_if_eq C d_Txt_firstFault_22 (fun h22 => ?_) (fun h22 => ?_)
    · refine zx_aload C d_Txt_firstFault_63 rfl ?_
      refine zx_get C f_Txt_22_8 d_Txt_firstFault_64 23 zcw_t rfl ?_
      exact zx_iret C hq d_Txt_firstFault_67 (⟨_, rfl, e, nh, nd, rfl, Or.inl ⟨e, he, rfl⟩⟩)
    · exact absurd rfl h22
  have lp : ∀ c2 nh nd q, nh + nd + c2 = 12 → 1 ≤ nh → nh ≤ 6 → nd ≤ 5 → prs c n = trem c n nh nd q → tsp c n nh nd q → ZV G Y 0 0 21 [(0, .ref ta), (1, .int 1), (2, .int (nI (nh + nd)))] [] (cw G ad I L g z QH QD RI RL ++ (tcl ta ad k st n (nI (tpl nh nd)) (nI (nh)) (nI (nd)) :: Z)) := by
    intro c2
    induction c2 with
    | zero =>
      intro nh nd q h1 h2 h3 h4 _ _
      exfalso; omega
    | succ c2 ih =>
      intro nh nd q h1 h2 h3 h4 hpr hts2
      have htp : tpl nh nd ≤ 62 := by unfold tpl; omega
      refine zx_iload C d_Txt_firstFault_21 rfl ?_
      refine zx_if_eq C d_Txt_firstFault_22 (fun h22 => ?_) (fun h22 => ?_)
      · exact absurd h22 (by decide)
      · refine zx_iload C d_Txt_firstFault_25 rfl ?_
        refine zx_ic C d_Txt_firstFault_26 ?_
        refine zx_ic_gt C d_Txt_firstFault_28 (fun h28 => ?_) (fun h28 => ?_)
        · exact absurd ((nI_ltI (a := 11) (by omega) (by omega)).mp h28) (by omega)
        · refine zx_aload C d_Txt_firstFault_31 rfl ?_
          refine zx_get C f_Txt_22_8 d_Txt_firstFault_32 23 zcw_t rfl ?_
          refine zx_aload C d_Txt_firstFault_35 rfl ?_
          refine zx_get C f_Txt_19_8 d_Txt_firstFault_36 23 zcw_t rfl ?_
          refine zx_ic_ne C d_Txt_firstFault_39 (fun h39 => ?_) (fun h39 => ?_)
          · have hne : ¬ tpl nh nd = n := fun y => h39 (congrArg nI y)
            refine zx_aload C d_Txt_firstFault_52 rfl ?_
            refine zr_di (zr_V C l_Txt_35 d_Txt_firstFault_53 (As := []) rfl rfl (Nat.le_of_ble_eq_true rfl) (c_Txt_passPart G ad I L g z QH QD RI RL Z ta k st n hk sz hz hsz hn c hc (tpl nh nd) nh nd (by unfold tpl; omega) (by omega) (by omega)) 23 zcw_t rfl ⟨Nat.le_of_ble_eq_true rfl, Nat.le_of_ble_eq_true rfl, Nat.le_of_ble_eq_true rfl, Nat.le_of_ble_eq_true rfl⟩) ?_
            by_cases hH : (tpl nh nd < n ∧ c (tpl nh nd) = 59) ∧ nd = 0 ∧ nh < 6
            · obtain ⟨hH1, rfl, hH3⟩ := hH
              rw [trem_H hH1 hH3] at hpr
              cases hr : rdH c n (tpl nh 0 + 1) with
              | mk p1 ox =>
                rw [hr] at hpr
                cases ox with
                | none =>
                  rw [pp_Hn ⟨hH1, rfl, hH3⟩ hr, zB_f (by simp)]
                  refine zx_istore C d_Txt_firstFault_56 (by decide) (lv1 := [(1, _), (0, _), (2, _)]) rfl ?_
                  refine zx_iinc C d_Txt_firstFault_57 (by decide) rfl (lv1 := [(2, _), (1, _), (0, _)]) rfl ?_
                  refine zx_goto C d_Txt_firstFault_60 ?_
                  rw [show (1 : Int32) = nI 1 from rfl, nI_add]
                  exact zx_lv [0, 1, 2] rfl (s0 p1 p1 nh 0 (nh + 0 + 1) hpr rfl)
                | some x =>
                  rw [pp_Hs ⟨hH1, rfl, hH3⟩ hr, zB_t rfl, rdH_p hr]
                  refine zx_istore C d_Txt_firstFault_56 (by decide) (lv1 := [(1, _), (0, _), (2, _)]) rfl ?_
                  refine zx_iinc C d_Txt_firstFault_57 (by decide) rfl (lv1 := [(2, _), (1, _), (0, _)]) rfl ?_
                  refine zx_goto C d_Txt_firstFault_60 ?_
                  rw [show (1 : Int32) = nI 1 from rfl, nI_add]
                  have k1 := ih (nh + 1) 0 (put4 q 0 nh x) (by omega) (by omega) (by omega) (by omega) hpr (tsp_H hts2 hr)
                  rw [show tpl (nh + 1) 0 = tpl nh 0 + 1 + 5 by unfold tpl; omega, show nh + 1 + 0 = nh + 0 + 1 by omega] at k1
                  exact zx_lv [0, 1, 2] rfl k1
            · by_cases hD : (tpl nh nd < n ∧ c (tpl nh nd) = 44) ∧ 0 < nh ∧ nd < 5
              · rw [trem_D hD.1 hD.2.2] at hpr
                cases hr : rdD c n (tpl nh nd + 1) with
                | mk p1 ox =>
                  rw [hr] at hpr
                  cases ox with
                  | none =>
                    rw [pp_Dn hD hr, zB_f (by simp)]
                    refine zx_istore C d_Txt_firstFault_56 (by decide) (lv1 := [(1, _), (0, _), (2, _)]) rfl ?_
                    refine zx_iinc C d_Txt_firstFault_57 (by decide) rfl (lv1 := [(2, _), (1, _), (0, _)]) rfl ?_
                    refine zx_goto C d_Txt_firstFault_60 ?_
                    rw [show (1 : Int32) = nI 1 from rfl, nI_add]
                    exact zx_lv [0, 1, 2] rfl (s0 p1 p1 nh nd (nh + nd + 1) hpr rfl)
                  | some x =>
                    rw [pp_Ds hD hr, zB_t rfl, rdD_p hr]
                    refine zx_istore C d_Txt_firstFault_56 (by decide) (lv1 := [(1, _), (0, _), (2, _)]) rfl ?_
                    refine zx_iinc C d_Txt_firstFault_57 (by decide) rfl (lv1 := [(2, _), (1, _), (0, _)]) rfl ?_
                    refine zx_goto C d_Txt_firstFault_60 ?_
                    rw [show (1 : Int32) = nI 1 from rfl, nI_add]
                    have k1 := ih nh (nd + 1) (put4 q 4 nd x) (by omega) (by omega) (by omega) (by omega) hpr (tsp_D hts2 hr)
                    rw [show tpl nh (nd + 1) = tpl nh nd + 1 + 4 by unfold tpl; omega, show nh + (nd + 1) = nh + nd + 1 by omega] at k1
                    exact zx_lv [0, 1, 2] rfl k1
              · rw [trem_stop hH (fun y => hD ⟨y.1, by omega, y.2⟩), if_neg hne] at hpr
                rw [pp_0 hH hD, zB_f (by simp)]
                refine zx_istore C d_Txt_firstFault_56 (by decide) (lv1 := [(1, _), (0, _), (2, _)]) rfl ?_
                refine zx_iinc C d_Txt_firstFault_57 (by decide) rfl (lv1 := [(2, _), (1, _), (0, _)]) rfl ?_
                refine zx_goto C d_Txt_firstFault_60 ?_
                rw [show (1 : Int32) = nI 1 from rfl, nI_add]
                exact zx_lv [0, 1, 2] rfl (s0 (tpl nh nd) (tpl nh nd) nh nd (nh + nd + 1) hpr rfl)
          · have he : tpl nh nd = n := (nI_eqz (by omega) (by omega)).mp (by first | exact h39 | exact Classical.byContradiction h39)
            have ev : prs c n = (tpl nh nd, some (nh, nd, q)) := by rw [hpr, trem_stop (fun y => by omega) (fun y => by omega), if_pos he]
            refine zx_aload C d_Txt_firstFault_42 rfl ?_
            refine zx_get C f_Txt_25_8 d_Txt_firstFault_43 23 zcw_t rfl ?_
            refine zx_if_le C d_Txt_firstFault_46 (fun h46 => ?_) (fun h46 => ?_)
            · exact absurd ((nI_np (by omega)).mp h46) (by omega)
            · refine zx_ic C d_Txt_firstFault_49 ?_
              exact zx_iret C hq d_Txt_firstFault_51 (⟨_, rfl, tpl nh nd, nh, nd, rfl, Or.inr ⟨tpl nh nd, q, ev, hts2, rfl⟩⟩)
  refine zx_aload C d_Txt_firstFault_0 rfl ?_
  refine zx_ic C d_Txt_firstFault_1 ?_
  refine zr_di (zr_V C l_Txt_31 d_Txt_firstFault_2 (As := [_]) rfl rfl (Nat.le_of_ble_eq_true rfl) (c_Txt_codeAt G ad I L g z QH QD RI RL Z ta k st n hk sz hz hsz hn c hc _ _ _ (0) (by decide)) 23 zcw_t rfl ⟨Nat.le_of_ble_eq_true rfl, Nat.le_of_ble_eq_true rfl, Nat.le_of_ble_eq_true rfl, Nat.le_of_ble_eq_true rfl⟩) ?_
  refine zx_ic C d_Txt_firstFault_5 ?_
  refine zx_ic_eq C d_Txt_firstFault_7 (fun h7 => ?_) (fun h7 => ?_)
  · have h0 : 0 < n ∧ c 0 = 115 := (cd_is (by decide)).mp (by first | exact h7 | exact Classical.byContradiction h7)
    refine zx_aload C d_Txt_firstFault_12 rfl ?_
    refine zx_ic C d_Txt_firstFault_13 ?_
    refine zx_put C p_Txt_22_8 d_Txt_firstFault_14 23 zcw_t zb_fit_i (Nat.le_of_ble_eq_true rfl) zcs_t_3 ?_
    refine zx_ic C d_Txt_firstFault_17 ?_
    refine zx_istore C d_Txt_firstFault_18 (by decide) (lv1 := [(1, _), (0, _)]) rfl ?_
    refine zx_ic C d_Txt_firstFault_19 ?_
    refine zx_istore C d_Txt_firstFault_20 (by decide) (lv1 := [(2, _), (1, _), (0, _)]) rfl ?_
    refine zx_iload C d_Txt_firstFault_21 rfl ?_
    refine zx_if_eq C d_Txt_firstFault_22 (fun h22 => ?_) (fun h22 => ?_)
    · exact absurd h22 (by decide)
    · refine zx_iload C d_Txt_firstFault_25 rfl ?_
      refine zx_ic C d_Txt_firstFault_26 ?_
      refine zx_ic_gt C d_Txt_firstFault_28 (fun h28 => ?_) (fun h28 => ?_)
      · exact absurd h28 (by decide)
      · refine zx_aload C d_Txt_firstFault_31 rfl ?_
        refine zx_get C f_Txt_22_8 d_Txt_firstFault_32 23 zcw_t rfl ?_
        refine zx_aload C d_Txt_firstFault_35 rfl ?_
        refine zx_get C f_Txt_19_8 d_Txt_firstFault_36 23 zcw_t rfl ?_
        refine zx_ic_ne C d_Txt_firstFault_39 (fun h39 => ?_) (fun h39 => ?_)
        · refine zx_aload C d_Txt_firstFault_52 rfl ?_
          refine zr_di (zr_V C l_Txt_35 d_Txt_firstFault_53 (As := []) rfl rfl (Nat.le_of_ble_eq_true rfl) (c_Txt_passPart G ad I L g z QH QD RI RL Z ta k st n hk sz hz hsz hn c hc 1 0 0 (by omega) (by omega) (by omega)) 23 zcw_t rfl ⟨Nat.le_of_ble_eq_true rfl, Nat.le_of_ble_eq_true rfl, Nat.le_of_ble_eq_true rfl, Nat.le_of_ble_eq_true rfl⟩) ?_
          by_cases hH : 1 < n ∧ c 1 = 59
          · skip
            cases hr : rdH c n 2 with
            | mk p1 ox =>
              cases ox with
              | none =>
                rw [pp_Hn ⟨hH, rfl, by decide⟩ hr, zB_f (by simp)]
                refine zx_istore C d_Txt_firstFault_56 (by decide) (lv1 := [(1, _), (2, _), (0, _)]) rfl ?_
                refine zx_iinc C d_Txt_firstFault_57 (by decide) rfl (lv1 := [(2, _), (1, _), (0, _)]) rfl ?_
                refine zx_goto C d_Txt_firstFault_60 ?_
                rw [show (1 : Int32) = nI 1 from rfl, show (0 : Int32) = nI 0 from rfl, nI_add]
                exact zx_lv [0, 1, 2] rfl (s0 p1 p1 0 0 (0 + 1) (by rw [prs_trem h0, if_neg (fun y => y hH), hr]) rfl)
              | some x =>
                rw [pp_Hs ⟨hH, rfl, by decide⟩ hr, zB_t rfl, rdH_p hr]
                refine zx_istore C d_Txt_firstFault_56 (by decide) (lv1 := [(1, _), (2, _), (0, _)]) rfl ?_
                refine zx_iinc C d_Txt_firstFault_57 (by decide) rfl (lv1 := [(2, _), (1, _), (0, _)]) rfl ?_
                refine zx_goto C d_Txt_firstFault_60 ?_
                rw [show (1 : Int32) = nI 1 from rfl, show (0 : Int32) = nI 0 from rfl, nI_add]
                exact zx_lv [0, 1, 2] rfl (lp 11 1 0 (put4 (fun _ _ => 0) 0 0 x) (by omega) (by omega) (by omega) (by omega) (by rw [prs_trem h0, if_neg (fun y => y hH), hr]) (tsp_H (nh := 0) (q := fun _ _ => 0) ⟨fun i hi => absurd hi (Nat.not_lt_zero i), fun i hi => absurd hi (Nat.not_lt_zero i)⟩ hr))
          · rw [pp_0 (fun y => hH y.1) (fun y => absurd y.2.1 (by decide)), zB_f (by simp)]
            refine zx_istore C d_Txt_firstFault_56 (by decide) (lv1 := [(1, _), (2, _), (0, _)]) rfl ?_
            refine zx_iinc C d_Txt_firstFault_57 (by decide) rfl (lv1 := [(2, _), (1, _), (0, _)]) rfl ?_
            refine zx_goto C d_Txt_firstFault_60 ?_
            rw [show (1 : Int32) = nI 1 from rfl, show (0 : Int32) = nI 0 from rfl, nI_add]
            exact zx_lv [0, 1, 2] rfl (s0 1 1 0 0 (0 + 1) (by rw [prs_trem h0, if_pos hH]) rfl)
        · refine zx_aload C d_Txt_firstFault_42 rfl ?_
          refine zx_get C f_Txt_25_8 d_Txt_firstFault_43 23 zcw_t rfl ?_
          refine zx_if_le C d_Txt_firstFault_46 (fun h46 => ?_) (fun h46 => ?_)
          · refine zx_aload C d_Txt_firstFault_52 rfl ?_
            refine zr_di (zr_V C l_Txt_35 d_Txt_firstFault_53 (As := []) rfl rfl (Nat.le_of_ble_eq_true rfl) (c_Txt_passPart G ad I L g z QH QD RI RL Z ta k st n hk sz hz hsz hn c hc 1 0 0 (by omega) (by omega) (by omega)) 23 zcw_t rfl ⟨Nat.le_of_ble_eq_true rfl, Nat.le_of_ble_eq_true rfl, Nat.le_of_ble_eq_true rfl, Nat.le_of_ble_eq_true rfl⟩) ?_
            by_cases hH : 1 < n ∧ c 1 = 59
            · skip
              cases hr : rdH c n 2 with
              | mk p1 ox =>
                cases ox with
                | none =>
                  rw [pp_Hn ⟨hH, rfl, by decide⟩ hr, zB_f (by simp)]
                  refine zx_istore C d_Txt_firstFault_56 (by decide) (lv1 := [(1, _), (2, _), (0, _)]) rfl ?_
                  refine zx_iinc C d_Txt_firstFault_57 (by decide) rfl (lv1 := [(2, _), (1, _), (0, _)]) rfl ?_
                  refine zx_goto C d_Txt_firstFault_60 ?_
                  rw [show (1 : Int32) = nI 1 from rfl, show (0 : Int32) = nI 0 from rfl, nI_add]
                  exact zx_lv [0, 1, 2] rfl (s0 p1 p1 0 0 (0 + 1) (by rw [prs_trem h0, if_neg (fun y => y hH), hr]) rfl)
                | some x =>
                  rw [pp_Hs ⟨hH, rfl, by decide⟩ hr, zB_t rfl, rdH_p hr]
                  refine zx_istore C d_Txt_firstFault_56 (by decide) (lv1 := [(1, _), (2, _), (0, _)]) rfl ?_
                  refine zx_iinc C d_Txt_firstFault_57 (by decide) rfl (lv1 := [(2, _), (1, _), (0, _)]) rfl ?_
                  refine zx_goto C d_Txt_firstFault_60 ?_
                  rw [show (1 : Int32) = nI 1 from rfl, show (0 : Int32) = nI 0 from rfl, nI_add]
                  exact zx_lv [0, 1, 2] rfl (lp 11 1 0 (put4 (fun _ _ => 0) 0 0 x) (by omega) (by omega) (by omega) (by omega) (by rw [prs_trem h0, if_neg (fun y => y hH), hr]) (tsp_H (nh := 0) (q := fun _ _ => 0) ⟨fun i hi => absurd hi (Nat.not_lt_zero i), fun i hi => absurd hi (Nat.not_lt_zero i)⟩ hr))
            · rw [pp_0 (fun y => hH y.1) (fun y => absurd y.2.1 (by decide)), zB_f (by simp)]
              refine zx_istore C d_Txt_firstFault_56 (by decide) (lv1 := [(1, _), (2, _), (0, _)]) rfl ?_
              refine zx_iinc C d_Txt_firstFault_57 (by decide) rfl (lv1 := [(2, _), (1, _), (0, _)]) rfl ?_
              refine zx_goto C d_Txt_firstFault_60 ?_
              rw [show (1 : Int32) = nI 1 from rfl, show (0 : Int32) = nI 0 from rfl, nI_add]
              exact zx_lv [0, 1, 2] rfl (s0 1 1 0 0 (0 + 1) (by rw [prs_trem h0, if_pos hH]) rfl)
          · exact absurd (Int32.le_refl _) h46
  · have ev : prs c n = (0, none) := by rw [prs, if_pos (fun y => h7 ((cd_is (by decide)).mpr y))]
    refine zx_ic C d_Txt_firstFault_10 ?_
    exact zx_iret C hq d_Txt_firstFault_11 (⟨_, rfl, 0, 0, 0, rfl, Or.inl ⟨0, ev, rfl⟩⟩)
