theorem arrV_eq {cA : ClassId} {n : Nat} {f g : Nat → Value} (h : ∀ j, j < n → f j = g j) : arrV cA n f = arrV cA n g := by
  unfold arrV
  congr 1
  congr 1
  funext j
  exact h j.val j.isLt
theorem zx_ext {G : ZG} {Y : ZY} {kc ks pc : Nat} {lv : List (Nat × Value)} {st : List Value} {w : va_W} {i a n tix : Nat} {f g : Nat → Option Nat} {w1 : va_W} (hw : w[i]? = some (a, .inl (zc G tix, n, .inr (.inr (.inr (.inr f)))))) (hfg : ∀ j, j < n → f j = g j) (hs : w.set i (a, .inl (zc G tix, n, .inr (.inr (.inr (.inr g))))) = w1) (kk : ZV G Y kc ks pc lv st w1) : ZV G Y kc ks pc lv st w := by
  obtain ⟨l, D, cA, B, t⟩ := G
  obtain ⟨p, e, R, s, m, args, below, meth, c, Q, nL⟩ := Y
  subst hs
  intro H locs ls hP hD hS hl
  have key : ∀ (k : Nat) (q : Nat × va_E), (w.set i (a, .inl (zc (l, D, cA, B, t) tix, n, .inr (.inr (.inr (.inr g))))))[k]? = some q → ∃ q2 : Nat × va_E, w[k]? = some q2 ∧ q2.1 = q.1 := fun k q hk => by
    rw [List.getElem?_set] at hk
    by_cases e : i = k
    · subst e
      rw [if_pos rfl, if_pos (List.getElem?_eq_some_iff.mp hw).1] at hk
      cases hk
      exact ⟨_, hw, rfl⟩
    · rw [if_neg e] at hk
      exact ⟨q, hk, rfl⟩
  refine kk H locs ls (fun k q hk => ?_) ⟨fun i1 j1 p1 q1 h1 h2 h3 => ?_, fun k q hk => ?_⟩ hS hl
  · rw [List.getElem?_set] at hk
    by_cases e : i = k
    · subst e
      rw [if_pos rfl, if_pos (List.getElem?_eq_some_iff.mp hw).1] at hk
      cases hk
      have z := hP i _ hw
      show H[a]? = some (vp_cell _ _)
      rw [vp_cell_q, ← arrV_eq (f := fun j => va_rf (f j)) (fun j hj => by rw [hfg j hj])]
      exact z
    · rw [if_neg e] at hk
      exact hP k q hk
  · obtain ⟨q2, z1, z2⟩ := key _ _ h1
    obtain ⟨q3, z3, z4⟩ := key _ _ h2
    exact hD.1 i1 j1 q2 q3 z1 z3 (z2.trans (h3.trans z4.symm))
  · obtain ⟨q2, z1, z2⟩ := key _ _ hk
    rw [← z2]
    exact hD.2 k q2 z1
theorem in_at {w : va_W} {p : Nat} {c : Nat × va_E} {Y : va_W} (h : p < w.length) : ((w.set p c) ++ Y)[p]? = some c := by
  rw [List.getElem?_append_left (by rw [List.length_set]; exact h)]; exact sg_at h
theorem in_ss {w : va_W} {p : Nat} {a b : Nat × va_E} {Y : va_W} (h : p < w.length) : ((w.set p a) ++ Y).set p b = (w.set p b) ++ Y := by
  rw [set_left _ _ _ _ (by rw [List.length_set]; exact h), sg_ss]
theorem in_id {w : va_W} {p : Nat} {c : Nat × va_E} (h : w[p]? = some c) : w = (w.set p c) ++ [] := by rw [List.append_nil, sg_id h]
theorem in_y {w : va_W} {p : Nat} {c : Nat × va_E} {Y : va_W} {i : Nat} {y : Nat × va_E} (h : Y[i]? = some y) : ((w.set p c) ++ Y)[w.length + i]? = some y := by
  rw [List.getElem?_append_right (by rw [List.length_set]; omega), List.length_set, Nat.add_sub_cancel_left]; exact h
theorem in_ys {w : va_W} {p : Nat} {c y : Nat × va_E} {Y Y1 : va_W} {i : Nat} (h : Y.set i y = Y1) : ((w.set p c) ++ Y).set (w.length + i) y = (w.set p c) ++ Y1 := by
  have := set_app (w.set p c) Y i y
  rw [List.length_set] at this
  rw [this, h]
set_option maxHeartbeats 600000 in
set_option maxRecDepth 20000 in
theorem c_Sht_init (G : ZG) (w : va_W) (p q : Nat) (hw : w[p]? = some (q, .inr (7, [.null, .int 0, .int 0])))  : ZM G y_Sht_init b_Sht_init 1 none r_Sht_init [.ref q] w (zpv (fun w1 => ∃ a7, w1 = (w.set p (q, .inr (7, [.ref a7, .int (-1), .int 0]))) ++ [(a7, .inl (zc G 0, 60, .inl (fun _ => 0)))])) := by
  refine ZM.of "SameTuesday$Sheet" "<init>" rfl rfl (by decide) (Nat.le_of_ble_eq_true rfl) (fun Y C hq => ?_)
  change ZV G Y 0 0 0 [(0, .ref q)] [] w
  have hl := sg_len hw
  refine zx_eq rfl rfl (in_id hw) ?_
  refine zx_aload C d_Sht_init_0 rfl ?_
  refine zx_obj C ob_Sht_3 ob_i ob_c d_Sht_init_1 (Nat.le_of_ble_eq_true rfl) (Nat.le_of_ble_eq_true rfl) ?_
  refine zx_aload C d_Sht_init_4 rfl ?_
  refine zx_ic C d_Sht_init_5 ?_
  refine zx_newa C ar_int rfl 0 rfl (a0 := (60, .inl (fun _ => 0))) (fun _ => rfl) (by decide) (by decide) (by decide) d_Sht_init_7 (Nat.le_of_ble_eq_true rfl) (Nat.le_of_ble_eq_true rfl) (fun a7 => ?_)
  refine zx_eq rfl rfl (List.append_assoc _ _ _) ?_
  refine zx_putF C rfl p_Sht_9_7 d_Sht_init_9 p (in_at hl) zb_fit_ar (Nat.le_of_ble_eq_true rfl) (in_ss hl) ?_
  refine zx_aload C d_Sht_init_12 rfl ?_
  refine zx_ic C d_Sht_init_13 ?_
  refine zx_put C p_Sht_15_7 d_Sht_init_14 p (in_at hl) zb_fit_i (Nat.le_of_ble_eq_true rfl) (in_ss hl) ?_
  refine zx_aload C d_Sht_init_17 rfl ?_
  refine zx_ic C d_Sht_init_18 ?_
  refine zx_put C p_Sht_19_7 d_Sht_init_19 p (in_at hl) zb_fit_i (Nat.le_of_ble_eq_true rfl) (in_ss hl) ?_
  exact zx_widen (kc1 := 1) (ks1 := 60) (by decide) (by decide) (zx_vret C hq d_Sht_init_22 ⟨rfl, a7, rfl⟩)
set_option maxHeartbeats 600000 in
set_option maxRecDepth 20000 in
theorem c_Law_init (G : ZG) (w : va_W) (p q : Nat) (hw : w[p]? = some (q, .inr (3, [.null, .int 0])))  : ZM G y_Law_init b_Law_init 1 none r_Law_init [.ref q] w (zpv (fun w1 => ∃ a7, w1 = (w.set p (q, .inr (3, [.ref a7, .int 0]))) ++ [(a7, .inl (zc G 0, 8, .inl (fun _ => 0)))])) := by
  refine ZM.of "SameTuesday$Law" "<init>" rfl rfl (by decide) (Nat.le_of_ble_eq_true rfl) (fun Y C hq => ?_)
  change ZV G Y 0 0 0 [(0, .ref q)] [] w
  have hl := sg_len hw
  refine zx_eq rfl rfl (in_id hw) ?_
  refine zx_aload C d_Law_init_0 rfl ?_
  refine zx_obj C ob_Law_3 ob_i ob_c d_Law_init_1 (Nat.le_of_ble_eq_true rfl) (Nat.le_of_ble_eq_true rfl) ?_
  refine zx_aload C d_Law_init_4 rfl ?_
  refine zx_ic C d_Law_init_5 ?_
  refine zx_newa C ar_int rfl 0 rfl (a0 := (8, .inl (fun _ => 0))) (fun _ => rfl) (by decide) (by decide) (by decide) d_Law_init_7 (Nat.le_of_ble_eq_true rfl) (Nat.le_of_ble_eq_true rfl) (fun a7 => ?_)
  refine zx_eq rfl rfl (List.append_assoc _ _ _) ?_
  refine zx_putF C rfl p_Law_9_3 d_Law_init_9 p (in_at hl) zb_fit_ar (Nat.le_of_ble_eq_true rfl) (in_ss hl) ?_
  refine zx_aload C d_Law_init_12 rfl ?_
  refine zx_ic C d_Law_init_13 ?_
  refine zx_put C p_Law_15_3 d_Law_init_14 p (in_at hl) zb_fit_i (Nat.le_of_ble_eq_true rfl) (in_ss hl) ?_
  exact zx_widen (kc1 := 1) (ks1 := 8) (by decide) (by decide) (zx_vret C hq d_Law_init_17 ⟨rfl, a7, rfl⟩)
set_option maxHeartbeats 600000 in
set_option maxRecDepth 20000 in
theorem c_Trc_init (G : ZG) (w : va_W) (p q : Nat) (hw : w[p]? = some (q, .inr (10, [.int 0])))  : ZM G y_Trc_init b_Trc_init 1 none r_Trc_init [.ref q] w (zpv (fun w1 => w1 = (w.set p (q, .inr (10, [.int 0]))) ++ [])) := by
  refine ZM.of "SameTuesday$Trace" "<init>" rfl rfl (by decide) (Nat.le_of_ble_eq_true rfl) (fun Y C hq => ?_)
  change ZV G Y 0 0 0 [(0, .ref q)] [] w
  have hl := sg_len hw
  refine zx_eq rfl rfl (in_id hw) ?_
  refine zx_aload C d_Trc_init_0 rfl ?_
  refine zx_obj C ob_Trc_1 ob_i ob_c d_Trc_init_1 (Nat.le_of_ble_eq_true rfl) (Nat.le_of_ble_eq_true rfl) ?_
  refine zx_aload C d_Trc_init_4 rfl ?_
  refine zx_ic C d_Trc_init_5 ?_
  refine zx_put C p_Trc_7_10 d_Trc_init_6 p (in_at hl) zb_fit_i (Nat.le_of_ble_eq_true rfl) (in_ss hl) ?_
  exact zx_widen (kc1 := 0) (ks1 := 0) (by decide) (by decide) (zx_vret C hq d_Trc_init_9 ⟨rfl, rfl⟩)
set_option maxHeartbeats 600000 in
set_option maxRecDepth 20000 in
theorem c_Life_init (G : ZG) (w : va_W) (p q : Nat) (hw : w[p]? = some (q, .inr (4, [.null, .null, .null, .int 0, .null, .long 0, .null, .int 0, .int 0, .int 0, .null, .int 0]))) (tw : Nat) : ZM G y_Life_init b_Life_init 2 none r_Life_init [.ref q, .ref tw] w (zpv (fun w1 => ∃ a12, ∃ a20, ∃ a33, w1 = (w.set p (q, .inr (4, [.ref tw, .ref a12, .ref a20, .int 0, .ref a33, .long 1, .null, .int 0, .int 0, .int (-9), .null, .int 0]))) ++ [(a12, .inl (zc G 0, 20, .inl (fun _ => 0))), (a20, .inl (zc G 0, 20, .inl (fun _ => 0))), (a33, .inl (zc G 2, 60, .inr (.inl (fun _ => 0))))])) := by
  refine ZM.of "SameTuesday$Life" "<init>" rfl rfl (by decide) (Nat.le_of_ble_eq_true rfl) (fun Y C hq => ?_)
  change ZV G Y 0 0 0 [(0, .ref q), (1, .ref tw)] [] w
  have hl := sg_len hw
  refine zx_eq rfl rfl (in_id hw) ?_
  refine zx_aload C d_Life_init_0 rfl ?_
  refine zx_obj C ob_Life_3 ob_i ob_c d_Life_init_1 (Nat.le_of_ble_eq_true rfl) (Nat.le_of_ble_eq_true rfl) ?_
  refine zx_aload C d_Life_init_4 rfl ?_
  refine zx_aload C d_Life_init_5 rfl ?_
  refine zx_putF C rfl p_Life_9_4 d_Life_init_6 p (in_at hl) zb_fit_r (Nat.le_of_ble_eq_true rfl) (in_ss hl) ?_
  refine zx_aload C d_Life_init_9 rfl ?_
  refine zx_ic C d_Life_init_10 ?_
  refine zx_newa C ar_int rfl 0 rfl (a0 := (20, .inl (fun _ => 0))) (fun _ => rfl) (by decide) (by decide) (by decide) d_Life_init_12 (Nat.le_of_ble_eq_true rfl) (Nat.le_of_ble_eq_true rfl) (fun a12 => ?_)
  refine zx_eq rfl rfl (List.append_assoc _ _ _) ?_
  refine zx_putF C rfl p_Life_15_4 d_Life_init_14 p (in_at hl) zb_fit_ar (Nat.le_of_ble_eq_true rfl) (in_ss hl) ?_
  refine zx_aload C d_Life_init_17 rfl ?_
  refine zx_ic C d_Life_init_18 ?_
  refine zx_newa C ar_int rfl 0 rfl (a0 := (20, .inl (fun _ => 0))) (fun _ => rfl) (by decide) (by decide) (by decide) d_Life_init_20 (Nat.le_of_ble_eq_true rfl) (Nat.le_of_ble_eq_true rfl) (fun a20 => ?_)
  refine zx_eq rfl rfl (List.append_assoc _ _ _) ?_
  refine zx_putF C rfl p_Life_19_4 d_Life_init_22 p (in_at hl) zb_fit_ar (Nat.le_of_ble_eq_true rfl) (in_ss hl) ?_
  refine zx_aload C d_Life_init_25 rfl ?_
  refine zx_ic C d_Life_init_26 ?_
  refine zx_put C p_Life_22_4 d_Life_init_27 p (in_at hl) zb_fit_i (Nat.le_of_ble_eq_true rfl) (in_ss hl) ?_
  refine zx_aload C d_Life_init_30 rfl ?_
  refine zx_ic C d_Life_init_31 ?_
  refine zx_newa C ar_long rfl 2 rfl (a0 := (60, .inr (.inl (fun _ => 0)))) (fun _ => rfl) (by decide) (by decide) (by decide) d_Life_init_33 (Nat.le_of_ble_eq_true rfl) (Nat.le_of_ble_eq_true rfl) (fun a33 => ?_)
  refine zx_eq rfl rfl (List.append_assoc _ _ _) ?_
  refine zx_putF C rfl p_Life_26_4 d_Life_init_35 p (in_at hl) zb_fit_ar (Nat.le_of_ble_eq_true rfl) (in_ss hl) ?_
  refine zx_aload C d_Life_init_38 rfl ?_
  refine zx_lc C d_Life_init_39 ?_
  refine zx_put C p_Life_30_4 d_Life_init_40 p (in_at hl) zb_fit_l (Nat.le_of_ble_eq_true rfl) (in_ss hl) ?_
  refine zx_aload C d_Life_init_43 rfl ?_
  refine zx_null C d_Life_init_44 ?_
  refine zx_put C p_Life_34_4 d_Life_init_45 p (in_at hl) zb_fit_n (Nat.le_of_ble_eq_true rfl) (in_ss hl) ?_
  refine zx_aload C d_Life_init_48 rfl ?_
  refine zx_ic C d_Life_init_49 ?_
  refine zx_put C p_Life_38_4 d_Life_init_50 p (in_at hl) zb_fit_i (Nat.le_of_ble_eq_true rfl) (in_ss hl) ?_
  refine zx_aload C d_Life_init_53 rfl ?_
  refine zx_ic C d_Life_init_54 ?_
  refine zx_put C p_Life_41_4 d_Life_init_55 p (in_at hl) zb_fit_i (Nat.le_of_ble_eq_true rfl) (in_ss hl) ?_
  refine zx_aload C d_Life_init_58 rfl ?_
  refine zx_ic C d_Life_init_59 ?_
  refine zx_put C p_Life_44_4 d_Life_init_61 p (in_at hl) zb_fit_i (Nat.le_of_ble_eq_true rfl) (in_ss hl) ?_
  refine zx_aload C d_Life_init_64 rfl ?_
  refine zx_null C d_Life_init_65 ?_
  refine zx_put C p_Life_47_4 d_Life_init_66 p (in_at hl) zb_fit_n (Nat.le_of_ble_eq_true rfl) (in_ss hl) ?_
  refine zx_aload C d_Life_init_69 rfl ?_
  refine zx_ic C d_Life_init_70 ?_
  refine zx_put C p_Life_50_4 d_Life_init_71 p (in_at hl) zb_fit_i (Nat.le_of_ble_eq_true rfl) (in_ss hl) ?_
  exact zx_widen (kc1 := 3) (ks1 := 100) (by decide) (by decide) (zx_vret C hq d_Life_init_74 ⟨rfl, a12, a20, a33, rfl⟩)
set_option maxHeartbeats 600000 in
set_option maxRecDepth 20000 in
theorem c_Rch_init (G : ZG) (w : va_W) (p q : Nat) (hw : w[p]? = some (q, .inr (6, [.null, .null, .null, .long 0, .int 0]))) (tw : Nat) : ZM G y_Rch_init b_Rch_init 2 none r_Rch_init [.ref q, .ref tw] w (zpv (fun w1 => ∃ a12, ∃ a20, w1 = (w.set p (q, .inr (6, [.ref tw, .ref a12, .ref a20, .long 1, .int 1]))) ++ [(a12, .inl (zc G 2, 60, .inr (.inl (fun _ => 0)))), (a20, .inl (zc G 2, 50, .inr (.inl (fun _ => 0))))])) := by
  refine ZM.of "SameTuesday$Reach" "<init>" rfl rfl (by decide) (Nat.le_of_ble_eq_true rfl) (fun Y C hq => ?_)
  change ZV G Y 0 0 0 [(0, .ref q), (1, .ref tw)] [] w
  have hl := sg_len hw
  refine zx_eq rfl rfl (in_id hw) ?_
  refine zx_aload C d_Rch_init_0 rfl ?_
  refine zx_obj C ob_Rch_3 ob_i ob_c d_Rch_init_1 (Nat.le_of_ble_eq_true rfl) (Nat.le_of_ble_eq_true rfl) ?_
  refine zx_aload C d_Rch_init_4 rfl ?_
  refine zx_aload C d_Rch_init_5 rfl ?_
  refine zx_putF C rfl p_Rch_9_6 d_Rch_init_6 p (in_at hl) zb_fit_r (Nat.le_of_ble_eq_true rfl) (in_ss hl) ?_
  refine zx_aload C d_Rch_init_9 rfl ?_
  refine zx_ic C d_Rch_init_10 ?_
  refine zx_newa C ar_long rfl 2 rfl (a0 := (60, .inr (.inl (fun _ => 0)))) (fun _ => rfl) (by decide) (by decide) (by decide) d_Rch_init_12 (Nat.le_of_ble_eq_true rfl) (Nat.le_of_ble_eq_true rfl) (fun a12 => ?_)
  refine zx_eq rfl rfl (List.append_assoc _ _ _) ?_
  refine zx_putF C rfl p_Rch_15_6 d_Rch_init_14 p (in_at hl) zb_fit_ar (Nat.le_of_ble_eq_true rfl) (in_ss hl) ?_
  refine zx_aload C d_Rch_init_17 rfl ?_
  refine zx_ic C d_Rch_init_18 ?_
  refine zx_newa C ar_long rfl 2 rfl (a0 := (50, .inr (.inl (fun _ => 0)))) (fun _ => rfl) (by decide) (by decide) (by decide) d_Rch_init_20 (Nat.le_of_ble_eq_true rfl) (Nat.le_of_ble_eq_true rfl) (fun a20 => ?_)
  refine zx_eq rfl rfl (List.append_assoc _ _ _) ?_
  refine zx_putF C rfl p_Rch_19_6 d_Rch_init_22 p (in_at hl) zb_fit_ar (Nat.le_of_ble_eq_true rfl) (in_ss hl) ?_
  refine zx_aload C d_Rch_init_25 rfl ?_
  refine zx_lc C d_Rch_init_26 ?_
  refine zx_put C p_Rch_22_6 d_Rch_init_27 p (in_at hl) zb_fit_l (Nat.le_of_ble_eq_true rfl) (in_ss hl) ?_
  refine zx_aload C d_Rch_init_30 rfl ?_
  refine zx_ic C d_Rch_init_31 ?_
  refine zx_put C p_Rch_26_6 d_Rch_init_32 p (in_at hl) (zb_fit_z (by decide)) (Nat.le_of_ble_eq_true rfl) (in_ss hl) ?_
  exact zx_widen (kc1 := 2) (ks1 := 110) (by decide) (by decide) (zx_vret C hq d_Rch_init_35 ⟨rfl, a12, a20, rfl⟩)
set_option maxHeartbeats 600000 in
set_option maxRecDepth 20000 in
theorem c_Twn_init (G : ZG) (w : va_W) (p q : Nat) (hw : w[p]? = some (q, .inr (9, [.null, .null, .int 0, .int 0, .int 0, .long 0]))) : ZM G y_Twn_init b_Twn_init 1 none r_Twn_init [.ref q] w (zpv (fun w1 => ∃ a7, ∃ a15, w1 = (w.set p (q, .inr (9, [.ref a7, .ref a15, .int 0, .int 0, .int 0, .long 0]))) ++ [(a7, .inl (zc G 4, 6, .inr (.inr (.inr (.inr (fun _ => none)))))), (a15, .inl (zc G 5, 5, .inr (.inr (.inr (.inr (fun _ => none))))))])) := by
  refine ZM.of "SameTuesday$Town" "<init>" rfl rfl (by decide) (Nat.le_of_ble_eq_true rfl) (fun Y C hq => ?_)
  change ZV G Y 0 0 0 [(0, .ref q)] [] w
  have hl := sg_len hw
  refine zx_eq rfl rfl (in_id hw) ?_
  refine zx_aload C d_Twn_init_0 rfl ?_
  refine zx_obj C ob_Twn_3 ob_i ob_c d_Twn_init_1 (Nat.le_of_ble_eq_true rfl) (Nat.le_of_ble_eq_true rfl) ?_
  refine zx_aload C d_Twn_init_4 rfl ?_
  refine zx_ic C d_Twn_init_5 ?_
  refine zx_newq C (zb_mem 99 rfl rfl) (List.mem_of_getElem? (i := 1) rfl) 4 rfl (N := 6) (by decide) (by decide) (by decide) d_Twn_init_7 (Nat.le_of_ble_eq_true rfl) (Nat.le_of_ble_eq_true rfl) (fun a7 => ?_)
  refine zx_eq rfl rfl (List.append_assoc _ _ _) ?_
  refine zx_putF C rfl p_Twn_11_9 d_Twn_init_10 p (in_at hl) zb_fit_ar (Nat.le_of_ble_eq_true rfl) (in_ss hl) ?_
  refine zx_aload C d_Twn_init_13 rfl ?_
  refine zx_ic C d_Twn_init_14 ?_
  refine zx_newq C (zb_mem 101 rfl rfl) (List.mem_of_getElem? (i := 2) rfl) 5 rfl (N := 5) (by decide) (by decide) (by decide) d_Twn_init_15 (Nat.le_of_ble_eq_true rfl) (Nat.le_of_ble_eq_true rfl) (fun a15 => ?_)
  refine zx_eq rfl rfl (List.append_assoc _ _ _) ?_
  refine zx_putF C rfl p_Twn_19_9 d_Twn_init_18 p (in_at hl) zb_fit_ar (Nat.le_of_ble_eq_true rfl) (in_ss hl) ?_
  refine zx_aload C d_Twn_init_21 rfl ?_
  refine zx_ic C d_Twn_init_22 ?_
  refine zx_put C p_Twn_23_9 d_Twn_init_23 p (in_at hl) zb_fit_i (Nat.le_of_ble_eq_true rfl) (in_ss hl) ?_
  refine zx_aload C d_Twn_init_26 rfl ?_
  refine zx_ic C d_Twn_init_27 ?_
  refine zx_put C p_Twn_27_9 d_Twn_init_28 p (in_at hl) zb_fit_i (Nat.le_of_ble_eq_true rfl) (in_ss hl) ?_
  refine zx_aload C d_Twn_init_31 rfl ?_
  refine zx_ic C d_Twn_init_32 ?_
  refine zx_put C p_Twn_30_9 d_Twn_init_33 p (in_at hl) zb_fit_i (Nat.le_of_ble_eq_true rfl) (in_ss hl) ?_
  refine zx_aload C d_Twn_init_36 rfl ?_
  refine zx_lc C d_Twn_init_37 ?_
  refine zx_put C p_Twn_33_9 d_Twn_init_38 p (in_at hl) zb_fit_l (Nat.le_of_ble_eq_true rfl) (in_ss hl) ?_
  exact zx_widen (kc1 := 2) (ks1 := 11) (by decide) (by decide) (zx_vret C hq d_Twn_init_41 ⟨rfl, a7, a15, rfl⟩)
def S0 : ZA := (0, 0, fun _ => -1, fun _ => 0, fun _ _ => 0, (0, 0, 0, fun _ _ => 0), 0, fun _ => 0)
theorem aok_0 : aok S0 := ⟨fun k _ => ⟨Or.inl rfl, Nat.zero_le _, fun _ => rfl⟩, ⟨Nat.zero_le _, Nat.zero_le _, Nat.zero_le _, fun h hh => absurd hh (Nat.not_lt_zero h), fun d hd => absurd hd (Nat.not_lt_zero d)⟩, fun z => absurd z (by show ¬ 1 ≤ 0; omega), Nat.zero_le _, fun j hj => absurd hj (Nat.not_lt_zero j)⟩
theorem mrp_00 : mrp S0 (fun k => if k = 25 then -9 else 0) (fun k => if k = 2 then (upd (upd (upd (upd (fun _ => 0) 0 (-9)) 1 (-9)) 2 (-9)) 3 (-9)) else fun _ => 0) := by
  refine ⟨aok_0, rfl, rfl, fun k hk => ⟨?_, fun z => absurd rfl z, fun i _ => rfl⟩, ⟨aok_0.2.1, rfl, rfl, rfl, fun h hh => absurd hh (Nat.not_lt_zero h), fun d hd => absurd hd (Nat.not_lt_zero d)⟩, rfl, rfl, fun j hj => absurd hj (Nat.not_lt_zero j)⟩
  match k, hk with
  | 0, _ => rfl
  | 1, _ => rfl
  | 2, _ => rfl
  | 3, _ => rfl
set_option maxHeartbeats 4000000 in
set_option maxRecDepth 20000 in
theorem c_Mod_init (G : ZG) (w : va_W) (p q : Nat) (hw : w[p]? = some (q, .inr (12, [.int 0, .int 0, .null, .null, .null, .int 0, .int 0, .int 0, .null, .null, .null, .null, .null, .null, .null, .null, .int 0, .int 0, .int 0, .null, .null, .int 0, .null, .null, .null, .int 0, .int 0, .int 0, .null, .null, .null, .null, .int 0, .null]))) : ZM G y_Mod_init b_Mod_init 1 none r_Mod_init [.ref q] w (zpv (fun w1 => ∃ (ad : Nat → Nat) (F : Nat → Int32) (R : Nat → Nat → Int32), mrp S0 F R ∧ ∃ Y : va_W, mw G q ad F R = (q, .inr (12, mfs ad F)) :: Y ∧ w1 = (w.set p (q, .inr (12, mfs ad F))) ++ Y)) := by
  refine ZM.of "SameTuesdayModel" "<init>" rfl rfl (by decide) (Nat.le_of_ble_eq_true rfl) (fun Y C hq => ?_)
  change ZV G Y 0 0 0 [(0, .ref q)] [] w
  have hl := sg_len hw
  refine zx_eq rfl rfl (in_id hw) ?_
  refine zx_aload C d_Mod_init_0 rfl ?_
  refine zx_obj C ob_Mod_1 ob_i ob_c d_Mod_init_1 (Nat.le_of_ble_eq_true rfl) (Nat.le_of_ble_eq_true rfl) ?_
  refine zx_aload C d_Mod_init_4 rfl ?_
  refine zx_ic C d_Mod_init_5 ?_
  refine zx_newa C ar_int rfl 0 rfl (a0 := (4, .inl (fun _ => 0))) (fun _ => rfl) (by decide) (by decide) (by decide) d_Mod_init_6 (Nat.le_of_ble_eq_true rfl) (Nat.le_of_ble_eq_true rfl) (fun a6 => ?_)
  refine zx_eq rfl rfl (w1 := ((w.set p (q, .inr (12, [.int 0, .int 0, .null, .null, .null, .int 0, .int 0, .int 0, .null, .null, .null, .null, .null, .null, .null, .null, .int 0, .int 0, .int 0, .null, .null, .int 0, .null, .null, .null, .int 0, .int 0, .int 0, .null, .null, .null, .null, .int 0, .null]))) ++ [(a6, .inl (zc G 0, 4, .inl (fun _ => 0)))] : va_W)) (List.append_assoc _ _ _) ?_
  refine zx_dup C rfl d_Mod_init_8 ?_
  refine zx_ic C d_Mod_init_9 ?_
  refine zx_ic C d_Mod_init_10 ?_
  refine zx_iast C d_Mod_init_12 (w.length + 0) (in_y rfl) 0 rfl (by decide) (by decide) (in_ys rfl) ?_
  refine zx_eq rfl rfl (w1 := ((w.set p (q, .inr (12, [.int 0, .int 0, .null, .null, .null, .int 0, .int 0, .int 0, .null, .null, .null, .null, .null, .null, .null, .null, .int 0, .int 0, .int 0, .null, .null, .int 0, .null, .null, .null, .int 0, .int 0, .int 0, .null, .null, .null, .null, .int 0, .null]))) ++ [(a6, .inl (zc G 0, 4, .inl (upd (fun _ => 0) 0 (-9))))] : va_W)) rfl ?_
  refine zx_dup C rfl d_Mod_init_13 ?_
  refine zx_ic C d_Mod_init_14 ?_
  refine zx_ic C d_Mod_init_15 ?_
  refine zx_iast C d_Mod_init_17 (w.length + 0) (in_y rfl) 1 rfl (by decide) (by decide) (in_ys rfl) ?_
  refine zx_eq rfl rfl (w1 := ((w.set p (q, .inr (12, [.int 0, .int 0, .null, .null, .null, .int 0, .int 0, .int 0, .null, .null, .null, .null, .null, .null, .null, .null, .int 0, .int 0, .int 0, .null, .null, .int 0, .null, .null, .null, .int 0, .int 0, .int 0, .null, .null, .null, .null, .int 0, .null]))) ++ [(a6, .inl (zc G 0, 4, .inl (upd (upd (fun _ => 0) 0 (-9)) 1 (-9))))] : va_W)) rfl ?_
  refine zx_dup C rfl d_Mod_init_18 ?_
  refine zx_ic C d_Mod_init_19 ?_
  refine zx_ic C d_Mod_init_20 ?_
  refine zx_iast C d_Mod_init_22 (w.length + 0) (in_y rfl) 2 rfl (by decide) (by decide) (in_ys rfl) ?_
  refine zx_eq rfl rfl (w1 := ((w.set p (q, .inr (12, [.int 0, .int 0, .null, .null, .null, .int 0, .int 0, .int 0, .null, .null, .null, .null, .null, .null, .null, .null, .int 0, .int 0, .int 0, .null, .null, .int 0, .null, .null, .null, .int 0, .int 0, .int 0, .null, .null, .null, .null, .int 0, .null]))) ++ [(a6, .inl (zc G 0, 4, .inl (upd (upd (upd (fun _ => 0) 0 (-9)) 1 (-9)) 2 (-9))))] : va_W)) rfl ?_
  refine zx_dup C rfl d_Mod_init_23 ?_
  refine zx_ic C d_Mod_init_24 ?_
  refine zx_ic C d_Mod_init_25 ?_
  refine zx_iast C d_Mod_init_27 (w.length + 0) (in_y rfl) 3 rfl (by decide) (by decide) (in_ys rfl) ?_
  refine zx_eq rfl rfl (w1 := ((w.set p (q, .inr (12, [.int 0, .int 0, .null, .null, .null, .int 0, .int 0, .int 0, .null, .null, .null, .null, .null, .null, .null, .null, .int 0, .int 0, .int 0, .null, .null, .int 0, .null, .null, .null, .int 0, .int 0, .int 0, .null, .null, .null, .null, .int 0, .null]))) ++ [(a6, .inl (zc G 0, 4, .inl (upd (upd (upd (upd (fun _ => 0) 0 (-9)) 1 (-9)) 2 (-9)) 3 (-9))))] : va_W)) rfl ?_
  refine zx_putF C rfl p_Mod_9_12 d_Mod_init_28 p (in_at hl) zb_fit_ar (Nat.le_of_ble_eq_true rfl) (in_ss hl) ?_
  refine zx_eq rfl rfl (w1 := ((w.set p (q, .inr (12, [.int 0, .int 0, .ref a6, .null, .null, .int 0, .int 0, .int 0, .null, .null, .null, .null, .null, .null, .null, .null, .int 0, .int 0, .int 0, .null, .null, .int 0, .null, .null, .null, .int 0, .int 0, .int 0, .null, .null, .null, .null, .int 0, .null]))) ++ [(a6, .inl (zc G 0, 4, .inl (upd (upd (upd (upd (fun _ => 0) 0 (-9)) 1 (-9)) 2 (-9)) 3 (-9))))] : va_W)) rfl ?_
  refine zx_aload C d_Mod_init_31 rfl ?_
  refine zx_ic C d_Mod_init_32 ?_
  refine zx_newa C ar_int rfl 0 rfl (a0 := (4, .inl (fun _ => 0))) (fun _ => rfl) (by decide) (by decide) (by decide) d_Mod_init_33 (Nat.le_of_ble_eq_true rfl) (Nat.le_of_ble_eq_true rfl) (fun a33 => ?_)
  refine zx_eq rfl rfl (w1 := ((w.set p (q, .inr (12, [.int 0, .int 0, .ref a6, .null, .null, .int 0, .int 0, .int 0, .null, .null, .null, .null, .null, .null, .null, .null, .int 0, .int 0, .int 0, .null, .null, .int 0, .null, .null, .null, .int 0, .int 0, .int 0, .null, .null, .null, .null, .int 0, .null]))) ++ [(a6, .inl (zc G 0, 4, .inl (upd (upd (upd (upd (fun _ => 0) 0 (-9)) 1 (-9)) 2 (-9)) 3 (-9)))), (a33, .inl (zc G 0, 4, .inl (fun _ => 0)))] : va_W)) (List.append_assoc _ _ _) ?_
  refine zx_putF C rfl p_Mod_13_12 d_Mod_init_35 p (in_at hl) zb_fit_ar (Nat.le_of_ble_eq_true rfl) (in_ss hl) ?_
  refine zx_eq rfl rfl (w1 := ((w.set p (q, .inr (12, [.int 0, .int 0, .ref a6, .ref a33, .null, .int 0, .int 0, .int 0, .null, .null, .null, .null, .null, .null, .null, .null, .int 0, .int 0, .int 0, .null, .null, .int 0, .null, .null, .null, .int 0, .int 0, .int 0, .null, .null, .null, .null, .int 0, .null]))) ++ [(a6, .inl (zc G 0, 4, .inl (upd (upd (upd (upd (fun _ => 0) 0 (-9)) 1 (-9)) 2 (-9)) 3 (-9)))), (a33, .inl (zc G 0, 4, .inl (fun _ => 0)))] : va_W)) rfl ?_
  refine zx_aload C d_Mod_init_38 rfl ?_
  refine zx_ic C d_Mod_init_39 ?_
  refine zx_newa C ar_int rfl 0 rfl (a0 := (240, .inl (fun _ => 0))) (fun _ => rfl) (by decide) (by decide) (by decide) d_Mod_init_42 (Nat.le_of_ble_eq_true rfl) (Nat.le_of_ble_eq_true rfl) (fun a42 => ?_)
  refine zx_eq rfl rfl (w1 := ((w.set p (q, .inr (12, [.int 0, .int 0, .ref a6, .ref a33, .null, .int 0, .int 0, .int 0, .null, .null, .null, .null, .null, .null, .null, .null, .int 0, .int 0, .int 0, .null, .null, .int 0, .null, .null, .null, .int 0, .int 0, .int 0, .null, .null, .null, .null, .int 0, .null]))) ++ [(a6, .inl (zc G 0, 4, .inl (upd (upd (upd (upd (fun _ => 0) 0 (-9)) 1 (-9)) 2 (-9)) 3 (-9)))), (a33, .inl (zc G 0, 4, .inl (fun _ => 0))), (a42, .inl (zc G 0, 240, .inl (fun _ => 0)))] : va_W)) (List.append_assoc _ _ _) ?_
  refine zx_putF C rfl p_Mod_16_12 d_Mod_init_44 p (in_at hl) zb_fit_ar (Nat.le_of_ble_eq_true rfl) (in_ss hl) ?_
  refine zx_eq rfl rfl (w1 := ((w.set p (q, .inr (12, [.int 0, .int 0, .ref a6, .ref a33, .ref a42, .int 0, .int 0, .int 0, .null, .null, .null, .null, .null, .null, .null, .null, .int 0, .int 0, .int 0, .null, .null, .int 0, .null, .null, .null, .int 0, .int 0, .int 0, .null, .null, .null, .null, .int 0, .null]))) ++ [(a6, .inl (zc G 0, 4, .inl (upd (upd (upd (upd (fun _ => 0) 0 (-9)) 1 (-9)) 2 (-9)) 3 (-9)))), (a33, .inl (zc G 0, 4, .inl (fun _ => 0))), (a42, .inl (zc G 0, 240, .inl (fun _ => 0)))] : va_W)) rfl ?_
  refine zx_aload C d_Mod_init_47 rfl ?_
  refine zx_ic C d_Mod_init_48 ?_
  refine zx_newa C ar_int rfl 0 rfl (a0 := (6, .inl (fun _ => 0))) (fun _ => rfl) (by decide) (by decide) (by decide) d_Mod_init_50 (Nat.le_of_ble_eq_true rfl) (Nat.le_of_ble_eq_true rfl) (fun a50 => ?_)
  refine zx_eq rfl rfl (w1 := ((w.set p (q, .inr (12, [.int 0, .int 0, .ref a6, .ref a33, .ref a42, .int 0, .int 0, .int 0, .null, .null, .null, .null, .null, .null, .null, .null, .int 0, .int 0, .int 0, .null, .null, .int 0, .null, .null, .null, .int 0, .int 0, .int 0, .null, .null, .null, .null, .int 0, .null]))) ++ [(a6, .inl (zc G 0, 4, .inl (upd (upd (upd (upd (fun _ => 0) 0 (-9)) 1 (-9)) 2 (-9)) 3 (-9)))), (a33, .inl (zc G 0, 4, .inl (fun _ => 0))), (a42, .inl (zc G 0, 240, .inl (fun _ => 0))), (a50, .inl (zc G 0, 6, .inl (fun _ => 0)))] : va_W)) (List.append_assoc _ _ _) ?_
  refine zx_putF C rfl p_Mod_19_12 d_Mod_init_52 p (in_at hl) zb_fit_ar (Nat.le_of_ble_eq_true rfl) (in_ss hl) ?_
  refine zx_eq rfl rfl (w1 := ((w.set p (q, .inr (12, [.int 0, .int 0, .ref a6, .ref a33, .ref a42, .int 0, .int 0, .int 0, .ref a50, .null, .null, .null, .null, .null, .null, .null, .int 0, .int 0, .int 0, .null, .null, .int 0, .null, .null, .null, .int 0, .int 0, .int 0, .null, .null, .null, .null, .int 0, .null]))) ++ [(a6, .inl (zc G 0, 4, .inl (upd (upd (upd (upd (fun _ => 0) 0 (-9)) 1 (-9)) 2 (-9)) 3 (-9)))), (a33, .inl (zc G 0, 4, .inl (fun _ => 0))), (a42, .inl (zc G 0, 240, .inl (fun _ => 0))), (a50, .inl (zc G 0, 6, .inl (fun _ => 0)))] : va_W)) rfl ?_
  refine zx_aload C d_Mod_init_55 rfl ?_
  refine zx_ic C d_Mod_init_56 ?_
  refine zx_newa C ar_int rfl 0 rfl (a0 := (6, .inl (fun _ => 0))) (fun _ => rfl) (by decide) (by decide) (by decide) d_Mod_init_58 (Nat.le_of_ble_eq_true rfl) (Nat.le_of_ble_eq_true rfl) (fun a58 => ?_)
  refine zx_eq rfl rfl (w1 := ((w.set p (q, .inr (12, [.int 0, .int 0, .ref a6, .ref a33, .ref a42, .int 0, .int 0, .int 0, .ref a50, .null, .null, .null, .null, .null, .null, .null, .int 0, .int 0, .int 0, .null, .null, .int 0, .null, .null, .null, .int 0, .int 0, .int 0, .null, .null, .null, .null, .int 0, .null]))) ++ [(a6, .inl (zc G 0, 4, .inl (upd (upd (upd (upd (fun _ => 0) 0 (-9)) 1 (-9)) 2 (-9)) 3 (-9)))), (a33, .inl (zc G 0, 4, .inl (fun _ => 0))), (a42, .inl (zc G 0, 240, .inl (fun _ => 0))), (a50, .inl (zc G 0, 6, .inl (fun _ => 0))), (a58, .inl (zc G 0, 6, .inl (fun _ => 0)))] : va_W)) (List.append_assoc _ _ _) ?_
  refine zx_putF C rfl p_Mod_22_12 d_Mod_init_60 p (in_at hl) zb_fit_ar (Nat.le_of_ble_eq_true rfl) (in_ss hl) ?_
  refine zx_eq rfl rfl (w1 := ((w.set p (q, .inr (12, [.int 0, .int 0, .ref a6, .ref a33, .ref a42, .int 0, .int 0, .int 0, .ref a50, .ref a58, .null, .null, .null, .null, .null, .null, .int 0, .int 0, .int 0, .null, .null, .int 0, .null, .null, .null, .int 0, .int 0, .int 0, .null, .null, .null, .null, .int 0, .null]))) ++ [(a6, .inl (zc G 0, 4, .inl (upd (upd (upd (upd (fun _ => 0) 0 (-9)) 1 (-9)) 2 (-9)) 3 (-9)))), (a33, .inl (zc G 0, 4, .inl (fun _ => 0))), (a42, .inl (zc G 0, 240, .inl (fun _ => 0))), (a50, .inl (zc G 0, 6, .inl (fun _ => 0))), (a58, .inl (zc G 0, 6, .inl (fun _ => 0)))] : va_W)) rfl ?_
  refine zx_aload C d_Mod_init_63 rfl ?_
  refine zx_ic C d_Mod_init_64 ?_
  refine zx_newa C ar_int rfl 0 rfl (a0 := (6, .inl (fun _ => 0))) (fun _ => rfl) (by decide) (by decide) (by decide) d_Mod_init_66 (Nat.le_of_ble_eq_true rfl) (Nat.le_of_ble_eq_true rfl) (fun a66 => ?_)
  refine zx_eq rfl rfl (w1 := ((w.set p (q, .inr (12, [.int 0, .int 0, .ref a6, .ref a33, .ref a42, .int 0, .int 0, .int 0, .ref a50, .ref a58, .null, .null, .null, .null, .null, .null, .int 0, .int 0, .int 0, .null, .null, .int 0, .null, .null, .null, .int 0, .int 0, .int 0, .null, .null, .null, .null, .int 0, .null]))) ++ [(a6, .inl (zc G 0, 4, .inl (upd (upd (upd (upd (fun _ => 0) 0 (-9)) 1 (-9)) 2 (-9)) 3 (-9)))), (a33, .inl (zc G 0, 4, .inl (fun _ => 0))), (a42, .inl (zc G 0, 240, .inl (fun _ => 0))), (a50, .inl (zc G 0, 6, .inl (fun _ => 0))), (a58, .inl (zc G 0, 6, .inl (fun _ => 0))), (a66, .inl (zc G 0, 6, .inl (fun _ => 0)))] : va_W)) (List.append_assoc _ _ _) ?_
  refine zx_putF C rfl p_Mod_25_12 d_Mod_init_68 p (in_at hl) zb_fit_ar (Nat.le_of_ble_eq_true rfl) (in_ss hl) ?_
  refine zx_eq rfl rfl (w1 := ((w.set p (q, .inr (12, [.int 0, .int 0, .ref a6, .ref a33, .ref a42, .int 0, .int 0, .int 0, .ref a50, .ref a58, .ref a66, .null, .null, .null, .null, .null, .int 0, .int 0, .int 0, .null, .null, .int 0, .null, .null, .null, .int 0, .int 0, .int 0, .null, .null, .null, .null, .int 0, .null]))) ++ [(a6, .inl (zc G 0, 4, .inl (upd (upd (upd (upd (fun _ => 0) 0 (-9)) 1 (-9)) 2 (-9)) 3 (-9)))), (a33, .inl (zc G 0, 4, .inl (fun _ => 0))), (a42, .inl (zc G 0, 240, .inl (fun _ => 0))), (a50, .inl (zc G 0, 6, .inl (fun _ => 0))), (a58, .inl (zc G 0, 6, .inl (fun _ => 0))), (a66, .inl (zc G 0, 6, .inl (fun _ => 0)))] : va_W)) rfl ?_
  refine zx_aload C d_Mod_init_71 rfl ?_
  refine zx_ic C d_Mod_init_72 ?_
  refine zx_newa C ar_int rfl 0 rfl (a0 := (6, .inl (fun _ => 0))) (fun _ => rfl) (by decide) (by decide) (by decide) d_Mod_init_74 (Nat.le_of_ble_eq_true rfl) (Nat.le_of_ble_eq_true rfl) (fun a74 => ?_)
  refine zx_eq rfl rfl (w1 := ((w.set p (q, .inr (12, [.int 0, .int 0, .ref a6, .ref a33, .ref a42, .int 0, .int 0, .int 0, .ref a50, .ref a58, .ref a66, .null, .null, .null, .null, .null, .int 0, .int 0, .int 0, .null, .null, .int 0, .null, .null, .null, .int 0, .int 0, .int 0, .null, .null, .null, .null, .int 0, .null]))) ++ [(a6, .inl (zc G 0, 4, .inl (upd (upd (upd (upd (fun _ => 0) 0 (-9)) 1 (-9)) 2 (-9)) 3 (-9)))), (a33, .inl (zc G 0, 4, .inl (fun _ => 0))), (a42, .inl (zc G 0, 240, .inl (fun _ => 0))), (a50, .inl (zc G 0, 6, .inl (fun _ => 0))), (a58, .inl (zc G 0, 6, .inl (fun _ => 0))), (a66, .inl (zc G 0, 6, .inl (fun _ => 0))), (a74, .inl (zc G 0, 6, .inl (fun _ => 0)))] : va_W)) (List.append_assoc _ _ _) ?_
  refine zx_putF C rfl p_Mod_28_12 d_Mod_init_76 p (in_at hl) zb_fit_ar (Nat.le_of_ble_eq_true rfl) (in_ss hl) ?_
  refine zx_eq rfl rfl (w1 := ((w.set p (q, .inr (12, [.int 0, .int 0, .ref a6, .ref a33, .ref a42, .int 0, .int 0, .int 0, .ref a50, .ref a58, .ref a66, .ref a74, .null, .null, .null, .null, .int 0, .int 0, .int 0, .null, .null, .int 0, .null, .null, .null, .int 0, .int 0, .int 0, .null, .null, .null, .null, .int 0, .null]))) ++ [(a6, .inl (zc G 0, 4, .inl (upd (upd (upd (upd (fun _ => 0) 0 (-9)) 1 (-9)) 2 (-9)) 3 (-9)))), (a33, .inl (zc G 0, 4, .inl (fun _ => 0))), (a42, .inl (zc G 0, 240, .inl (fun _ => 0))), (a50, .inl (zc G 0, 6, .inl (fun _ => 0))), (a58, .inl (zc G 0, 6, .inl (fun _ => 0))), (a66, .inl (zc G 0, 6, .inl (fun _ => 0))), (a74, .inl (zc G 0, 6, .inl (fun _ => 0)))] : va_W)) rfl ?_
  refine zx_aload C d_Mod_init_79 rfl ?_
  refine zx_ic C d_Mod_init_80 ?_
  refine zx_newa C ar_int rfl 0 rfl (a0 := (5, .inl (fun _ => 0))) (fun _ => rfl) (by decide) (by decide) (by decide) d_Mod_init_81 (Nat.le_of_ble_eq_true rfl) (Nat.le_of_ble_eq_true rfl) (fun a81 => ?_)
  refine zx_eq rfl rfl (w1 := ((w.set p (q, .inr (12, [.int 0, .int 0, .ref a6, .ref a33, .ref a42, .int 0, .int 0, .int 0, .ref a50, .ref a58, .ref a66, .ref a74, .null, .null, .null, .null, .int 0, .int 0, .int 0, .null, .null, .int 0, .null, .null, .null, .int 0, .int 0, .int 0, .null, .null, .null, .null, .int 0, .null]))) ++ [(a6, .inl (zc G 0, 4, .inl (upd (upd (upd (upd (fun _ => 0) 0 (-9)) 1 (-9)) 2 (-9)) 3 (-9)))), (a33, .inl (zc G 0, 4, .inl (fun _ => 0))), (a42, .inl (zc G 0, 240, .inl (fun _ => 0))), (a50, .inl (zc G 0, 6, .inl (fun _ => 0))), (a58, .inl (zc G 0, 6, .inl (fun _ => 0))), (a66, .inl (zc G 0, 6, .inl (fun _ => 0))), (a74, .inl (zc G 0, 6, .inl (fun _ => 0))), (a81, .inl (zc G 0, 5, .inl (fun _ => 0)))] : va_W)) (List.append_assoc _ _ _) ?_
  refine zx_putF C rfl p_Mod_31_12 d_Mod_init_83 p (in_at hl) zb_fit_ar (Nat.le_of_ble_eq_true rfl) (in_ss hl) ?_
  refine zx_eq rfl rfl (w1 := ((w.set p (q, .inr (12, [.int 0, .int 0, .ref a6, .ref a33, .ref a42, .int 0, .int 0, .int 0, .ref a50, .ref a58, .ref a66, .ref a74, .ref a81, .null, .null, .null, .int 0, .int 0, .int 0, .null, .null, .int 0, .null, .null, .null, .int 0, .int 0, .int 0, .null, .null, .null, .null, .int 0, .null]))) ++ [(a6, .inl (zc G 0, 4, .inl (upd (upd (upd (upd (fun _ => 0) 0 (-9)) 1 (-9)) 2 (-9)) 3 (-9)))), (a33, .inl (zc G 0, 4, .inl (fun _ => 0))), (a42, .inl (zc G 0, 240, .inl (fun _ => 0))), (a50, .inl (zc G 0, 6, .inl (fun _ => 0))), (a58, .inl (zc G 0, 6, .inl (fun _ => 0))), (a66, .inl (zc G 0, 6, .inl (fun _ => 0))), (a74, .inl (zc G 0, 6, .inl (fun _ => 0))), (a81, .inl (zc G 0, 5, .inl (fun _ => 0)))] : va_W)) rfl ?_
  refine zx_aload C d_Mod_init_86 rfl ?_
  refine zx_ic C d_Mod_init_87 ?_
  refine zx_newa C ar_int rfl 0 rfl (a0 := (5, .inl (fun _ => 0))) (fun _ => rfl) (by decide) (by decide) (by decide) d_Mod_init_88 (Nat.le_of_ble_eq_true rfl) (Nat.le_of_ble_eq_true rfl) (fun a88 => ?_)
  refine zx_eq rfl rfl (w1 := ((w.set p (q, .inr (12, [.int 0, .int 0, .ref a6, .ref a33, .ref a42, .int 0, .int 0, .int 0, .ref a50, .ref a58, .ref a66, .ref a74, .ref a81, .null, .null, .null, .int 0, .int 0, .int 0, .null, .null, .int 0, .null, .null, .null, .int 0, .int 0, .int 0, .null, .null, .null, .null, .int 0, .null]))) ++ [(a6, .inl (zc G 0, 4, .inl (upd (upd (upd (upd (fun _ => 0) 0 (-9)) 1 (-9)) 2 (-9)) 3 (-9)))), (a33, .inl (zc G 0, 4, .inl (fun _ => 0))), (a42, .inl (zc G 0, 240, .inl (fun _ => 0))), (a50, .inl (zc G 0, 6, .inl (fun _ => 0))), (a58, .inl (zc G 0, 6, .inl (fun _ => 0))), (a66, .inl (zc G 0, 6, .inl (fun _ => 0))), (a74, .inl (zc G 0, 6, .inl (fun _ => 0))), (a81, .inl (zc G 0, 5, .inl (fun _ => 0))), (a88, .inl (zc G 0, 5, .inl (fun _ => 0)))] : va_W)) (List.append_assoc _ _ _) ?_
  refine zx_putF C rfl p_Mod_34_12 d_Mod_init_90 p (in_at hl) zb_fit_ar (Nat.le_of_ble_eq_true rfl) (in_ss hl) ?_
  refine zx_eq rfl rfl (w1 := ((w.set p (q, .inr (12, [.int 0, .int 0, .ref a6, .ref a33, .ref a42, .int 0, .int 0, .int 0, .ref a50, .ref a58, .ref a66, .ref a74, .ref a81, .ref a88, .null, .null, .int 0, .int 0, .int 0, .null, .null, .int 0, .null, .null, .null, .int 0, .int 0, .int 0, .null, .null, .null, .null, .int 0, .null]))) ++ [(a6, .inl (zc G 0, 4, .inl (upd (upd (upd (upd (fun _ => 0) 0 (-9)) 1 (-9)) 2 (-9)) 3 (-9)))), (a33, .inl (zc G 0, 4, .inl (fun _ => 0))), (a42, .inl (zc G 0, 240, .inl (fun _ => 0))), (a50, .inl (zc G 0, 6, .inl (fun _ => 0))), (a58, .inl (zc G 0, 6, .inl (fun _ => 0))), (a66, .inl (zc G 0, 6, .inl (fun _ => 0))), (a74, .inl (zc G 0, 6, .inl (fun _ => 0))), (a81, .inl (zc G 0, 5, .inl (fun _ => 0))), (a88, .inl (zc G 0, 5, .inl (fun _ => 0)))] : va_W)) rfl ?_
  refine zx_aload C d_Mod_init_93 rfl ?_
  refine zx_ic C d_Mod_init_94 ?_
  refine zx_newa C ar_int rfl 0 rfl (a0 := (5, .inl (fun _ => 0))) (fun _ => rfl) (by decide) (by decide) (by decide) d_Mod_init_95 (Nat.le_of_ble_eq_true rfl) (Nat.le_of_ble_eq_true rfl) (fun a95 => ?_)
  refine zx_eq rfl rfl (w1 := ((w.set p (q, .inr (12, [.int 0, .int 0, .ref a6, .ref a33, .ref a42, .int 0, .int 0, .int 0, .ref a50, .ref a58, .ref a66, .ref a74, .ref a81, .ref a88, .null, .null, .int 0, .int 0, .int 0, .null, .null, .int 0, .null, .null, .null, .int 0, .int 0, .int 0, .null, .null, .null, .null, .int 0, .null]))) ++ [(a6, .inl (zc G 0, 4, .inl (upd (upd (upd (upd (fun _ => 0) 0 (-9)) 1 (-9)) 2 (-9)) 3 (-9)))), (a33, .inl (zc G 0, 4, .inl (fun _ => 0))), (a42, .inl (zc G 0, 240, .inl (fun _ => 0))), (a50, .inl (zc G 0, 6, .inl (fun _ => 0))), (a58, .inl (zc G 0, 6, .inl (fun _ => 0))), (a66, .inl (zc G 0, 6, .inl (fun _ => 0))), (a74, .inl (zc G 0, 6, .inl (fun _ => 0))), (a81, .inl (zc G 0, 5, .inl (fun _ => 0))), (a88, .inl (zc G 0, 5, .inl (fun _ => 0))), (a95, .inl (zc G 0, 5, .inl (fun _ => 0)))] : va_W)) (List.append_assoc _ _ _) ?_
  refine zx_putF C rfl p_Mod_37_12 d_Mod_init_97 p (in_at hl) zb_fit_ar (Nat.le_of_ble_eq_true rfl) (in_ss hl) ?_
  refine zx_eq rfl rfl (w1 := ((w.set p (q, .inr (12, [.int 0, .int 0, .ref a6, .ref a33, .ref a42, .int 0, .int 0, .int 0, .ref a50, .ref a58, .ref a66, .ref a74, .ref a81, .ref a88, .ref a95, .null, .int 0, .int 0, .int 0, .null, .null, .int 0, .null, .null, .null, .int 0, .int 0, .int 0, .null, .null, .null, .null, .int 0, .null]))) ++ [(a6, .inl (zc G 0, 4, .inl (upd (upd (upd (upd (fun _ => 0) 0 (-9)) 1 (-9)) 2 (-9)) 3 (-9)))), (a33, .inl (zc G 0, 4, .inl (fun _ => 0))), (a42, .inl (zc G 0, 240, .inl (fun _ => 0))), (a50, .inl (zc G 0, 6, .inl (fun _ => 0))), (a58, .inl (zc G 0, 6, .inl (fun _ => 0))), (a66, .inl (zc G 0, 6, .inl (fun _ => 0))), (a74, .inl (zc G 0, 6, .inl (fun _ => 0))), (a81, .inl (zc G 0, 5, .inl (fun _ => 0))), (a88, .inl (zc G 0, 5, .inl (fun _ => 0))), (a95, .inl (zc G 0, 5, .inl (fun _ => 0)))] : va_W)) rfl ?_
  refine zx_aload C d_Mod_init_100 rfl ?_
  refine zx_ic C d_Mod_init_101 ?_
  refine zx_newa C ar_int rfl 0 rfl (a0 := (5, .inl (fun _ => 0))) (fun _ => rfl) (by decide) (by decide) (by decide) d_Mod_init_102 (Nat.le_of_ble_eq_true rfl) (Nat.le_of_ble_eq_true rfl) (fun a102 => ?_)
  refine zx_eq rfl rfl (w1 := ((w.set p (q, .inr (12, [.int 0, .int 0, .ref a6, .ref a33, .ref a42, .int 0, .int 0, .int 0, .ref a50, .ref a58, .ref a66, .ref a74, .ref a81, .ref a88, .ref a95, .null, .int 0, .int 0, .int 0, .null, .null, .int 0, .null, .null, .null, .int 0, .int 0, .int 0, .null, .null, .null, .null, .int 0, .null]))) ++ [(a6, .inl (zc G 0, 4, .inl (upd (upd (upd (upd (fun _ => 0) 0 (-9)) 1 (-9)) 2 (-9)) 3 (-9)))), (a33, .inl (zc G 0, 4, .inl (fun _ => 0))), (a42, .inl (zc G 0, 240, .inl (fun _ => 0))), (a50, .inl (zc G 0, 6, .inl (fun _ => 0))), (a58, .inl (zc G 0, 6, .inl (fun _ => 0))), (a66, .inl (zc G 0, 6, .inl (fun _ => 0))), (a74, .inl (zc G 0, 6, .inl (fun _ => 0))), (a81, .inl (zc G 0, 5, .inl (fun _ => 0))), (a88, .inl (zc G 0, 5, .inl (fun _ => 0))), (a95, .inl (zc G 0, 5, .inl (fun _ => 0))), (a102, .inl (zc G 0, 5, .inl (fun _ => 0)))] : va_W)) (List.append_assoc _ _ _) ?_
  refine zx_putF C rfl p_Mod_40_12 d_Mod_init_104 p (in_at hl) zb_fit_ar (Nat.le_of_ble_eq_true rfl) (in_ss hl) ?_
  refine zx_eq rfl rfl (w1 := ((w.set p (q, .inr (12, [.int 0, .int 0, .ref a6, .ref a33, .ref a42, .int 0, .int 0, .int 0, .ref a50, .ref a58, .ref a66, .ref a74, .ref a81, .ref a88, .ref a95, .ref a102, .int 0, .int 0, .int 0, .null, .null, .int 0, .null, .null, .null, .int 0, .int 0, .int 0, .null, .null, .null, .null, .int 0, .null]))) ++ [(a6, .inl (zc G 0, 4, .inl (upd (upd (upd (upd (fun _ => 0) 0 (-9)) 1 (-9)) 2 (-9)) 3 (-9)))), (a33, .inl (zc G 0, 4, .inl (fun _ => 0))), (a42, .inl (zc G 0, 240, .inl (fun _ => 0))), (a50, .inl (zc G 0, 6, .inl (fun _ => 0))), (a58, .inl (zc G 0, 6, .inl (fun _ => 0))), (a66, .inl (zc G 0, 6, .inl (fun _ => 0))), (a74, .inl (zc G 0, 6, .inl (fun _ => 0))), (a81, .inl (zc G 0, 5, .inl (fun _ => 0))), (a88, .inl (zc G 0, 5, .inl (fun _ => 0))), (a95, .inl (zc G 0, 5, .inl (fun _ => 0))), (a102, .inl (zc G 0, 5, .inl (fun _ => 0)))] : va_W)) rfl ?_
  refine zx_aload C d_Mod_init_107 rfl ?_
  refine zx_ic C d_Mod_init_108 ?_
  refine zx_newa C ar_int rfl 0 rfl (a0 := (24, .inl (fun _ => 0))) (fun _ => rfl) (by decide) (by decide) (by decide) d_Mod_init_110 (Nat.le_of_ble_eq_true rfl) (Nat.le_of_ble_eq_true rfl) (fun a110 => ?_)
  refine zx_eq rfl rfl (w1 := ((w.set p (q, .inr (12, [.int 0, .int 0, .ref a6, .ref a33, .ref a42, .int 0, .int 0, .int 0, .ref a50, .ref a58, .ref a66, .ref a74, .ref a81, .ref a88, .ref a95, .ref a102, .int 0, .int 0, .int 0, .null, .null, .int 0, .null, .null, .null, .int 0, .int 0, .int 0, .null, .null, .null, .null, .int 0, .null]))) ++ [(a6, .inl (zc G 0, 4, .inl (upd (upd (upd (upd (fun _ => 0) 0 (-9)) 1 (-9)) 2 (-9)) 3 (-9)))), (a33, .inl (zc G 0, 4, .inl (fun _ => 0))), (a42, .inl (zc G 0, 240, .inl (fun _ => 0))), (a50, .inl (zc G 0, 6, .inl (fun _ => 0))), (a58, .inl (zc G 0, 6, .inl (fun _ => 0))), (a66, .inl (zc G 0, 6, .inl (fun _ => 0))), (a74, .inl (zc G 0, 6, .inl (fun _ => 0))), (a81, .inl (zc G 0, 5, .inl (fun _ => 0))), (a88, .inl (zc G 0, 5, .inl (fun _ => 0))), (a95, .inl (zc G 0, 5, .inl (fun _ => 0))), (a102, .inl (zc G 0, 5, .inl (fun _ => 0))), (a110, .inl (zc G 0, 24, .inl (fun _ => 0)))] : va_W)) (List.append_assoc _ _ _) ?_
  refine zx_putF C rfl p_Mod_43_12 d_Mod_init_112 p (in_at hl) zb_fit_ar (Nat.le_of_ble_eq_true rfl) (in_ss hl) ?_
  refine zx_eq rfl rfl (w1 := ((w.set p (q, .inr (12, [.int 0, .int 0, .ref a6, .ref a33, .ref a42, .int 0, .int 0, .int 0, .ref a50, .ref a58, .ref a66, .ref a74, .ref a81, .ref a88, .ref a95, .ref a102, .int 0, .int 0, .int 0, .ref a110, .null, .int 0, .null, .null, .null, .int 0, .int 0, .int 0, .null, .null, .null, .null, .int 0, .null]))) ++ [(a6, .inl (zc G 0, 4, .inl (upd (upd (upd (upd (fun _ => 0) 0 (-9)) 1 (-9)) 2 (-9)) 3 (-9)))), (a33, .inl (zc G 0, 4, .inl (fun _ => 0))), (a42, .inl (zc G 0, 240, .inl (fun _ => 0))), (a50, .inl (zc G 0, 6, .inl (fun _ => 0))), (a58, .inl (zc G 0, 6, .inl (fun _ => 0))), (a66, .inl (zc G 0, 6, .inl (fun _ => 0))), (a74, .inl (zc G 0, 6, .inl (fun _ => 0))), (a81, .inl (zc G 0, 5, .inl (fun _ => 0))), (a88, .inl (zc G 0, 5, .inl (fun _ => 0))), (a95, .inl (zc G 0, 5, .inl (fun _ => 0))), (a102, .inl (zc G 0, 5, .inl (fun _ => 0))), (a110, .inl (zc G 0, 24, .inl (fun _ => 0)))] : va_W)) rfl ?_
  refine zx_aload C d_Mod_init_115 rfl ?_
  refine zx_ic C d_Mod_init_116 ?_
  refine zx_newa C ar_int rfl 0 rfl (a0 := (20, .inl (fun _ => 0))) (fun _ => rfl) (by decide) (by decide) (by decide) d_Mod_init_118 (Nat.le_of_ble_eq_true rfl) (Nat.le_of_ble_eq_true rfl) (fun a118 => ?_)
  refine zx_eq rfl rfl (w1 := ((w.set p (q, .inr (12, [.int 0, .int 0, .ref a6, .ref a33, .ref a42, .int 0, .int 0, .int 0, .ref a50, .ref a58, .ref a66, .ref a74, .ref a81, .ref a88, .ref a95, .ref a102, .int 0, .int 0, .int 0, .ref a110, .null, .int 0, .null, .null, .null, .int 0, .int 0, .int 0, .null, .null, .null, .null, .int 0, .null]))) ++ [(a6, .inl (zc G 0, 4, .inl (upd (upd (upd (upd (fun _ => 0) 0 (-9)) 1 (-9)) 2 (-9)) 3 (-9)))), (a33, .inl (zc G 0, 4, .inl (fun _ => 0))), (a42, .inl (zc G 0, 240, .inl (fun _ => 0))), (a50, .inl (zc G 0, 6, .inl (fun _ => 0))), (a58, .inl (zc G 0, 6, .inl (fun _ => 0))), (a66, .inl (zc G 0, 6, .inl (fun _ => 0))), (a74, .inl (zc G 0, 6, .inl (fun _ => 0))), (a81, .inl (zc G 0, 5, .inl (fun _ => 0))), (a88, .inl (zc G 0, 5, .inl (fun _ => 0))), (a95, .inl (zc G 0, 5, .inl (fun _ => 0))), (a102, .inl (zc G 0, 5, .inl (fun _ => 0))), (a110, .inl (zc G 0, 24, .inl (fun _ => 0))), (a118, .inl (zc G 0, 20, .inl (fun _ => 0)))] : va_W)) (List.append_assoc _ _ _) ?_
  refine zx_putF C rfl p_Mod_46_12 d_Mod_init_120 p (in_at hl) zb_fit_ar (Nat.le_of_ble_eq_true rfl) (in_ss hl) ?_
  refine zx_eq rfl rfl (w1 := ((w.set p (q, .inr (12, [.int 0, .int 0, .ref a6, .ref a33, .ref a42, .int 0, .int 0, .int 0, .ref a50, .ref a58, .ref a66, .ref a74, .ref a81, .ref a88, .ref a95, .ref a102, .int 0, .int 0, .int 0, .ref a110, .ref a118, .int 0, .null, .null, .null, .int 0, .int 0, .int 0, .null, .null, .null, .null, .int 0, .null]))) ++ [(a6, .inl (zc G 0, 4, .inl (upd (upd (upd (upd (fun _ => 0) 0 (-9)) 1 (-9)) 2 (-9)) 3 (-9)))), (a33, .inl (zc G 0, 4, .inl (fun _ => 0))), (a42, .inl (zc G 0, 240, .inl (fun _ => 0))), (a50, .inl (zc G 0, 6, .inl (fun _ => 0))), (a58, .inl (zc G 0, 6, .inl (fun _ => 0))), (a66, .inl (zc G 0, 6, .inl (fun _ => 0))), (a74, .inl (zc G 0, 6, .inl (fun _ => 0))), (a81, .inl (zc G 0, 5, .inl (fun _ => 0))), (a88, .inl (zc G 0, 5, .inl (fun _ => 0))), (a95, .inl (zc G 0, 5, .inl (fun _ => 0))), (a102, .inl (zc G 0, 5, .inl (fun _ => 0))), (a110, .inl (zc G 0, 24, .inl (fun _ => 0))), (a118, .inl (zc G 0, 20, .inl (fun _ => 0)))] : va_W)) rfl ?_
  refine zx_aload C d_Mod_init_123 rfl ?_
  refine zx_ic C d_Mod_init_124 ?_
  refine zx_newa C ar_int rfl 0 rfl (a0 := (20, .inl (fun _ => 0))) (fun _ => rfl) (by decide) (by decide) (by decide) d_Mod_init_126 (Nat.le_of_ble_eq_true rfl) (Nat.le_of_ble_eq_true rfl) (fun a126 => ?_)
  refine zx_eq rfl rfl (w1 := ((w.set p (q, .inr (12, [.int 0, .int 0, .ref a6, .ref a33, .ref a42, .int 0, .int 0, .int 0, .ref a50, .ref a58, .ref a66, .ref a74, .ref a81, .ref a88, .ref a95, .ref a102, .int 0, .int 0, .int 0, .ref a110, .ref a118, .int 0, .null, .null, .null, .int 0, .int 0, .int 0, .null, .null, .null, .null, .int 0, .null]))) ++ [(a6, .inl (zc G 0, 4, .inl (upd (upd (upd (upd (fun _ => 0) 0 (-9)) 1 (-9)) 2 (-9)) 3 (-9)))), (a33, .inl (zc G 0, 4, .inl (fun _ => 0))), (a42, .inl (zc G 0, 240, .inl (fun _ => 0))), (a50, .inl (zc G 0, 6, .inl (fun _ => 0))), (a58, .inl (zc G 0, 6, .inl (fun _ => 0))), (a66, .inl (zc G 0, 6, .inl (fun _ => 0))), (a74, .inl (zc G 0, 6, .inl (fun _ => 0))), (a81, .inl (zc G 0, 5, .inl (fun _ => 0))), (a88, .inl (zc G 0, 5, .inl (fun _ => 0))), (a95, .inl (zc G 0, 5, .inl (fun _ => 0))), (a102, .inl (zc G 0, 5, .inl (fun _ => 0))), (a110, .inl (zc G 0, 24, .inl (fun _ => 0))), (a118, .inl (zc G 0, 20, .inl (fun _ => 0))), (a126, .inl (zc G 0, 20, .inl (fun _ => 0)))] : va_W)) (List.append_assoc _ _ _) ?_
  refine zx_putF C rfl p_Mod_49_12 d_Mod_init_128 p (in_at hl) zb_fit_ar (Nat.le_of_ble_eq_true rfl) (in_ss hl) ?_
  refine zx_eq rfl rfl (w1 := ((w.set p (q, .inr (12, [.int 0, .int 0, .ref a6, .ref a33, .ref a42, .int 0, .int 0, .int 0, .ref a50, .ref a58, .ref a66, .ref a74, .ref a81, .ref a88, .ref a95, .ref a102, .int 0, .int 0, .int 0, .ref a110, .ref a118, .int 0, .ref a126, .null, .null, .int 0, .int 0, .int 0, .null, .null, .null, .null, .int 0, .null]))) ++ [(a6, .inl (zc G 0, 4, .inl (upd (upd (upd (upd (fun _ => 0) 0 (-9)) 1 (-9)) 2 (-9)) 3 (-9)))), (a33, .inl (zc G 0, 4, .inl (fun _ => 0))), (a42, .inl (zc G 0, 240, .inl (fun _ => 0))), (a50, .inl (zc G 0, 6, .inl (fun _ => 0))), (a58, .inl (zc G 0, 6, .inl (fun _ => 0))), (a66, .inl (zc G 0, 6, .inl (fun _ => 0))), (a74, .inl (zc G 0, 6, .inl (fun _ => 0))), (a81, .inl (zc G 0, 5, .inl (fun _ => 0))), (a88, .inl (zc G 0, 5, .inl (fun _ => 0))), (a95, .inl (zc G 0, 5, .inl (fun _ => 0))), (a102, .inl (zc G 0, 5, .inl (fun _ => 0))), (a110, .inl (zc G 0, 24, .inl (fun _ => 0))), (a118, .inl (zc G 0, 20, .inl (fun _ => 0))), (a126, .inl (zc G 0, 20, .inl (fun _ => 0)))] : va_W)) rfl ?_
  refine zx_aload C d_Mod_init_131 rfl ?_
  refine zx_ic C d_Mod_init_132 ?_
  refine zx_newa C ar_int rfl 0 rfl (a0 := (20, .inl (fun _ => 0))) (fun _ => rfl) (by decide) (by decide) (by decide) d_Mod_init_134 (Nat.le_of_ble_eq_true rfl) (Nat.le_of_ble_eq_true rfl) (fun a134 => ?_)
  refine zx_eq rfl rfl (w1 := ((w.set p (q, .inr (12, [.int 0, .int 0, .ref a6, .ref a33, .ref a42, .int 0, .int 0, .int 0, .ref a50, .ref a58, .ref a66, .ref a74, .ref a81, .ref a88, .ref a95, .ref a102, .int 0, .int 0, .int 0, .ref a110, .ref a118, .int 0, .ref a126, .null, .null, .int 0, .int 0, .int 0, .null, .null, .null, .null, .int 0, .null]))) ++ [(a6, .inl (zc G 0, 4, .inl (upd (upd (upd (upd (fun _ => 0) 0 (-9)) 1 (-9)) 2 (-9)) 3 (-9)))), (a33, .inl (zc G 0, 4, .inl (fun _ => 0))), (a42, .inl (zc G 0, 240, .inl (fun _ => 0))), (a50, .inl (zc G 0, 6, .inl (fun _ => 0))), (a58, .inl (zc G 0, 6, .inl (fun _ => 0))), (a66, .inl (zc G 0, 6, .inl (fun _ => 0))), (a74, .inl (zc G 0, 6, .inl (fun _ => 0))), (a81, .inl (zc G 0, 5, .inl (fun _ => 0))), (a88, .inl (zc G 0, 5, .inl (fun _ => 0))), (a95, .inl (zc G 0, 5, .inl (fun _ => 0))), (a102, .inl (zc G 0, 5, .inl (fun _ => 0))), (a110, .inl (zc G 0, 24, .inl (fun _ => 0))), (a118, .inl (zc G 0, 20, .inl (fun _ => 0))), (a126, .inl (zc G 0, 20, .inl (fun _ => 0))), (a134, .inl (zc G 0, 20, .inl (fun _ => 0)))] : va_W)) (List.append_assoc _ _ _) ?_
  refine zx_putF C rfl p_Mod_52_12 d_Mod_init_136 p (in_at hl) zb_fit_ar (Nat.le_of_ble_eq_true rfl) (in_ss hl) ?_
  refine zx_eq rfl rfl (w1 := ((w.set p (q, .inr (12, [.int 0, .int 0, .ref a6, .ref a33, .ref a42, .int 0, .int 0, .int 0, .ref a50, .ref a58, .ref a66, .ref a74, .ref a81, .ref a88, .ref a95, .ref a102, .int 0, .int 0, .int 0, .ref a110, .ref a118, .int 0, .ref a126, .ref a134, .null, .int 0, .int 0, .int 0, .null, .null, .null, .null, .int 0, .null]))) ++ [(a6, .inl (zc G 0, 4, .inl (upd (upd (upd (upd (fun _ => 0) 0 (-9)) 1 (-9)) 2 (-9)) 3 (-9)))), (a33, .inl (zc G 0, 4, .inl (fun _ => 0))), (a42, .inl (zc G 0, 240, .inl (fun _ => 0))), (a50, .inl (zc G 0, 6, .inl (fun _ => 0))), (a58, .inl (zc G 0, 6, .inl (fun _ => 0))), (a66, .inl (zc G 0, 6, .inl (fun _ => 0))), (a74, .inl (zc G 0, 6, .inl (fun _ => 0))), (a81, .inl (zc G 0, 5, .inl (fun _ => 0))), (a88, .inl (zc G 0, 5, .inl (fun _ => 0))), (a95, .inl (zc G 0, 5, .inl (fun _ => 0))), (a102, .inl (zc G 0, 5, .inl (fun _ => 0))), (a110, .inl (zc G 0, 24, .inl (fun _ => 0))), (a118, .inl (zc G 0, 20, .inl (fun _ => 0))), (a126, .inl (zc G 0, 20, .inl (fun _ => 0))), (a134, .inl (zc G 0, 20, .inl (fun _ => 0)))] : va_W)) rfl ?_
  refine zx_aload C d_Mod_init_139 rfl ?_
  refine zx_ic C d_Mod_init_140 ?_
  refine zx_newa C ar_boolean rfl 1 rfl (a0 := (20, .inl (fun _ => 0))) (fun _ => rfl) (by decide) (by decide) (by decide) d_Mod_init_142 (Nat.le_of_ble_eq_true rfl) (Nat.le_of_ble_eq_true rfl) (fun a142 => ?_)
  refine zx_eq rfl rfl (w1 := ((w.set p (q, .inr (12, [.int 0, .int 0, .ref a6, .ref a33, .ref a42, .int 0, .int 0, .int 0, .ref a50, .ref a58, .ref a66, .ref a74, .ref a81, .ref a88, .ref a95, .ref a102, .int 0, .int 0, .int 0, .ref a110, .ref a118, .int 0, .ref a126, .ref a134, .null, .int 0, .int 0, .int 0, .null, .null, .null, .null, .int 0, .null]))) ++ [(a6, .inl (zc G 0, 4, .inl (upd (upd (upd (upd (fun _ => 0) 0 (-9)) 1 (-9)) 2 (-9)) 3 (-9)))), (a33, .inl (zc G 0, 4, .inl (fun _ => 0))), (a42, .inl (zc G 0, 240, .inl (fun _ => 0))), (a50, .inl (zc G 0, 6, .inl (fun _ => 0))), (a58, .inl (zc G 0, 6, .inl (fun _ => 0))), (a66, .inl (zc G 0, 6, .inl (fun _ => 0))), (a74, .inl (zc G 0, 6, .inl (fun _ => 0))), (a81, .inl (zc G 0, 5, .inl (fun _ => 0))), (a88, .inl (zc G 0, 5, .inl (fun _ => 0))), (a95, .inl (zc G 0, 5, .inl (fun _ => 0))), (a102, .inl (zc G 0, 5, .inl (fun _ => 0))), (a110, .inl (zc G 0, 24, .inl (fun _ => 0))), (a118, .inl (zc G 0, 20, .inl (fun _ => 0))), (a126, .inl (zc G 0, 20, .inl (fun _ => 0))), (a134, .inl (zc G 0, 20, .inl (fun _ => 0))), (a142, .inl (zc G 1, 20, .inl (fun _ => 0)))] : va_W)) (List.append_assoc _ _ _) ?_
  refine zx_putF C rfl p_Mod_55_12 d_Mod_init_144 p (in_at hl) zb_fit_ar (Nat.le_of_ble_eq_true rfl) (in_ss hl) ?_
  refine zx_eq rfl rfl (w1 := ((w.set p (q, .inr (12, [.int 0, .int 0, .ref a6, .ref a33, .ref a42, .int 0, .int 0, .int 0, .ref a50, .ref a58, .ref a66, .ref a74, .ref a81, .ref a88, .ref a95, .ref a102, .int 0, .int 0, .int 0, .ref a110, .ref a118, .int 0, .ref a126, .ref a134, .ref a142, .int 0, .int 0, .int 0, .null, .null, .null, .null, .int 0, .null]))) ++ [(a6, .inl (zc G 0, 4, .inl (upd (upd (upd (upd (fun _ => 0) 0 (-9)) 1 (-9)) 2 (-9)) 3 (-9)))), (a33, .inl (zc G 0, 4, .inl (fun _ => 0))), (a42, .inl (zc G 0, 240, .inl (fun _ => 0))), (a50, .inl (zc G 0, 6, .inl (fun _ => 0))), (a58, .inl (zc G 0, 6, .inl (fun _ => 0))), (a66, .inl (zc G 0, 6, .inl (fun _ => 0))), (a74, .inl (zc G 0, 6, .inl (fun _ => 0))), (a81, .inl (zc G 0, 5, .inl (fun _ => 0))), (a88, .inl (zc G 0, 5, .inl (fun _ => 0))), (a95, .inl (zc G 0, 5, .inl (fun _ => 0))), (a102, .inl (zc G 0, 5, .inl (fun _ => 0))), (a110, .inl (zc G 0, 24, .inl (fun _ => 0))), (a118, .inl (zc G 0, 20, .inl (fun _ => 0))), (a126, .inl (zc G 0, 20, .inl (fun _ => 0))), (a134, .inl (zc G 0, 20, .inl (fun _ => 0))), (a142, .inl (zc G 1, 20, .inl (fun _ => 0)))] : va_W)) rfl ?_
  refine zx_aload C d_Mod_init_147 rfl ?_
  refine zx_ic C d_Mod_init_148 ?_
  refine zx_put C p_Mod_59_12 d_Mod_init_150 p (in_at hl) zb_fit_i (Nat.le_of_ble_eq_true rfl) (in_ss hl) ?_
  refine zx_eq rfl rfl (w1 := ((w.set p (q, .inr (12, [.int 0, .int 0, .ref a6, .ref a33, .ref a42, .int 0, .int 0, .int 0, .ref a50, .ref a58, .ref a66, .ref a74, .ref a81, .ref a88, .ref a95, .ref a102, .int 0, .int 0, .int 0, .ref a110, .ref a118, .int 0, .ref a126, .ref a134, .ref a142, .int (-9), .int 0, .int 0, .null, .null, .null, .null, .int 0, .null]))) ++ [(a6, .inl (zc G 0, 4, .inl (upd (upd (upd (upd (fun _ => 0) 0 (-9)) 1 (-9)) 2 (-9)) 3 (-9)))), (a33, .inl (zc G 0, 4, .inl (fun _ => 0))), (a42, .inl (zc G 0, 240, .inl (fun _ => 0))), (a50, .inl (zc G 0, 6, .inl (fun _ => 0))), (a58, .inl (zc G 0, 6, .inl (fun _ => 0))), (a66, .inl (zc G 0, 6, .inl (fun _ => 0))), (a74, .inl (zc G 0, 6, .inl (fun _ => 0))), (a81, .inl (zc G 0, 5, .inl (fun _ => 0))), (a88, .inl (zc G 0, 5, .inl (fun _ => 0))), (a95, .inl (zc G 0, 5, .inl (fun _ => 0))), (a102, .inl (zc G 0, 5, .inl (fun _ => 0))), (a110, .inl (zc G 0, 24, .inl (fun _ => 0))), (a118, .inl (zc G 0, 20, .inl (fun _ => 0))), (a126, .inl (zc G 0, 20, .inl (fun _ => 0))), (a134, .inl (zc G 0, 20, .inl (fun _ => 0))), (a142, .inl (zc G 1, 20, .inl (fun _ => 0)))] : va_W)) rfl ?_
  refine zx_aload C d_Mod_init_153 rfl ?_
  refine zx_ic C d_Mod_init_154 ?_
  refine zx_newa C ar_boolean rfl 1 rfl (a0 := (64, .inl (fun _ => 0))) (fun _ => rfl) (by decide) (by decide) (by decide) d_Mod_init_156 (Nat.le_of_ble_eq_true rfl) (Nat.le_of_ble_eq_true rfl) (fun a156 => ?_)
  refine zx_eq rfl rfl (w1 := ((w.set p (q, .inr (12, [.int 0, .int 0, .ref a6, .ref a33, .ref a42, .int 0, .int 0, .int 0, .ref a50, .ref a58, .ref a66, .ref a74, .ref a81, .ref a88, .ref a95, .ref a102, .int 0, .int 0, .int 0, .ref a110, .ref a118, .int 0, .ref a126, .ref a134, .ref a142, .int (-9), .int 0, .int 0, .null, .null, .null, .null, .int 0, .null]))) ++ [(a6, .inl (zc G 0, 4, .inl (upd (upd (upd (upd (fun _ => 0) 0 (-9)) 1 (-9)) 2 (-9)) 3 (-9)))), (a33, .inl (zc G 0, 4, .inl (fun _ => 0))), (a42, .inl (zc G 0, 240, .inl (fun _ => 0))), (a50, .inl (zc G 0, 6, .inl (fun _ => 0))), (a58, .inl (zc G 0, 6, .inl (fun _ => 0))), (a66, .inl (zc G 0, 6, .inl (fun _ => 0))), (a74, .inl (zc G 0, 6, .inl (fun _ => 0))), (a81, .inl (zc G 0, 5, .inl (fun _ => 0))), (a88, .inl (zc G 0, 5, .inl (fun _ => 0))), (a95, .inl (zc G 0, 5, .inl (fun _ => 0))), (a102, .inl (zc G 0, 5, .inl (fun _ => 0))), (a110, .inl (zc G 0, 24, .inl (fun _ => 0))), (a118, .inl (zc G 0, 20, .inl (fun _ => 0))), (a126, .inl (zc G 0, 20, .inl (fun _ => 0))), (a134, .inl (zc G 0, 20, .inl (fun _ => 0))), (a142, .inl (zc G 1, 20, .inl (fun _ => 0))), (a156, .inl (zc G 1, 64, .inl (fun _ => 0)))] : va_W)) (List.append_assoc _ _ _) ?_
  refine zx_putF C rfl p_Mod_63_12 d_Mod_init_158 p (in_at hl) zb_fit_ar (Nat.le_of_ble_eq_true rfl) (in_ss hl) ?_
  refine zx_eq rfl rfl (w1 := ((w.set p (q, .inr (12, [.int 0, .int 0, .ref a6, .ref a33, .ref a42, .int 0, .int 0, .int 0, .ref a50, .ref a58, .ref a66, .ref a74, .ref a81, .ref a88, .ref a95, .ref a102, .int 0, .int 0, .int 0, .ref a110, .ref a118, .int 0, .ref a126, .ref a134, .ref a142, .int (-9), .int 0, .int 0, .ref a156, .null, .null, .null, .int 0, .null]))) ++ [(a6, .inl (zc G 0, 4, .inl (upd (upd (upd (upd (fun _ => 0) 0 (-9)) 1 (-9)) 2 (-9)) 3 (-9)))), (a33, .inl (zc G 0, 4, .inl (fun _ => 0))), (a42, .inl (zc G 0, 240, .inl (fun _ => 0))), (a50, .inl (zc G 0, 6, .inl (fun _ => 0))), (a58, .inl (zc G 0, 6, .inl (fun _ => 0))), (a66, .inl (zc G 0, 6, .inl (fun _ => 0))), (a74, .inl (zc G 0, 6, .inl (fun _ => 0))), (a81, .inl (zc G 0, 5, .inl (fun _ => 0))), (a88, .inl (zc G 0, 5, .inl (fun _ => 0))), (a95, .inl (zc G 0, 5, .inl (fun _ => 0))), (a102, .inl (zc G 0, 5, .inl (fun _ => 0))), (a110, .inl (zc G 0, 24, .inl (fun _ => 0))), (a118, .inl (zc G 0, 20, .inl (fun _ => 0))), (a126, .inl (zc G 0, 20, .inl (fun _ => 0))), (a134, .inl (zc G 0, 20, .inl (fun _ => 0))), (a142, .inl (zc G 1, 20, .inl (fun _ => 0))), (a156, .inl (zc G 1, 64, .inl (fun _ => 0)))] : va_W)) rfl ?_
  refine zx_aload C d_Mod_init_161 rfl ?_
  refine zx_ic C d_Mod_init_162 ?_
  refine zx_newa C ar_boolean rfl 1 rfl (a0 := (3200, .inl (fun _ => 0))) (fun _ => rfl) (by decide) (by decide) (by decide) d_Mod_init_165 (Nat.le_of_ble_eq_true rfl) (Nat.le_of_ble_eq_true rfl) (fun a165 => ?_)
  refine zx_eq rfl rfl (w1 := ((w.set p (q, .inr (12, [.int 0, .int 0, .ref a6, .ref a33, .ref a42, .int 0, .int 0, .int 0, .ref a50, .ref a58, .ref a66, .ref a74, .ref a81, .ref a88, .ref a95, .ref a102, .int 0, .int 0, .int 0, .ref a110, .ref a118, .int 0, .ref a126, .ref a134, .ref a142, .int (-9), .int 0, .int 0, .ref a156, .null, .null, .null, .int 0, .null]))) ++ [(a6, .inl (zc G 0, 4, .inl (upd (upd (upd (upd (fun _ => 0) 0 (-9)) 1 (-9)) 2 (-9)) 3 (-9)))), (a33, .inl (zc G 0, 4, .inl (fun _ => 0))), (a42, .inl (zc G 0, 240, .inl (fun _ => 0))), (a50, .inl (zc G 0, 6, .inl (fun _ => 0))), (a58, .inl (zc G 0, 6, .inl (fun _ => 0))), (a66, .inl (zc G 0, 6, .inl (fun _ => 0))), (a74, .inl (zc G 0, 6, .inl (fun _ => 0))), (a81, .inl (zc G 0, 5, .inl (fun _ => 0))), (a88, .inl (zc G 0, 5, .inl (fun _ => 0))), (a95, .inl (zc G 0, 5, .inl (fun _ => 0))), (a102, .inl (zc G 0, 5, .inl (fun _ => 0))), (a110, .inl (zc G 0, 24, .inl (fun _ => 0))), (a118, .inl (zc G 0, 20, .inl (fun _ => 0))), (a126, .inl (zc G 0, 20, .inl (fun _ => 0))), (a134, .inl (zc G 0, 20, .inl (fun _ => 0))), (a142, .inl (zc G 1, 20, .inl (fun _ => 0))), (a156, .inl (zc G 1, 64, .inl (fun _ => 0))), (a165, .inl (zc G 1, 3200, .inl (fun _ => 0)))] : va_W)) (List.append_assoc _ _ _) ?_
  refine zx_putF C rfl p_Mod_66_12 d_Mod_init_167 p (in_at hl) zb_fit_ar (Nat.le_of_ble_eq_true rfl) (in_ss hl) ?_
  refine zx_eq rfl rfl (w1 := ((w.set p (q, .inr (12, [.int 0, .int 0, .ref a6, .ref a33, .ref a42, .int 0, .int 0, .int 0, .ref a50, .ref a58, .ref a66, .ref a74, .ref a81, .ref a88, .ref a95, .ref a102, .int 0, .int 0, .int 0, .ref a110, .ref a118, .int 0, .ref a126, .ref a134, .ref a142, .int (-9), .int 0, .int 0, .ref a156, .ref a165, .null, .null, .int 0, .null]))) ++ [(a6, .inl (zc G 0, 4, .inl (upd (upd (upd (upd (fun _ => 0) 0 (-9)) 1 (-9)) 2 (-9)) 3 (-9)))), (a33, .inl (zc G 0, 4, .inl (fun _ => 0))), (a42, .inl (zc G 0, 240, .inl (fun _ => 0))), (a50, .inl (zc G 0, 6, .inl (fun _ => 0))), (a58, .inl (zc G 0, 6, .inl (fun _ => 0))), (a66, .inl (zc G 0, 6, .inl (fun _ => 0))), (a74, .inl (zc G 0, 6, .inl (fun _ => 0))), (a81, .inl (zc G 0, 5, .inl (fun _ => 0))), (a88, .inl (zc G 0, 5, .inl (fun _ => 0))), (a95, .inl (zc G 0, 5, .inl (fun _ => 0))), (a102, .inl (zc G 0, 5, .inl (fun _ => 0))), (a110, .inl (zc G 0, 24, .inl (fun _ => 0))), (a118, .inl (zc G 0, 20, .inl (fun _ => 0))), (a126, .inl (zc G 0, 20, .inl (fun _ => 0))), (a134, .inl (zc G 0, 20, .inl (fun _ => 0))), (a142, .inl (zc G 1, 20, .inl (fun _ => 0))), (a156, .inl (zc G 1, 64, .inl (fun _ => 0))), (a165, .inl (zc G 1, 3200, .inl (fun _ => 0)))] : va_W)) rfl ?_
  refine zx_aload C d_Mod_init_170 rfl ?_
  refine zx_ic C d_Mod_init_171 ?_
  refine zx_newa C ar_boolean rfl 1 rfl (a0 := (64, .inl (fun _ => 0))) (fun _ => rfl) (by decide) (by decide) (by decide) d_Mod_init_173 (Nat.le_of_ble_eq_true rfl) (Nat.le_of_ble_eq_true rfl) (fun a173 => ?_)
  refine zx_eq rfl rfl (w1 := ((w.set p (q, .inr (12, [.int 0, .int 0, .ref a6, .ref a33, .ref a42, .int 0, .int 0, .int 0, .ref a50, .ref a58, .ref a66, .ref a74, .ref a81, .ref a88, .ref a95, .ref a102, .int 0, .int 0, .int 0, .ref a110, .ref a118, .int 0, .ref a126, .ref a134, .ref a142, .int (-9), .int 0, .int 0, .ref a156, .ref a165, .null, .null, .int 0, .null]))) ++ [(a6, .inl (zc G 0, 4, .inl (upd (upd (upd (upd (fun _ => 0) 0 (-9)) 1 (-9)) 2 (-9)) 3 (-9)))), (a33, .inl (zc G 0, 4, .inl (fun _ => 0))), (a42, .inl (zc G 0, 240, .inl (fun _ => 0))), (a50, .inl (zc G 0, 6, .inl (fun _ => 0))), (a58, .inl (zc G 0, 6, .inl (fun _ => 0))), (a66, .inl (zc G 0, 6, .inl (fun _ => 0))), (a74, .inl (zc G 0, 6, .inl (fun _ => 0))), (a81, .inl (zc G 0, 5, .inl (fun _ => 0))), (a88, .inl (zc G 0, 5, .inl (fun _ => 0))), (a95, .inl (zc G 0, 5, .inl (fun _ => 0))), (a102, .inl (zc G 0, 5, .inl (fun _ => 0))), (a110, .inl (zc G 0, 24, .inl (fun _ => 0))), (a118, .inl (zc G 0, 20, .inl (fun _ => 0))), (a126, .inl (zc G 0, 20, .inl (fun _ => 0))), (a134, .inl (zc G 0, 20, .inl (fun _ => 0))), (a142, .inl (zc G 1, 20, .inl (fun _ => 0))), (a156, .inl (zc G 1, 64, .inl (fun _ => 0))), (a165, .inl (zc G 1, 3200, .inl (fun _ => 0))), (a173, .inl (zc G 1, 64, .inl (fun _ => 0)))] : va_W)) (List.append_assoc _ _ _) ?_
  refine zx_putF C rfl p_Mod_69_12 d_Mod_init_175 p (in_at hl) zb_fit_ar (Nat.le_of_ble_eq_true rfl) (in_ss hl) ?_
  refine zx_eq rfl rfl (w1 := ((w.set p (q, .inr (12, [.int 0, .int 0, .ref a6, .ref a33, .ref a42, .int 0, .int 0, .int 0, .ref a50, .ref a58, .ref a66, .ref a74, .ref a81, .ref a88, .ref a95, .ref a102, .int 0, .int 0, .int 0, .ref a110, .ref a118, .int 0, .ref a126, .ref a134, .ref a142, .int (-9), .int 0, .int 0, .ref a156, .ref a165, .ref a173, .null, .int 0, .null]))) ++ [(a6, .inl (zc G 0, 4, .inl (upd (upd (upd (upd (fun _ => 0) 0 (-9)) 1 (-9)) 2 (-9)) 3 (-9)))), (a33, .inl (zc G 0, 4, .inl (fun _ => 0))), (a42, .inl (zc G 0, 240, .inl (fun _ => 0))), (a50, .inl (zc G 0, 6, .inl (fun _ => 0))), (a58, .inl (zc G 0, 6, .inl (fun _ => 0))), (a66, .inl (zc G 0, 6, .inl (fun _ => 0))), (a74, .inl (zc G 0, 6, .inl (fun _ => 0))), (a81, .inl (zc G 0, 5, .inl (fun _ => 0))), (a88, .inl (zc G 0, 5, .inl (fun _ => 0))), (a95, .inl (zc G 0, 5, .inl (fun _ => 0))), (a102, .inl (zc G 0, 5, .inl (fun _ => 0))), (a110, .inl (zc G 0, 24, .inl (fun _ => 0))), (a118, .inl (zc G 0, 20, .inl (fun _ => 0))), (a126, .inl (zc G 0, 20, .inl (fun _ => 0))), (a134, .inl (zc G 0, 20, .inl (fun _ => 0))), (a142, .inl (zc G 1, 20, .inl (fun _ => 0))), (a156, .inl (zc G 1, 64, .inl (fun _ => 0))), (a165, .inl (zc G 1, 3200, .inl (fun _ => 0))), (a173, .inl (zc G 1, 64, .inl (fun _ => 0)))] : va_W)) rfl ?_
  refine zx_aload C d_Mod_init_178 rfl ?_
  refine zx_ic C d_Mod_init_179 ?_
  refine zx_newa C ar_boolean rfl 1 rfl (a0 := (64, .inl (fun _ => 0))) (fun _ => rfl) (by decide) (by decide) (by decide) d_Mod_init_181 (Nat.le_of_ble_eq_true rfl) (Nat.le_of_ble_eq_true rfl) (fun a181 => ?_)
  refine zx_eq rfl rfl (w1 := ((w.set p (q, .inr (12, [.int 0, .int 0, .ref a6, .ref a33, .ref a42, .int 0, .int 0, .int 0, .ref a50, .ref a58, .ref a66, .ref a74, .ref a81, .ref a88, .ref a95, .ref a102, .int 0, .int 0, .int 0, .ref a110, .ref a118, .int 0, .ref a126, .ref a134, .ref a142, .int (-9), .int 0, .int 0, .ref a156, .ref a165, .ref a173, .null, .int 0, .null]))) ++ [(a6, .inl (zc G 0, 4, .inl (upd (upd (upd (upd (fun _ => 0) 0 (-9)) 1 (-9)) 2 (-9)) 3 (-9)))), (a33, .inl (zc G 0, 4, .inl (fun _ => 0))), (a42, .inl (zc G 0, 240, .inl (fun _ => 0))), (a50, .inl (zc G 0, 6, .inl (fun _ => 0))), (a58, .inl (zc G 0, 6, .inl (fun _ => 0))), (a66, .inl (zc G 0, 6, .inl (fun _ => 0))), (a74, .inl (zc G 0, 6, .inl (fun _ => 0))), (a81, .inl (zc G 0, 5, .inl (fun _ => 0))), (a88, .inl (zc G 0, 5, .inl (fun _ => 0))), (a95, .inl (zc G 0, 5, .inl (fun _ => 0))), (a102, .inl (zc G 0, 5, .inl (fun _ => 0))), (a110, .inl (zc G 0, 24, .inl (fun _ => 0))), (a118, .inl (zc G 0, 20, .inl (fun _ => 0))), (a126, .inl (zc G 0, 20, .inl (fun _ => 0))), (a134, .inl (zc G 0, 20, .inl (fun _ => 0))), (a142, .inl (zc G 1, 20, .inl (fun _ => 0))), (a156, .inl (zc G 1, 64, .inl (fun _ => 0))), (a165, .inl (zc G 1, 3200, .inl (fun _ => 0))), (a173, .inl (zc G 1, 64, .inl (fun _ => 0))), (a181, .inl (zc G 1, 64, .inl (fun _ => 0)))] : va_W)) (List.append_assoc _ _ _) ?_
  refine zx_putF C rfl p_Mod_72_12 d_Mod_init_183 p (in_at hl) zb_fit_ar (Nat.le_of_ble_eq_true rfl) (in_ss hl) ?_
  refine zx_eq rfl rfl (w1 := ((w.set p (q, .inr (12, [.int 0, .int 0, .ref a6, .ref a33, .ref a42, .int 0, .int 0, .int 0, .ref a50, .ref a58, .ref a66, .ref a74, .ref a81, .ref a88, .ref a95, .ref a102, .int 0, .int 0, .int 0, .ref a110, .ref a118, .int 0, .ref a126, .ref a134, .ref a142, .int (-9), .int 0, .int 0, .ref a156, .ref a165, .ref a173, .ref a181, .int 0, .null]))) ++ [(a6, .inl (zc G 0, 4, .inl (upd (upd (upd (upd (fun _ => 0) 0 (-9)) 1 (-9)) 2 (-9)) 3 (-9)))), (a33, .inl (zc G 0, 4, .inl (fun _ => 0))), (a42, .inl (zc G 0, 240, .inl (fun _ => 0))), (a50, .inl (zc G 0, 6, .inl (fun _ => 0))), (a58, .inl (zc G 0, 6, .inl (fun _ => 0))), (a66, .inl (zc G 0, 6, .inl (fun _ => 0))), (a74, .inl (zc G 0, 6, .inl (fun _ => 0))), (a81, .inl (zc G 0, 5, .inl (fun _ => 0))), (a88, .inl (zc G 0, 5, .inl (fun _ => 0))), (a95, .inl (zc G 0, 5, .inl (fun _ => 0))), (a102, .inl (zc G 0, 5, .inl (fun _ => 0))), (a110, .inl (zc G 0, 24, .inl (fun _ => 0))), (a118, .inl (zc G 0, 20, .inl (fun _ => 0))), (a126, .inl (zc G 0, 20, .inl (fun _ => 0))), (a134, .inl (zc G 0, 20, .inl (fun _ => 0))), (a142, .inl (zc G 1, 20, .inl (fun _ => 0))), (a156, .inl (zc G 1, 64, .inl (fun _ => 0))), (a165, .inl (zc G 1, 3200, .inl (fun _ => 0))), (a173, .inl (zc G 1, 64, .inl (fun _ => 0))), (a181, .inl (zc G 1, 64, .inl (fun _ => 0)))] : va_W)) rfl ?_
  refine zx_aload C d_Mod_init_186 rfl ?_
  refine zx_ic C d_Mod_init_187 ?_
  refine zx_newa C ar_int rfl 0 rfl (a0 := (8, .inl (fun _ => 0))) (fun _ => rfl) (by decide) (by decide) (by decide) d_Mod_init_189 (Nat.le_of_ble_eq_true rfl) (Nat.le_of_ble_eq_true rfl) (fun a189 => ?_)
  refine zx_eq rfl rfl (w1 := ((w.set p (q, .inr (12, [.int 0, .int 0, .ref a6, .ref a33, .ref a42, .int 0, .int 0, .int 0, .ref a50, .ref a58, .ref a66, .ref a74, .ref a81, .ref a88, .ref a95, .ref a102, .int 0, .int 0, .int 0, .ref a110, .ref a118, .int 0, .ref a126, .ref a134, .ref a142, .int (-9), .int 0, .int 0, .ref a156, .ref a165, .ref a173, .ref a181, .int 0, .null]))) ++ [(a6, .inl (zc G 0, 4, .inl (upd (upd (upd (upd (fun _ => 0) 0 (-9)) 1 (-9)) 2 (-9)) 3 (-9)))), (a33, .inl (zc G 0, 4, .inl (fun _ => 0))), (a42, .inl (zc G 0, 240, .inl (fun _ => 0))), (a50, .inl (zc G 0, 6, .inl (fun _ => 0))), (a58, .inl (zc G 0, 6, .inl (fun _ => 0))), (a66, .inl (zc G 0, 6, .inl (fun _ => 0))), (a74, .inl (zc G 0, 6, .inl (fun _ => 0))), (a81, .inl (zc G 0, 5, .inl (fun _ => 0))), (a88, .inl (zc G 0, 5, .inl (fun _ => 0))), (a95, .inl (zc G 0, 5, .inl (fun _ => 0))), (a102, .inl (zc G 0, 5, .inl (fun _ => 0))), (a110, .inl (zc G 0, 24, .inl (fun _ => 0))), (a118, .inl (zc G 0, 20, .inl (fun _ => 0))), (a126, .inl (zc G 0, 20, .inl (fun _ => 0))), (a134, .inl (zc G 0, 20, .inl (fun _ => 0))), (a142, .inl (zc G 1, 20, .inl (fun _ => 0))), (a156, .inl (zc G 1, 64, .inl (fun _ => 0))), (a165, .inl (zc G 1, 3200, .inl (fun _ => 0))), (a173, .inl (zc G 1, 64, .inl (fun _ => 0))), (a181, .inl (zc G 1, 64, .inl (fun _ => 0))), (a189, .inl (zc G 0, 8, .inl (fun _ => 0)))] : va_W)) (List.append_assoc _ _ _) ?_
  refine zx_putF C rfl p_Mod_75_12 d_Mod_init_191 p (in_at hl) zb_fit_ar (Nat.le_of_ble_eq_true rfl) (in_ss hl) ?_
  refine zx_eq rfl rfl (w1 := ((w.set p (q, .inr (12, [.int 0, .int 0, .ref a6, .ref a33, .ref a42, .int 0, .int 0, .int 0, .ref a50, .ref a58, .ref a66, .ref a74, .ref a81, .ref a88, .ref a95, .ref a102, .int 0, .int 0, .int 0, .ref a110, .ref a118, .int 0, .ref a126, .ref a134, .ref a142, .int (-9), .int 0, .int 0, .ref a156, .ref a165, .ref a173, .ref a181, .int 0, .ref a189]))) ++ [(a6, .inl (zc G 0, 4, .inl (upd (upd (upd (upd (fun _ => 0) 0 (-9)) 1 (-9)) 2 (-9)) 3 (-9)))), (a33, .inl (zc G 0, 4, .inl (fun _ => 0))), (a42, .inl (zc G 0, 240, .inl (fun _ => 0))), (a50, .inl (zc G 0, 6, .inl (fun _ => 0))), (a58, .inl (zc G 0, 6, .inl (fun _ => 0))), (a66, .inl (zc G 0, 6, .inl (fun _ => 0))), (a74, .inl (zc G 0, 6, .inl (fun _ => 0))), (a81, .inl (zc G 0, 5, .inl (fun _ => 0))), (a88, .inl (zc G 0, 5, .inl (fun _ => 0))), (a95, .inl (zc G 0, 5, .inl (fun _ => 0))), (a102, .inl (zc G 0, 5, .inl (fun _ => 0))), (a110, .inl (zc G 0, 24, .inl (fun _ => 0))), (a118, .inl (zc G 0, 20, .inl (fun _ => 0))), (a126, .inl (zc G 0, 20, .inl (fun _ => 0))), (a134, .inl (zc G 0, 20, .inl (fun _ => 0))), (a142, .inl (zc G 1, 20, .inl (fun _ => 0))), (a156, .inl (zc G 1, 64, .inl (fun _ => 0))), (a165, .inl (zc G 1, 3200, .inl (fun _ => 0))), (a173, .inl (zc G 1, 64, .inl (fun _ => 0))), (a181, .inl (zc G 1, 64, .inl (fun _ => 0))), (a189, .inl (zc G 0, 8, .inl (fun _ => 0)))] : va_W)) rfl ?_
  refine zx_widen (kc1 := 40) (ks1 := 8000) (by decide) (by decide) (zx_vret C hq d_Mod_init_194 ⟨rfl, (fun k => [0, 0, a6, a33, a42, 0, 0, 0, a50, a58, a66, a74, a81, a88, a95, a102, 0, 0, 0, a110, a118, 0, a126, a134, a142, 0, 0, 0, a156, a165, a173, a181, 0, a189].getD k 0), (fun k => if k = 25 then -9 else 0), (fun k => if k = 2 then (upd (upd (upd (upd (fun _ => 0) 0 (-9)) 1 (-9)) 2 (-9)) 3 (-9)) else fun _ => 0), mrp_00, [(a6, .inl (zc G 0, 4, .inl (upd (upd (upd (upd (fun _ => 0) 0 (-9)) 1 (-9)) 2 (-9)) 3 (-9)))), (a33, .inl (zc G 0, 4, .inl (fun _ => 0))), (a42, .inl (zc G 0, 240, .inl (fun _ => 0))), (a50, .inl (zc G 0, 6, .inl (fun _ => 0))), (a58, .inl (zc G 0, 6, .inl (fun _ => 0))), (a66, .inl (zc G 0, 6, .inl (fun _ => 0))), (a74, .inl (zc G 0, 6, .inl (fun _ => 0))), (a81, .inl (zc G 0, 5, .inl (fun _ => 0))), (a88, .inl (zc G 0, 5, .inl (fun _ => 0))), (a95, .inl (zc G 0, 5, .inl (fun _ => 0))), (a102, .inl (zc G 0, 5, .inl (fun _ => 0))), (a110, .inl (zc G 0, 24, .inl (fun _ => 0))), (a118, .inl (zc G 0, 20, .inl (fun _ => 0))), (a126, .inl (zc G 0, 20, .inl (fun _ => 0))), (a134, .inl (zc G 0, 20, .inl (fun _ => 0))), (a142, .inl (zc G 1, 20, .inl (fun _ => 0))), (a156, .inl (zc G 1, 64, .inl (fun _ => 0))), (a165, .inl (zc G 1, 3200, .inl (fun _ => 0))), (a173, .inl (zc G 1, 64, .inl (fun _ => 0))), (a181, .inl (zc G 1, 64, .inl (fun _ => 0))), (a189, .inl (zc G 0, 8, .inl (fun _ => 0)))], rfl, rfl⟩)
