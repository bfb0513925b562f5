theorem ap_tz {A Z : va_W} {t c : Nat × va_E} : A ++ (t :: (Z ++ [c])) = (A ++ (t :: Z)) ++ [c] := by simp
theorem zb_fit_ar {t : FieldType} {a : Nat} : zb_fit (.array t) (.ref a) := ⟨rfl, rfl⟩
set_option maxHeartbeats 600000 in
set_option maxRecDepth 20000 in
theorem c_Hap_init2 (G : ZG) (w : va_W) (p q : Nat) (hw : w[p]? = some (q, .inr (2, [.int 0, .int 0, .int 0, .long 0, .long 0, .int 0]))) (x mi : Int32) (ne fa : Nat) (hne : ne ≤ 6) (hfa : fa ≤ 6) : ZM G y_Hap_init b_Hap_init 5 none r_Hap_init [.ref q, .int x, .int mi, .int (nI ne), .int (nI fa)] w (zdv (w.set p (q, .inr (2, [.int x, .int (nI ne), .int (nI fa), .long (ww ne), .long (ww fa), .int mi])))) := by
  refine ZM.of "SameTuesday$Happening" "<init>" rfl rfl (by decide) (Nat.le_of_ble_eq_true rfl) (fun Y C hq => ?_)
  change ZV G Y 0 0 0 [(0, .ref q), (1, .int x), (2, .int mi), (3, .int (nI ne)), (4, .int (nI fa))] [] w
  have hl := sg_len hw
  refine zx_eq rfl rfl (w1 := w.set p (q, .inr (2, [.int 0, .int 0, .int 0, .long 0, .long 0, .int 0]))) (sg_id hw).symm ?_
  refine zx_aload C d_Hap_init_0 rfl ?_
  refine zx_obj C ob_Hap_1 ob_i ob_c d_Hap_init_1 (Nat.le_of_ble_eq_true rfl) (Nat.le_of_ble_eq_true rfl) ?_
  refine zx_aload C d_Hap_init_4 rfl ?_
  refine zx_iload C d_Hap_init_5 rfl ?_
  refine zx_putF C rfl p_Hap_7_2 d_Hap_init_6 p (sg_at hl) zb_fit_i (Nat.le_of_ble_eq_true rfl) sg_ss ?_
  refine zx_aload C d_Hap_init_9 rfl ?_
  refine zx_iload C d_Hap_init_10 rfl ?_
  refine zx_put C p_Hap_13_2 d_Hap_init_11 p (sg_at hl) zb_fit_i (Nat.le_of_ble_eq_true rfl) sg_ss ?_
  refine zx_aload C d_Hap_init_14 rfl ?_
  refine zx_iload C d_Hap_init_15 rfl ?_
  refine zx_putF C rfl p_Hap_16_2 d_Hap_init_16 p (sg_at hl) zb_fit_i (Nat.le_of_ble_eq_true rfl) sg_ss ?_
  refine zx_aload C d_Hap_init_19 rfl ?_
  refine zx_iload C d_Hap_init_20 rfl ?_
  refine zx_putF C rfl p_Hap_19_2 d_Hap_init_22 p (sg_at hl) zb_fit_i (Nat.le_of_ble_eq_true rfl) sg_ss ?_
  refine zx_aload C d_Hap_init_25 rfl ?_
  refine zx_iload C d_Hap_init_26 rfl ?_
  refine zr_dl (zr_N C l_Hap_22 d_Hap_init_27 (As := [_]) rfl rfl (Nat.le_of_ble_eq_true rfl) (c_Tue_worldWith G _ ne (by omega)) ⟨Nat.le_of_ble_eq_true rfl, Nat.le_of_ble_eq_true rfl, Nat.le_of_ble_eq_true rfl, Nat.le_of_ble_eq_true rfl⟩) ?_
  refine zx_putF C rfl p_Hap_28_2 d_Hap_init_30 p (sg_at hl) zb_fit_l (Nat.le_of_ble_eq_true rfl) sg_ss ?_
  refine zx_aload C d_Hap_init_33 rfl ?_
  refine zx_iload C d_Hap_init_34 rfl ?_
  refine zr_dl (zr_N C l_Hap_22 d_Hap_init_36 (As := [_]) rfl rfl (Nat.le_of_ble_eq_true rfl) (c_Tue_worldWith G _ fa (by omega)) ⟨Nat.le_of_ble_eq_true rfl, Nat.le_of_ble_eq_true rfl, Nat.le_of_ble_eq_true rfl, Nat.le_of_ble_eq_true rfl⟩) ?_
  refine zx_putF C rfl p_Hap_32_2 d_Hap_init_39 p (sg_at hl) zb_fit_l (Nat.le_of_ble_eq_true rfl) sg_ss ?_
  exact zx_vret C hq d_Hap_init_42 (⟨rfl, rfl⟩)
set_option maxHeartbeats 600000 in
set_option maxRecDepth 20000 in
theorem c_Hap_init5 (G : ZG) (w : va_W) (p q : Nat) (hw : w[p]? = some (q, .inr (5, [.int 0, .int 0, .int 0, .long 0, .long 0, .int 0]))) (x mi : Int32) (ne fa : Nat) (hne : ne ≤ 6) (hfa : fa ≤ 6) : ZM G y_Hap_init b_Hap_init 5 none r_Hap_init [.ref q, .int x, .int mi, .int (nI ne), .int (nI fa)] w (zdv (w.set p (q, .inr (5, [.int x, .int (nI ne), .int (nI fa), .long (ww ne), .long (ww fa), .int mi])))) := by
  refine ZM.of "SameTuesday$Happening" "<init>" rfl rfl (by decide) (Nat.le_of_ble_eq_true rfl) (fun Y C hq => ?_)
  change ZV G Y 0 0 0 [(0, .ref q), (1, .int x), (2, .int mi), (3, .int (nI ne)), (4, .int (nI fa))] [] w
  have hl := sg_len hw
  refine zx_eq rfl rfl (w1 := w.set p (q, .inr (5, [.int 0, .int 0, .int 0, .long 0, .long 0, .int 0]))) (sg_id hw).symm ?_
  refine zx_aload C d_Hap_init_0 rfl ?_
  refine zx_obj C ob_Hap_1 ob_i ob_c d_Hap_init_1 (Nat.le_of_ble_eq_true rfl) (Nat.le_of_ble_eq_true rfl) ?_
  refine zx_aload C d_Hap_init_4 rfl ?_
  refine zx_iload C d_Hap_init_5 rfl ?_
  refine zx_putF C rfl p_Hap_7_5 d_Hap_init_6 p (sg_at hl) zb_fit_i (Nat.le_of_ble_eq_true rfl) sg_ss ?_
  refine zx_aload C d_Hap_init_9 rfl ?_
  refine zx_iload C d_Hap_init_10 rfl ?_
  refine zx_put C p_Hap_13_5 d_Hap_init_11 p (sg_at hl) zb_fit_i (Nat.le_of_ble_eq_true rfl) sg_ss ?_
  refine zx_aload C d_Hap_init_14 rfl ?_
  refine zx_iload C d_Hap_init_15 rfl ?_
  refine zx_putF C rfl p_Hap_16_5 d_Hap_init_16 p (sg_at hl) zb_fit_i (Nat.le_of_ble_eq_true rfl) sg_ss ?_
  refine zx_aload C d_Hap_init_19 rfl ?_
  refine zx_iload C d_Hap_init_20 rfl ?_
  refine zx_putF C rfl p_Hap_19_5 d_Hap_init_22 p (sg_at hl) zb_fit_i (Nat.le_of_ble_eq_true rfl) sg_ss ?_
  refine zx_aload C d_Hap_init_25 rfl ?_
  refine zx_iload C d_Hap_init_26 rfl ?_
  refine zr_dl (zr_N C l_Hap_22 d_Hap_init_27 (As := [_]) rfl rfl (Nat.le_of_ble_eq_true rfl) (c_Tue_worldWith G _ ne (by omega)) ⟨Nat.le_of_ble_eq_true rfl, Nat.le_of_ble_eq_true rfl, Nat.le_of_ble_eq_true rfl, Nat.le_of_ble_eq_true rfl⟩) ?_
  refine zx_putF C rfl p_Hap_28_5 d_Hap_init_30 p (sg_at hl) zb_fit_l (Nat.le_of_ble_eq_true rfl) sg_ss ?_
  refine zx_aload C d_Hap_init_33 rfl ?_
  refine zx_iload C d_Hap_init_34 rfl ?_
  refine zr_dl (zr_N C l_Hap_22 d_Hap_init_36 (As := [_]) rfl rfl (Nat.le_of_ble_eq_true rfl) (c_Tue_worldWith G _ fa (by omega)) ⟨Nat.le_of_ble_eq_true rfl, Nat.le_of_ble_eq_true rfl, Nat.le_of_ble_eq_true rfl, Nat.le_of_ble_eq_true rfl⟩) ?_
  refine zx_putF C rfl p_Hap_32_5 d_Hap_init_39 p (sg_at hl) zb_fit_l (Nat.le_of_ble_eq_true rfl) sg_ss ?_
  exact zx_vret C hq d_Hap_init_42 (⟨rfl, rfl⟩)
set_option maxHeartbeats 600000 in
set_option maxRecDepth 20000 in
theorem c_Hap_init0 (G : ZG) (w : va_W) (p q : Nat) (hw : w[p]? = some (q, .inr (0, [.int 0, .int 0, .int 0, .long 0, .long 0, .int 0]))) (x mi : Int32) (ne fa : Nat) (hne : ne ≤ 6) (hfa : fa ≤ 6) : ZM G y_Hap_init b_Hap_init 5 none r_Hap_init [.ref q, .int x, .int mi, .int (nI ne), .int (nI fa)] w (zdv (w.set p (q, .inr (0, [.int x, .int (nI ne), .int (nI fa), .long (ww ne), .long (ww fa), .int mi])))) := by
  refine ZM.of "SameTuesday$Happening" "<init>" rfl rfl (by decide) (Nat.le_of_ble_eq_true rfl) (fun Y C hq => ?_)
  change ZV G Y 0 0 0 [(0, .ref q), (1, .int x), (2, .int mi), (3, .int (nI ne)), (4, .int (nI fa))] [] w
  have hl := sg_len hw
  refine zx_eq rfl rfl (w1 := w.set p (q, .inr (0, [.int 0, .int 0, .int 0, .long 0, .long 0, .int 0]))) (sg_id hw).symm ?_
  refine zx_aload C d_Hap_init_0 rfl ?_
  refine zx_obj C ob_Hap_1 ob_i ob_c d_Hap_init_1 (Nat.le_of_ble_eq_true rfl) (Nat.le_of_ble_eq_true rfl) ?_
  refine zx_aload C d_Hap_init_4 rfl ?_
  refine zx_iload C d_Hap_init_5 rfl ?_
  refine zx_putF C rfl p_Hap_7_0 d_Hap_init_6 p (sg_at hl) zb_fit_i (Nat.le_of_ble_eq_true rfl) sg_ss ?_
  refine zx_aload C d_Hap_init_9 rfl ?_
  refine zx_iload C d_Hap_init_10 rfl ?_
  refine zx_put C p_Hap_13_0 d_Hap_init_11 p (sg_at hl) zb_fit_i (Nat.le_of_ble_eq_true rfl) sg_ss ?_
  refine zx_aload C d_Hap_init_14 rfl ?_
  refine zx_iload C d_Hap_init_15 rfl ?_
  refine zx_putF C rfl p_Hap_16_0 d_Hap_init_16 p (sg_at hl) zb_fit_i (Nat.le_of_ble_eq_true rfl) sg_ss ?_
  refine zx_aload C d_Hap_init_19 rfl ?_
  refine zx_iload C d_Hap_init_20 rfl ?_
  refine zx_putF C rfl p_Hap_19_0 d_Hap_init_22 p (sg_at hl) zb_fit_i (Nat.le_of_ble_eq_true rfl) sg_ss ?_
  refine zx_aload C d_Hap_init_25 rfl ?_
  refine zx_iload C d_Hap_init_26 rfl ?_
  refine zr_dl (zr_N C l_Hap_22 d_Hap_init_27 (As := [_]) rfl rfl (Nat.le_of_ble_eq_true rfl) (c_Tue_worldWith G _ ne (by omega)) ⟨Nat.le_of_ble_eq_true rfl, Nat.le_of_ble_eq_true rfl, Nat.le_of_ble_eq_true rfl, Nat.le_of_ble_eq_true rfl⟩) ?_
  refine zx_putF C rfl p_Hap_28_0 d_Hap_init_30 p (sg_at hl) zb_fit_l (Nat.le_of_ble_eq_true rfl) sg_ss ?_
  refine zx_aload C d_Hap_init_33 rfl ?_
  refine zx_iload C d_Hap_init_34 rfl ?_
  refine zr_dl (zr_N C l_Hap_22 d_Hap_init_36 (As := [_]) rfl rfl (Nat.le_of_ble_eq_true rfl) (c_Tue_worldWith G _ fa (by omega)) ⟨Nat.le_of_ble_eq_true rfl, Nat.le_of_ble_eq_true rfl, Nat.le_of_ble_eq_true rfl, Nat.le_of_ble_eq_true rfl⟩) ?_
  refine zx_putF C rfl p_Hap_32_0 d_Hap_init_39 p (sg_at hl) zb_fit_l (Nat.le_of_ble_eq_true rfl) sg_ss ?_
  exact zx_vret C hq d_Hap_init_42 (⟨rfl, rfl⟩)
set_option maxHeartbeats 600000 in
set_option maxRecDepth 20000 in
theorem c_Mis_init (G : ZG) (w : va_W) (p q : Nat) (hw : w[p]? = some (q, .inr (5, [.int 0, .int 0, .int 0, .long 0, .long 0, .int 0]))) (x mi : Int32) (ne fa : Nat) (hne : ne ≤ 6) (hfa : fa ≤ 6) : ZM G y_Mis_init b_Mis_init 5 none r_Mis_init [.ref q, .int x, .int mi, .int (nI ne), .int (nI fa)] w (zdv (w.set p (q, .inr (5, [.int x, .int (nI ne), .int (nI fa), .long (ww ne), .long (ww fa), .int mi])))) := by
  refine ZM.of "SameTuesday$Mishap" "<init>" rfl rfl (by decide) (Nat.le_of_ble_eq_true rfl) (fun Y C hq => ?_)
  change ZV G Y 0 0 0 [(0, .ref q), (1, .int x), (2, .int mi), (3, .int (nI ne)), (4, .int (nI fa))] [] w
  refine zx_aload C d_Mis_init_0 rfl ?_
  refine zx_iload C d_Mis_init_1 rfl ?_
  refine zx_iload C d_Mis_init_2 rfl ?_
  refine zx_iload C d_Mis_init_3 rfl ?_
  refine zx_iload C d_Mis_init_4 rfl ?_
  refine zr_dv (zr_I C l_Mis_1 d_Mis_init_6 (As := [_, _, _, _]) rfl rfl (Nat.le_of_ble_eq_true rfl) (c_Hap_init5 G w p q hw _ _ ne fa hne hfa) ⟨Nat.le_of_ble_eq_true rfl, Nat.le_of_ble_eq_true rfl, Nat.le_of_ble_eq_true rfl, Nat.le_of_ble_eq_true rfl⟩) ?_
  exact zx_vret C hq d_Mis_init_9 (⟨rfl, rfl⟩)
set_option maxHeartbeats 600000 in
set_option maxRecDepth 20000 in
theorem c_Mis_init0 (G : ZG) (w : va_W) (p q : Nat) (hw : w[p]? = some (q, .inr (0, [.int 0, .int 0, .int 0, .long 0, .long 0, .int 0]))) (x mi : Int32) (ne fa : Nat) (hne : ne ≤ 6) (hfa : fa ≤ 6) : ZM G y_Mis_init b_Mis_init 5 none r_Mis_init [.ref q, .int x, .int mi, .int (nI ne), .int (nI fa)] w (zdv (w.set p (q, .inr (0, [.int x, .int (nI ne), .int (nI fa), .long (ww ne), .long (ww fa), .int mi])))) := by
  refine ZM.of "SameTuesday$Mishap" "<init>" rfl rfl (by decide) (Nat.le_of_ble_eq_true rfl) (fun Y C hq => ?_)
  change ZV G Y 0 0 0 [(0, .ref q), (1, .int x), (2, .int mi), (3, .int (nI ne)), (4, .int (nI fa))] [] w
  refine zx_aload C d_Mis_init_0 rfl ?_
  refine zx_iload C d_Mis_init_1 rfl ?_
  refine zx_iload C d_Mis_init_2 rfl ?_
  refine zx_iload C d_Mis_init_3 rfl ?_
  refine zx_iload C d_Mis_init_4 rfl ?_
  refine zr_dv (zr_I C l_Mis_1 d_Mis_init_6 (As := [_, _, _, _]) rfl rfl (Nat.le_of_ble_eq_true rfl) (c_Hap_init0 G w p q hw _ _ ne fa hne hfa) ⟨Nat.le_of_ble_eq_true rfl, Nat.le_of_ble_eq_true rfl, Nat.le_of_ble_eq_true rfl, Nat.le_of_ble_eq_true rfl⟩) ?_
  exact zx_vret C hq d_Mis_init_9 (⟨rfl, rfl⟩)
set_option maxHeartbeats 600000 in
set_option maxRecDepth 20000 in
theorem c_Cap_init (G : ZG) (w : va_W) (p q : Nat) (hw : w[p]? = some (q, .inr (0, [.int 0, .int 0, .int 0, .long 0, .long 0, .int 0]))) (x mi : Int32) (ne fa : Nat) (hne : ne ≤ 6) (hfa : fa ≤ 6) : ZM G y_Cap_init b_Cap_init 5 none r_Cap_init [.ref q, .int x, .int mi, .int (nI ne), .int (nI fa)] w (zdv (w.set p (q, .inr (0, [.int x, .int (nI ne), .int (nI fa), .long (ww ne), .long (ww fa), .int mi])))) := by
  refine ZM.of "SameTuesday$Caprice" "<init>" rfl rfl (by decide) (Nat.le_of_ble_eq_true rfl) (fun Y C hq => ?_)
  change ZV G Y 0 0 0 [(0, .ref q), (1, .int x), (2, .int mi), (3, .int (nI ne)), (4, .int (nI fa))] [] w
  refine zx_aload C d_Cap_init_0 rfl ?_
  refine zx_iload C d_Cap_init_1 rfl ?_
  refine zx_iload C d_Cap_init_2 rfl ?_
  refine zx_iload C d_Cap_init_3 rfl ?_
  refine zx_iload C d_Cap_init_4 rfl ?_
  refine zr_dv (zr_I C l_Cap_1 d_Cap_init_6 (As := [_, _, _, _]) rfl rfl (Nat.le_of_ble_eq_true rfl) (c_Mis_init0 G w p q hw _ _ ne fa hne hfa) ⟨Nat.le_of_ble_eq_true rfl, Nat.le_of_ble_eq_true rfl, Nat.le_of_ble_eq_true rfl, Nat.le_of_ble_eq_true rfl⟩) ?_
  exact zx_vret C hq d_Cap_init_9 (⟨rfl, rfl⟩)
set_option maxHeartbeats 600000 in
set_option maxRecDepth 20000 in
theorem c_Deed_init (G : ZG) (w : va_W) (p q : Nat) (hw : w[p]? = some (q, .inr (1, [.int 0, .int 0, .int 0, .int 0, .long 0]))) (ne : Nat) (hne : ne ≤ 6) (fa un la : Int32) : ZM G y_Deed_init b_Deed_init 5 none r_Deed_init [.ref q, .int (nI ne), .int fa, .int un, .int la] w (zdv (w.set p (q, .inr (1, [.int (nI ne), .int fa, .int un, .int la, .long (ww ne)])))) := by
  refine ZM.of "SameTuesday$Deed" "<init>" rfl rfl (by decide) (Nat.le_of_ble_eq_true rfl) (fun Y C hq => ?_)
  change ZV G Y 0 0 0 [(0, .ref q), (1, .int (nI ne)), (2, .int fa), (3, .int un), (4, .int la)] [] w
  have hl := sg_len hw
  refine zx_eq rfl rfl (w1 := w.set p (q, .inr (1, [.int 0, .int 0, .int 0, .int 0, .long 0]))) (sg_id hw).symm ?_
  refine zx_aload C d_Deed_init_0 rfl ?_
  refine zx_obj C ob_Deed_3 ob_i ob_c d_Deed_init_1 (Nat.le_of_ble_eq_true rfl) (Nat.le_of_ble_eq_true rfl) ?_
  refine zx_aload C d_Deed_init_4 rfl ?_
  refine zx_iload C d_Deed_init_5 rfl ?_
  refine zx_putF C rfl p_Deed_9_1 d_Deed_init_6 p (sg_at hl) zb_fit_i (Nat.le_of_ble_eq_true rfl) sg_ss ?_
  refine zx_aload C d_Deed_init_9 rfl ?_
  refine zx_iload C d_Deed_init_10 rfl ?_
  refine zx_putF C rfl p_Deed_15_1 d_Deed_init_11 p (sg_at hl) zb_fit_i (Nat.le_of_ble_eq_true rfl) sg_ss ?_
  refine zx_aload C d_Deed_init_14 rfl ?_
  refine zx_iload C d_Deed_init_15 rfl ?_
  refine zx_putF C rfl p_Deed_18_1 d_Deed_init_16 p (sg_at hl) zb_fit_i (Nat.le_of_ble_eq_true rfl) sg_ss ?_
  refine zx_aload C d_Deed_init_19 rfl ?_
  refine zx_iload C d_Deed_init_20 rfl ?_
  refine zx_putF C rfl p_Deed_21_1 d_Deed_init_22 p (sg_at hl) zb_fit_i (Nat.le_of_ble_eq_true rfl) sg_ss ?_
  refine zx_aload C d_Deed_init_25 rfl ?_
  refine zx_iload C d_Deed_init_26 rfl ?_
  refine zr_dl (zr_N C l_Deed_24 d_Deed_init_27 (As := [_]) rfl rfl (Nat.le_of_ble_eq_true rfl) (c_Tue_worldWith G _ ne (by omega)) ⟨Nat.le_of_ble_eq_true rfl, Nat.le_of_ble_eq_true rfl, Nat.le_of_ble_eq_true rfl, Nat.le_of_ble_eq_true rfl⟩) ?_
  refine zx_putF C rfl p_Deed_28_1 d_Deed_init_30 p (sg_at hl) zb_fit_l (Nat.le_of_ble_eq_true rfl) sg_ss ?_
  exact zx_vret C hq d_Deed_init_33 (⟨rfl, rfl⟩)
set_option maxHeartbeats 600000 in
set_option maxRecDepth 20000 in
theorem c_Txt_init (G : ZG) (w : va_W) (p q : Nat) (hw : w[p]? = some (q, .inr (8, [.null, .int 0, .int 0, .int 0, .int 0, .int 0]))) (a : Nat) (st n : Int32) : ZM G y_Txt_init b_Txt_init 4 none r_Txt_init [.ref q, .ref a, .int st, .int n] w (zdv (w.set p (q, .inr (8, [.ref a, .int st, .int n, .int 0, .int 0, .int 0])))) := by
  refine ZM.of "SameTuesday$Text" "<init>" rfl rfl (by decide) (Nat.le_of_ble_eq_true rfl) (fun Y C hq => ?_)
  change ZV G Y 0 0 0 [(0, .ref q), (1, .ref a), (2, .int st), (3, .int n)] [] w
  have hl := sg_len hw
  refine zx_eq rfl rfl (w1 := w.set p (q, .inr (8, [.null, .int 0, .int 0, .int 0, .int 0, .int 0]))) (sg_id hw).symm ?_
  refine zx_aload C d_Txt_init_0 rfl ?_
  refine zx_obj C ob_Txt_3 ob_i ob_c d_Txt_init_1 (Nat.le_of_ble_eq_true rfl) (Nat.le_of_ble_eq_true rfl) ?_
  refine zx_aload C d_Txt_init_4 rfl ?_
  refine zx_aload C d_Txt_init_5 rfl ?_
  refine zx_putF C rfl p_Txt_9_8 d_Txt_init_6 p (sg_at hl) zb_fit_r (Nat.le_of_ble_eq_true rfl) sg_ss ?_
  refine zx_aload C d_Txt_init_9 rfl ?_
  refine zx_iload C d_Txt_init_10 rfl ?_
  refine zx_putF C rfl p_Txt_15_8 d_Txt_init_11 p (sg_at hl) zb_fit_i (Nat.le_of_ble_eq_true rfl) sg_ss ?_
  refine zx_aload C d_Txt_init_14 rfl ?_
  refine zx_iload C d_Txt_init_15 rfl ?_
  refine zx_putF C rfl p_Txt_19_8 d_Txt_init_16 p (sg_at hl) zb_fit_i (Nat.le_of_ble_eq_true rfl) sg_ss ?_
  refine zx_aload C d_Txt_init_19 rfl ?_
  refine zx_ic C d_Txt_init_20 ?_
  refine zx_put C p_Txt_22_8 d_Txt_init_21 p (sg_at hl) zb_fit_i (Nat.le_of_ble_eq_true rfl) sg_ss ?_
  refine zx_aload C d_Txt_init_24 rfl ?_
  refine zx_ic C d_Txt_init_25 ?_
  refine zx_put C p_Txt_25_8 d_Txt_init_26 p (sg_at hl) zb_fit_i (Nat.le_of_ble_eq_true rfl) sg_ss ?_
  refine zx_aload C d_Txt_init_29 rfl ?_
  refine zx_ic C d_Txt_init_30 ?_
  refine zx_put C p_Txt_28_8 d_Txt_init_31 p (sg_at hl) zb_fit_i (Nat.le_of_ble_eq_true rfl) sg_ss ?_
  exact zx_vret C hq d_Txt_init_34 (⟨rfl, rfl⟩)
theorem dg_cd {c : Nat → Int32} {n p lo hi x : Nat} (hl : lo ≤ 9) (hh : hi ≤ 9) (h : dg c n p lo hi = some x) : cdA c n p - 48 = nI x ∧ lo ≤ x ∧ x ≤ hi := by
  obtain ⟨h1, h2, h3, h4⟩ := dg_some hl hh h
  refine ⟨?_, h3, h4⟩
  rw [cdA, if_pos h1, h2, show (48 : Int32) = nI 48 from rfl, pk_sub (by omega)]
  congr 1; omega
theorem rdH_get {c : Nat → Int32} {n p p1 : Nat} {x : Nat × Nat × Nat × Nat} (h : rdH c n p = (p1, some x)) : kdc (cdA c n p) = nI x.1 ∧ x.1 ≤ 2 ∧ (∃ a b, x.2.1 = 10 * a + b ∧ cdA c n (p + 1) - 48 = nI a ∧ cdA c n (p + 2) - 48 = nI b ∧ a ≤ 9 ∧ b ≤ 9) ∧ cdA c n (p + 3) - 48 = nI x.2.2.1 ∧ x.2.2.1 ≤ 6 ∧ cdA c n (p + 4) - 48 = nI x.2.2.2 ∧ x.2.2.2 ≤ 5 := by
  have hk := rdH_ok h
  unfold rdH at h
  split at h
  · cases h
  · next k h1 =>
    split at h
    · cases h
    · next a h2 =>
      split at h
      · cases h
      · next b h3 =>
        split at h
        · cases h
        · next e h4 =>
          split at h
          · cases h
          · next f h5 =>
            cases h
            have g2 := dg_cd (by decide) (by decide) h2
            have g3 := dg_cd (by decide) (by decide) h3
            have g4 := dg_cd (by decide) (by decide) h4
            have g5 := dg_cd (by decide) (by decide) h5
            exact ⟨(kd_some h1).2, kdO_le h1, ⟨a, b, rfl, g2.1, g3.1, by omega, by omega⟩, g4.1, g4.2.2, g5.1, g5.2.2⟩
theorem rdD_get {c : Nat → Int32} {n p p1 : Nat} {x : Nat × Nat × Nat × Nat} (h : rdD c n p = (p1, some x)) : cdA c n p - 48 = nI x.1 ∧ x.1 ≤ 6 ∧ cdA c n (p + 1) - 48 = nI x.2.1 ∧ cdA c n (p + 2) - 48 = nI x.2.2.1 ∧ cdA c n (p + 3) - 48 = nI x.2.2.2 := by
  unfold rdD at h
  split at h
  · cases h
  · next a h2 =>
    split at h
    · cases h
    · next b h3 =>
      split at h
      · cases h
      · next e h4 =>
        split at h
        · cases h
        · next f h5 =>
          cases h
          have g2 := dg_cd (by decide) (by decide) h2
          have g3 := dg_cd (by decide) (by decide) h3
          have g4 := dg_cd (by decide) (by decide) h4
          have g5 := dg_cd (by decide) (by decide) h5
          exact ⟨g2.1, g2.2.2, g3.1, g4.1, g5.1⟩
theorem zx_l2 {G : ZG} {Y : ZY} {cc : ByteArray} {own nm : String} {ret : Option FieldType} {rm : Room} {nl : Nat} {kc ks pc : Nat} {lv : List (Nat × Value)} {st : List Value} {w : va_W} (C : ZC G Y cc own nm ret rm nl) {dflt o1 o2 : Int} {len k : Nat} (hk : k ≤ 2) (hd : decode cc pc = .ok (.lookupswitch dflt #[(1, o1), (2, o2)], len)) (t1 t2 td : Nat) (e1 : (pc : Int) + o1 = (t1 : Int)) (e2 : (pc : Int) + o2 = (t2 : Int)) (ed : (pc : Int) + dflt = (td : Int)) (k0 : k = 0 → ZV G Y kc ks td lv st w) (k1 : k = 1 → ZV G Y kc ks t1 lv st w) (k2 : k = 2 → ZV G Y kc ks t2 lv st w) : ZV G Y kc ks pc lv (.int (nI k) :: st) w := by
  refine zx_lookup C hd rfl ?_
  rcases k3 hk with rfl | rfl | rfl
  · exact ⟨td, ed, k0 rfl⟩
  · exact ⟨t1, e1, k1 rfl⟩
  · exact ⟨t2, e2, k2 rfl⟩
set_option maxHeartbeats 600000 in
set_option maxRecDepth 20000 in
theorem c_Txt_newHappening (G : ZG) (ad : Nat → Nat) (I : Nat → Int32) (L : Nat → Int64) (g z : Option Nat) (QH QD : Nat → Option Nat) (RI : Nat → Nat → Int32) (RL : Nat → Nat → Int64) (Z : va_W) (ta k st n : Nat) (hk : k < 4) (sz : Nat) (hz : I (5 + k) = nI sz) (hsz : sz ≤ 60) (hn : st + n ≤ sz) (c : Nat → Int32) (hc : ∀ j, j < n → RI k (st + j) = c j) (p nh nd : Nat) (h : Nat) (hh : h ≤ 5) (p1 : Nat) (x : Nat × Nat × Nat × Nat) (hr : rdH c n (6 * h + 2) = (p1, some x)) : ZM G y_Txt_newHappening b_Txt_newHappening 6 (some (.object "SameTuesday$Happening")) r_Txt_newHappening [.ref ta, .int (nI h)] (cw G ad I L g z QH QD RI RL ++ (tcl ta ad k st n (nI (p)) (nI (nh)) (nI (nd)) :: Z)) (zpq (fun r w => ∃ q, r = some q ∧ w = (cw G ad I L g z QH QD RI RL ++ (tcl ta ad k st n (nI (p)) (nI (nh)) (nI (nd)) :: Z)) ++ [(q, .inr (hcl x.1, [.int (nI h), .int (nI x.2.2.1), .int (nI x.2.2.2), .long (ww x.2.2.1), .long (ww x.2.2.2), .int (nI x.2.1)]))])) := by
  refine ZM.of "SameTuesday$Text" "newHappening" rfl rfl (by decide) (Nat.le_of_ble_eq_true rfl) (fun Y C hq => ?_)
  change ZV G Y 0 0 0 [(0, .ref ta), (1, .int (nI h))] [] (cw G ad I L g z QH QD RI RL ++ (tcl ta ad k st n (nI (p)) (nI (nh)) (nI (nd)) :: Z))
  obtain ⟨g0, g1, ⟨a, b, ga, gb, gc, ga9, gb9⟩, g4, g5, g6, g7⟩ := rdH_get hr
  refine zx_ic C d_Txt_newHappening_0 ?_
  refine zx_ic C d_Txt_newHappening_1 ?_
  refine zx_iload C d_Txt_newHappening_3 rfl ?_
  refine zx_imul C d_Txt_newHappening_4 ?_
  refine zx_iadd C d_Txt_newHappening_5 ?_
  refine zx_eq rfl (st1 := [.int (nI (6 * h + 1))]) (by rw [show (6 : Int32) = nI 6 from rfl, show (1 : Int32) = nI 1 from rfl, pk_mul, nI_add, Nat.add_comm]) rfl ?_
  refine zx_istore C d_Txt_newHappening_6 (by decide) (lv1 := [(2, _), (0, _), (1, _)]) rfl ?_
  refine zx_ic C d_Txt_newHappening_7 ?_
  refine zx_aload C d_Txt_newHappening_9 rfl ?_
  refine zx_iload C d_Txt_newHappening_10 rfl ?_
  refine zx_ic C d_Txt_newHappening_11 ?_
  refine zx_iadd C d_Txt_newHappening_12 ?_
  refine zx_eq rfl (st1 := [.int (nI (6 * h + 3)), .ref ta, .int 10]) (by rw [show (2 : Int32) = nI 2 from rfl, nI_add]) rfl ?_
  refine zr_di (zr_V C l_Txt_58 d_Txt_newHappening_13 (As := [_]) rfl rfl (Nat.le_of_ble_eq_true rfl) (c_Txt_digitAt G ad I L g z QH QD RI RL Z ta k st n hk sz hz hsz hn c hc _ _ _ (6 * h + 3) (by omega)) 23 zcw_t rfl ⟨Nat.le_of_ble_eq_true rfl, Nat.le_of_ble_eq_true rfl, Nat.le_of_ble_eq_true rfl, Nat.le_of_ble_eq_true rfl⟩) ?_
  rw [gb]
  refine zx_imul C d_Txt_newHappening_16 ?_
  refine zx_aload C d_Txt_newHappening_17 rfl ?_
  refine zx_iload C d_Txt_newHappening_18 rfl ?_
  refine zx_ic C d_Txt_newHappening_19 ?_
  refine zx_iadd C d_Txt_newHappening_20 ?_
  refine zx_eq rfl (st1 := [.int (nI (6 * h + 4)), .ref ta, .int (10 * nI a)]) (by rw [show (3 : Int32) = nI 3 from rfl, nI_add]) rfl ?_
  refine zr_di (zr_V C l_Txt_58 d_Txt_newHappening_21 (As := [_]) rfl rfl (Nat.le_of_ble_eq_true rfl) (c_Txt_digitAt G ad I L g z QH QD RI RL Z ta k st n hk sz hz hsz hn c hc _ _ _ (6 * h + 4) (by omega)) 23 zcw_t rfl ⟨Nat.le_of_ble_eq_true rfl, Nat.le_of_ble_eq_true rfl, Nat.le_of_ble_eq_true rfl, Nat.le_of_ble_eq_true rfl⟩) ?_
  rw [gc]
  refine zx_iadd C d_Txt_newHappening_24 ?_
  refine zx_eq rfl (st1 := [.int (nI x.2.1)]) (by rw [show (10 : Int32) = nI 10 from rfl, pk_mul, nI_add, ga]) rfl ?_
  refine zx_istore C d_Txt_newHappening_25 (by decide) (lv1 := [(3, _), (2, _), (0, _), (1, _)]) rfl ?_
  refine zx_aload C d_Txt_newHappening_26 rfl ?_
  refine zx_iload C d_Txt_newHappening_27 rfl ?_
  refine zx_ic C d_Txt_newHappening_28 ?_
  refine zx_iadd C d_Txt_newHappening_29 ?_
  refine zx_eq rfl (st1 := [.int (nI (6 * h + 5)), .ref ta]) (by rw [show (4 : Int32) = nI 4 from rfl, nI_add]) rfl ?_
  refine zr_di (zr_V C l_Txt_58 d_Txt_newHappening_30 (As := [_]) rfl rfl (Nat.le_of_ble_eq_true rfl) (c_Txt_digitAt G ad I L g z QH QD RI RL Z ta k st n hk sz hz hsz hn c hc _ _ _ (6 * h + 5) (by omega)) 23 zcw_t rfl ⟨Nat.le_of_ble_eq_true rfl, Nat.le_of_ble_eq_true rfl, Nat.le_of_ble_eq_true rfl, Nat.le_of_ble_eq_true rfl⟩) ?_
  rw [g4]
  refine zx_istore C d_Txt_newHappening_33 (by decide) (lv1 := [(4, _), (3, _), (2, _), (0, _), (1, _)]) rfl ?_
  refine zx_aload C d_Txt_newHappening_35 rfl ?_
  refine zx_iload C d_Txt_newHappening_36 rfl ?_
  refine zx_ic C d_Txt_newHappening_37 ?_
  refine zx_iadd C d_Txt_newHappening_38 ?_
  refine zx_eq rfl (st1 := [.int (nI (6 * h + 6)), .ref ta]) (by rw [show (5 : Int32) = nI 5 from rfl, nI_add]) rfl ?_
  refine zr_di (zr_V C l_Txt_58 d_Txt_newHappening_39 (As := [_]) rfl rfl (Nat.le_of_ble_eq_true rfl) (c_Txt_digitAt G ad I L g z QH QD RI RL Z ta k st n hk sz hz hsz hn c hc _ _ _ (6 * h + 6) (by omega)) 23 zcw_t rfl ⟨Nat.le_of_ble_eq_true rfl, Nat.le_of_ble_eq_true rfl, Nat.le_of_ble_eq_true rfl, Nat.le_of_ble_eq_true rfl⟩) ?_
  rw [g6]
  refine zx_istore C d_Txt_newHappening_42 (by decide) (lv1 := [(5, _), (4, _), (3, _), (2, _), (0, _), (1, _)]) rfl ?_
  refine zx_aload C d_Txt_newHappening_44 rfl ?_
  refine zx_iload C d_Txt_newHappening_45 rfl ?_
  refine zx_ic C d_Txt_newHappening_46 ?_
  refine zx_iadd C d_Txt_newHappening_47 ?_
  refine zx_eq rfl (st1 := [.int (nI (6 * h + 2)), .ref ta]) (by rw [show (1 : Int32) = nI 1 from rfl, nI_add]) rfl ?_
  refine zr_di (zr_V C l_Txt_31 d_Txt_newHappening_48 (As := [_]) rfl rfl (Nat.le_of_ble_eq_true rfl) (c_Txt_codeAt G ad I L g z QH QD RI RL Z ta k st n hk sz hz hsz hn c hc _ _ _ (6 * h + 2) (by omega)) 23 zcw_t rfl ⟨Nat.le_of_ble_eq_true rfl, Nat.le_of_ble_eq_true rfl, Nat.le_of_ble_eq_true rfl, Nat.le_of_ble_eq_true rfl⟩) ?_
  refine zr_di (zr_S C l_Txt_46 d_Txt_newHappening_51 (As := [_]) rfl rfl (Nat.le_of_ble_eq_true rfl) (c_Txt_kindOf G _ _) ⟨Nat.le_of_ble_eq_true rfl, Nat.le_of_ble_eq_true rfl, Nat.le_of_ble_eq_true rfl, Nat.le_of_ble_eq_true rfl⟩) ?_
  rw [g0]
  refine zx_l2 C g1 d_Txt_newHappening_54 80 94 108 (by decide) (by decide) (by decide) (fun hc => ?_) (fun hc => ?_) (fun hc => ?_)
  · refine zx_new C nw_Txt_69 d_Txt_newHappening_108 (Nat.le_of_ble_eq_true rfl) (Nat.le_of_ble_eq_true rfl) (fun q => ?_)
    refine zx_dup C rfl d_Txt_newHappening_111 ?_
    refine zx_iload C d_Txt_newHappening_112 rfl ?_
    refine zx_iload C d_Txt_newHappening_113 rfl ?_
    refine zx_iload C d_Txt_newHappening_114 rfl ?_
    refine zx_iload C d_Txt_newHappening_116 rfl ?_
    refine zr_dv (zr_I C l_Txt_71 d_Txt_newHappening_118 (As := [_, _, _, _]) rfl rfl (Nat.le_of_ble_eq_true rfl) (c_Hap_init2 G _ (cw G ad I L g z QH QD RI RL ++ (tcl ta ad k st n (nI (p)) (nI (nh)) (nI (nd)) :: Z)).length q sg_last _ _ x.2.2.1 x.2.2.2 g5 (by omega)) ⟨Nat.le_of_ble_eq_true rfl, Nat.le_of_ble_eq_true rfl, Nat.le_of_ble_eq_true rfl, Nat.le_of_ble_eq_true rfl⟩) ?_
    rw [sg_set]
    refine zx_widen (kc1 := 1) (ks1 := 6) (by decide) (by decide) ?_
    exact zx_aret C hq (r := some q) d_Txt_newHappening_121 ⟨some q, rfl, q, rfl, by rw [hc]; rfl⟩
  · refine zx_new C nw_Txt_61 d_Txt_newHappening_80 (Nat.le_of_ble_eq_true rfl) (Nat.le_of_ble_eq_true rfl) (fun q => ?_)
    refine zx_dup C rfl d_Txt_newHappening_83 ?_
    refine zx_iload C d_Txt_newHappening_84 rfl ?_
    refine zx_iload C d_Txt_newHappening_85 rfl ?_
    refine zx_iload C d_Txt_newHappening_86 rfl ?_
    refine zx_iload C d_Txt_newHappening_88 rfl ?_
    refine zr_dv (zr_I C l_Txt_63 d_Txt_newHappening_90 (As := [_, _, _, _]) rfl rfl (Nat.le_of_ble_eq_true rfl) (c_Mis_init G _ (cw G ad I L g z QH QD RI RL ++ (tcl ta ad k st n (nI (p)) (nI (nh)) (nI (nd)) :: Z)).length q sg_last _ _ x.2.2.1 x.2.2.2 g5 (by omega)) ⟨Nat.le_of_ble_eq_true rfl, Nat.le_of_ble_eq_true rfl, Nat.le_of_ble_eq_true rfl, Nat.le_of_ble_eq_true rfl⟩) ?_
    rw [sg_set]
    refine zx_widen (kc1 := 1) (ks1 := 6) (by decide) (by decide) ?_
    exact zx_aret C hq (r := some q) d_Txt_newHappening_93 ⟨some q, rfl, q, rfl, by rw [hc]; rfl⟩
  · refine zx_new C nw_Txt_66 d_Txt_newHappening_94 (Nat.le_of_ble_eq_true rfl) (Nat.le_of_ble_eq_true rfl) (fun q => ?_)
    refine zx_dup C rfl d_Txt_newHappening_97 ?_
    refine zx_iload C d_Txt_newHappening_98 rfl ?_
    refine zx_iload C d_Txt_newHappening_99 rfl ?_
    refine zx_iload C d_Txt_newHappening_100 rfl ?_
    refine zx_iload C d_Txt_newHappening_102 rfl ?_
    refine zr_dv (zr_I C l_Txt_68 d_Txt_newHappening_104 (As := [_, _, _, _]) rfl rfl (Nat.le_of_ble_eq_true rfl) (c_Cap_init G _ (cw G ad I L g z QH QD RI RL ++ (tcl ta ad k st n (nI (p)) (nI (nh)) (nI (nd)) :: Z)).length q sg_last _ _ x.2.2.1 x.2.2.2 g5 (by omega)) ⟨Nat.le_of_ble_eq_true rfl, Nat.le_of_ble_eq_true rfl, Nat.le_of_ble_eq_true rfl, Nat.le_of_ble_eq_true rfl⟩) ?_
    rw [sg_set]
    refine zx_widen (kc1 := 1) (ks1 := 6) (by decide) (by decide) ?_
    exact zx_aret C hq (r := some q) d_Txt_newHappening_107 ⟨some q, rfl, q, rfl, by rw [hc]; rfl⟩
set_option maxHeartbeats 600000 in
set_option maxRecDepth 20000 in
theorem c_Txt_newDeed (G : ZG) (ad : Nat → Nat) (I : Nat → Int32) (L : Nat → Int64) (g z : Option Nat) (QH QD : Nat → Option Nat) (RI : Nat → Nat → Int32) (RL : Nat → Nat → Int64) (Z : va_W) (ta k st n : Nat) (hk : k < 4) (sz : Nat) (hz : I (5 + k) = nI sz) (hsz : sz ≤ 60) (hn : st + n ≤ sz) (c : Nat → Int32) (hc : ∀ j, j < n → RI k (st + j) = c j) (p nh nd : Nat) (hnh : nh ≤ 6) (d : Nat) (hd : d ≤ 5) (p1 : Nat) (x : Nat × Nat × Nat × Nat) (hr : rdD c n (6 * nh + 5 * d + 2) = (p1, some x)) : ZM G y_Txt_newDeed b_Txt_newDeed 3 (some (.object "SameTuesday$Deed")) r_Txt_newDeed [.ref ta, .int (nI d)] (cw G ad I L g z QH QD RI RL ++ (tcl ta ad k st n (nI (p)) (nI (nh)) (nI (nd)) :: Z)) (zpq (fun r w => ∃ q, r = some q ∧ w = (cw G ad I L g z QH QD RI RL ++ (tcl ta ad k st n (nI (p)) (nI (nh)) (nI (nd)) :: Z)) ++ [(q, .inr (1, [.int (nI x.1), .int (nI x.2.1), .int (nI x.2.2.1), .int (nI x.2.2.2), .long (ww x.1)]))])) := by
  refine ZM.of "SameTuesday$Text" "newDeed" rfl rfl (by decide) (Nat.le_of_ble_eq_true rfl) (fun Y C hq => ?_)
  change ZV G Y 0 0 0 [(0, .ref ta), (1, .int (nI d))] [] (cw G ad I L g z QH QD RI RL ++ (tcl ta ad k st n (nI (p)) (nI (nh)) (nI (nd)) :: Z))
  obtain ⟨g1, g2, g3, g4, g5⟩ := rdD_get hr
  refine zx_ic C d_Txt_newDeed_0 ?_
  refine zx_ic C d_Txt_newDeed_1 ?_
  refine zx_aload C d_Txt_newDeed_3 rfl ?_
  refine zx_get C f_Txt_25_8 d_Txt_newDeed_4 23 zcw_t rfl ?_
  refine zx_imul C d_Txt_newDeed_7 ?_
  refine zx_iadd C d_Txt_newDeed_8 ?_
  refine zx_ic C d_Txt_newDeed_9 ?_
  refine zx_iload C d_Txt_newDeed_10 rfl ?_
  refine zx_imul C d_Txt_newDeed_11 ?_
  refine zx_iadd C d_Txt_newDeed_12 ?_
  refine zx_eq rfl (st1 := [.int (nI (6 * nh + 5 * d + 1))]) (by rw [show (6 : Int32) = nI 6 from rfl, show (5 : Int32) = nI 5 from rfl, show (1 : Int32) = nI 1 from rfl, pk_mul, pk_mul, nI_add, nI_add, show 1 + 6 * nh + 5 * d = 6 * nh + 5 * d + 1 by omega]) rfl ?_
  refine zx_istore C d_Txt_newDeed_13 (by decide) (lv1 := [(2, _), (0, _), (1, _)]) rfl ?_
  refine zx_new C nw_Txt_72 d_Txt_newDeed_14 (Nat.le_of_ble_eq_true rfl) (Nat.le_of_ble_eq_true rfl) (fun q => ?_)
  refine zx_eq rfl rfl (w1 := (cw G ad I L g z QH QD RI RL ++ (tcl ta ad k st n (nI (p)) (nI (nh)) (nI (nd)) :: (Z ++ [(q, .inr (1, [.int 0, .int 0, .int 0, .int 0, .long 0]))])))) (List.append_assoc _ _ _) ?_
  refine zx_dup C rfl d_Txt_newDeed_17 ?_
  refine zx_aload C d_Txt_newDeed_18 rfl ?_
  refine zx_iload C d_Txt_newDeed_19 rfl ?_
  refine zx_ic C d_Txt_newDeed_20 ?_
  refine zx_iadd C d_Txt_newDeed_21 ?_
  refine zx_eq rfl (st1 := [.int (nI (6 * nh + 5 * d + 2)), .ref ta, .ref q, .ref q]) (by rw [show (1 : Int32) = nI 1 from rfl, nI_add]) rfl ?_
  refine zr_di (zr_V C l_Txt_58 d_Txt_newDeed_22 (As := [_]) rfl rfl (Nat.le_of_ble_eq_true rfl) (c_Txt_digitAt G ad I L g z QH QD RI RL (Z ++ [(q, .inr (1, [.int 0, .int 0, .int 0, .int 0, .long 0]))]) ta k st n hk sz hz hsz hn c hc _ _ _ (6 * nh + 5 * d + 2) (by omega)) 23 zcw_t rfl ⟨Nat.le_of_ble_eq_true rfl, Nat.le_of_ble_eq_true rfl, Nat.le_of_ble_eq_true rfl, Nat.le_of_ble_eq_true rfl⟩) ?_
  rw [g1]
  refine zx_aload C d_Txt_newDeed_25 rfl ?_
  refine zx_iload C d_Txt_newDeed_26 rfl ?_
  refine zx_ic C d_Txt_newDeed_27 ?_
  refine zx_iadd C d_Txt_newDeed_28 ?_
  refine zx_eq rfl (st1 := [.int (nI (6 * nh + 5 * d + 3)), .ref ta, .int (nI x.1), .ref q, .ref q]) (by rw [show (2 : Int32) = nI 2 from rfl, nI_add]) rfl ?_
  refine zr_di (zr_V C l_Txt_58 d_Txt_newDeed_29 (As := [_]) rfl rfl (Nat.le_of_ble_eq_true rfl) (c_Txt_digitAt G ad I L g z QH QD RI RL (Z ++ [(q, .inr (1, [.int 0, .int 0, .int 0, .int 0, .long 0]))]) ta k st n hk sz hz hsz hn c hc _ _ _ (6 * nh + 5 * d + 2 + 1) (by omega)) 23 zcw_t rfl ⟨Nat.le_of_ble_eq_true rfl, Nat.le_of_ble_eq_true rfl, Nat.le_of_ble_eq_true rfl, Nat.le_of_ble_eq_true rfl⟩) ?_
  rw [g3]
  refine zx_aload C d_Txt_newDeed_32 rfl ?_
  refine zx_iload C d_Txt_newDeed_33 rfl ?_
  refine zx_ic C d_Txt_newDeed_34 ?_
  refine zx_iadd C d_Txt_newDeed_35 ?_
  refine zx_eq rfl (st1 := [.int (nI (6 * nh + 5 * d + 4)), .ref ta, .int (nI x.2.1), .int (nI x.1), .ref q, .ref q]) (by rw [show (3 : Int32) = nI 3 from rfl, nI_add]) rfl ?_
  refine zr_di (zr_V C l_Txt_58 d_Txt_newDeed_36 (As := [_]) rfl rfl (Nat.le_of_ble_eq_true rfl) (c_Txt_digitAt G ad I L g z QH QD RI RL (Z ++ [(q, .inr (1, [.int 0, .int 0, .int 0, .int 0, .long 0]))]) ta k st n hk sz hz hsz hn c hc _ _ _ (6 * nh + 5 * d + 2 + 2) (by omega)) 23 zcw_t rfl ⟨Nat.le_of_ble_eq_true rfl, Nat.le_of_ble_eq_true rfl, Nat.le_of_ble_eq_true rfl, Nat.le_of_ble_eq_true rfl⟩) ?_
  rw [g4]
  refine zx_aload C d_Txt_newDeed_39 rfl ?_
  refine zx_iload C d_Txt_newDeed_40 rfl ?_
  refine zx_ic C d_Txt_newDeed_41 ?_
  refine zx_iadd C d_Txt_newDeed_42 ?_
  refine zx_eq rfl (st1 := [.int (nI (6 * nh + 5 * d + 5)), .ref ta, .int (nI x.2.2.1), .int (nI x.2.1), .int (nI x.1), .ref q, .ref q]) (by rw [show (4 : Int32) = nI 4 from rfl, nI_add]) rfl ?_
  refine zr_di (zr_V C l_Txt_58 d_Txt_newDeed_43 (As := [_]) rfl rfl (Nat.le_of_ble_eq_true rfl) (c_Txt_digitAt G ad I L g z QH QD RI RL (Z ++ [(q, .inr (1, [.int 0, .int 0, .int 0, .int 0, .long 0]))]) ta k st n hk sz hz hsz hn c hc _ _ _ (6 * nh + 5 * d + 2 + 3) (by omega)) 23 zcw_t rfl ⟨Nat.le_of_ble_eq_true rfl, Nat.le_of_ble_eq_true rfl, Nat.le_of_ble_eq_true rfl, Nat.le_of_ble_eq_true rfl⟩) ?_
  rw [g5]
  refine zx_eq rfl rfl ap_tz ?_
  refine zr_dv (zr_I C l_Txt_74 d_Txt_newDeed_46 (As := [_, _, _, _]) rfl rfl (Nat.le_of_ble_eq_true rfl) (c_Deed_init G _ (cw G ad I L g z QH QD RI RL ++ (tcl ta ad k st n (nI (p)) (nI (nh)) (nI (nd)) :: Z)).length q sg_last x.1 g2 _ _ _) ⟨Nat.le_of_ble_eq_true rfl, Nat.le_of_ble_eq_true rfl, Nat.le_of_ble_eq_true rfl, Nat.le_of_ble_eq_true rfl⟩) ?_
  rw [sg_set]
  refine zx_widen (kc1 := 1) (ks1 := 5) (by decide) (by decide) ?_
  exact zx_aret C hq (r := some q) d_Txt_newDeed_49 ⟨some q, rfl, q, rfl, rfl⟩
