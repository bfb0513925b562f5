theorem zx_t4 {G : ZG} {Y : ZY} {cc : ByteArray} {own nm : String} {ret : Option FieldType} {rm : Room} {nl : Nat} {kc ks pc : Nat} {lv : List (Nat × Value)} {st : List Value} {w : va_W} (C : ZC G Y cc own nm ret rm nl) {x : Int32} {dflt o0 o1 o2 o3 : Int} {len : Nat} (hd : decode cc pc = .ok (.tableswitch dflt 0 3 #[o0, o1, o2, o3], len)) (t0 t1 t2 t3 td : Nat) (e0 : (pc : Int) + o0 = (t0 : Int)) (e1 : (pc : Int) + o1 = (t1 : Int)) (e2 : (pc : Int) + o2 = (t2 : Int)) (e3 : (pc : Int) + o3 = (t3 : Int)) (ed : (pc : Int) + dflt = (td : Int)) (k0 : x = 0 → ZV G Y kc ks t0 lv st w) (k1 : x = 1 → ZV G Y kc ks t1 lv st w) (k2 : x = 2 → ZV G Y kc ks t2 lv st w) (k3 : x = 3 → ZV G Y kc ks t3 lv st w) (kd : ¬ x = 0 → ¬ x = 1 → ¬ x = 2 → ¬ x = 3 → ZV G Y kc ks td lv st w) : ZV G Y kc ks pc lv (.int x :: st) w := by
  refine zx_table C hd (fun h => ⟨td, ed, kd (fun z => by subst z; revert h; decide) (fun z => by subst z; revert h; decide) (fun z => by subst z; revert h; decide) (fun z => by subst z; revert h; decide)⟩) (fun h1 h2 => ?_)
  rcases (by omega : x.toInt = 0 ∨ x.toInt = 1 ∨ x.toInt = 2 ∨ x.toInt = 3) with e | e | e | e
  · obtain rfl : x = 0 := Int32.toInt_inj.mp e
    exact ⟨o0, t0, rfl, e0, k0 rfl⟩
  · obtain rfl : x = 1 := Int32.toInt_inj.mp e
    exact ⟨o1, t1, rfl, e1, k1 rfl⟩
  · obtain rfl : x = 2 := Int32.toInt_inj.mp e
    exact ⟨o2, t2, rfl, e2, k2 rfl⟩
  · obtain rfl : x = 3 := Int32.toInt_inj.mp e
    exact ⟨o3, t3, rfl, e3, k3 rfl⟩
set_option maxHeartbeats 600000 in
set_option maxRecDepth 20000 in
theorem c_Tue_ofHappening (G : ZG) (ad : Nat → Nat) (I : Nat → Int32) (L : Nat → Int64) (g : Option Nat) (QH QD : Nat → Option Nat) (RI : Nat → Nat → Int32) (RL : Nat → Nat → Int64) (X : va_W) (S : ZA) (hA dA : Nat → Nat) (hm : crp S hA dA I L QH QD RI RL) (h v : Int32) : ZM G y_Tue_ofHappening b_Tue_ofHappening 4 (some .int) r_Tue_ofHappening [.ref (ad 0), .int h, .int v] (cw G ad I L g none QH QD RI RL ++ pw hA dA (aT S) X) (cpi G ad X (ap_ofH S h v) S) := by
  refine ZM.of "SameTuesday" "ofHappening" rfl rfl (by decide) (Nat.le_of_ble_eq_true rfl) (fun Y C hq => ?_)
  change ZV G Y 0 0 0 [(0, .ref (ad 0)), (1, .int h), (2, .int v)] [] (cw G ad I L g none QH QD RI RL ++ pw hA dA (aT S) X)
  refine zx_aload C d_Tue_ofHappening_0 rfl ?_
  refine zx_get C f_Tue_21_11 d_Tue_ofHappening_1 0 zcw_0 rfl ?_
  refine zx_iload C d_Tue_ofHappening_4 rfl ?_
  refine zr_dq (zr_V C l_Tue_93 d_Tue_ofHappening_5 (As := [_]) rfl rfl (Nat.le_of_ble_eq_true rfl) (c_Twn_happeningOf G _ _ _ _ _ _ _ _ _ _ (aT S).1 hm.2.2.2.2.2.2.1.1 hm.1.2.1.1 _) 10 zcw_10 rfl ⟨Nat.le_of_ble_eq_true rfl, Nat.le_of_ble_eq_true rfl, Nat.le_of_ble_eq_true rfl, Nat.le_of_ble_eq_true rfl⟩) ?_
  refine zx_astoreq C d_Tue_ofHappening_8 (by decide) (lv1 := [(3, _), (0, _), (1, _), (2, _)]) rfl ?_
  refine zx_aloadq C d_Tue_ofHappening_9 rfl ?_
  refine zx_ifnonnull C d_Tue_ofHappening_10 (fun a10 h10 => ?_) (fun h10 => ?_)
  · have h6 := hm.1.2.1.1
    obtain ⟨j, hj, rfl, ej, nj⟩ := qof_s (by omega) h10
    rw [ej, hm.2.2.2.2.2.2.1.2.2.2.2.1 j hj]
    have hk := (hm.1.2.1.2.2.2.1 j hj)
    refine zx_iload C d_Tue_ofHappening_15 rfl ?_
    refine zx_t4 C d_Tue_ofHappening_16 48 53 58 63 68 (by decide) (by decide) (by decide) (by decide) (by decide) (fun w0 => ?_) (fun w1 => ?_) (fun w2 => ?_) (fun w3 => ?_) (fun w0 w1 w2 w3 => ?_)
    · have ev : ap_ofH S (nI j) v = nI (tq (aT S) 0 j) := by rw [ap_ofH, if_neg nj, nI_cl (by omega), if_pos w0]
      refine zx_aload C d_Tue_ofHappening_48 rfl ?_
      refine zr_di (zq_kind C rfl hk.1 d_Tue_ofHappening_49 (Nat.le_of_ble_eq_true rfl) (zcw_ha hj) ⟨Nat.le_of_ble_eq_true rfl, Nat.le_of_ble_eq_true rfl, Nat.le_of_ble_eq_true rfl, Nat.le_of_ble_eq_true rfl⟩) ?_
      exact zx_iret C hq d_Tue_ofHappening_52 (by rw [ev]; exact cpi_i rfl hm)
    · have ev : ap_ofH S (nI j) v = nI (tq (aT S) 1 j) := by rw [ap_ofH, if_neg nj, nI_cl (by omega), if_neg (by rw [w1]; decide), if_pos w1]
      refine zx_aload C d_Tue_ofHappening_53 rfl ?_
      refine zx_get C (fh_Tue_102 _) d_Tue_ofHappening_54 (23 + j) (zcw_ha hj) rfl ?_
      exact zx_iret C hq d_Tue_ofHappening_57 (by rw [ev]; exact cpi_i rfl hm)
    · have ev : ap_ofH S (nI j) v = nI (tq (aT S) 2 j) := by rw [ap_ofH, if_neg nj, nI_cl (by omega), if_neg (by rw [w2]; decide), if_neg (by rw [w2]; decide), if_pos w2]
      refine zx_aload C d_Tue_ofHappening_58 rfl ?_
      refine zx_get C (fh_Tue_105 _) d_Tue_ofHappening_59 (23 + j) (zcw_ha hj) rfl ?_
      exact zx_iret C hq d_Tue_ofHappening_62 (by rw [ev]; exact cpi_i rfl hm)
    · have ev : ap_ofH S (nI j) v = nI (tq (aT S) 3 j) := by rw [ap_ofH, if_neg nj, nI_cl (by omega), if_neg (by rw [w3]; decide), if_neg (by rw [w3]; decide), if_neg (by rw [w3]; decide), if_pos w3]
      refine zx_aload C d_Tue_ofHappening_63 rfl ?_
      refine zx_get C (fh_Tue_108 _) d_Tue_ofHappening_64 (23 + j) (zcw_ha hj) rfl ?_
      exact zx_iret C hq d_Tue_ofHappening_67 (by rw [ev]; exact cpi_i rfl hm)
    · have ev : ap_ofH S (nI j) v = -2 := by rw [ap_ofH, if_neg nj, nI_cl (by omega), if_neg w0, if_neg w1, if_neg w2, if_neg w3]
      refine zx_ic C d_Tue_ofHappening_68 ?_
      exact zx_iret C hq d_Tue_ofHappening_70 (by rw [ev]; exact cpi_i rfl hm)
  · have ev : ap_ofH S h v = -1 := if_pos (qof_n hm.2.2.2.2.2.2.1.2.2.2.2.1 (by have := hm.1.2.1.1; omega) h10)
    refine zx_ic C d_Tue_ofHappening_13 ?_
    exact zx_iret C hq d_Tue_ofHappening_14 (by rw [ev]; exact cpi_i rfl hm)
set_option maxHeartbeats 600000 in
set_option maxRecDepth 20000 in
theorem c_Tue_ofDeed (G : ZG) (ad : Nat → Nat) (I : Nat → Int32) (L : Nat → Int64) (g : Option Nat) (QH QD : Nat → Option Nat) (RI : Nat → Nat → Int32) (RL : Nat → Nat → Int64) (X : va_W) (S : ZA) (hA dA : Nat → Nat) (hm : crp S hA dA I L QH QD RI RL) (h v : Int32) : ZM G y_Tue_ofDeed b_Tue_ofDeed 4 (some .int) r_Tue_ofDeed [.ref (ad 0), .int h, .int v] (cw G ad I L g none QH QD RI RL ++ pw hA dA (aT S) X) (cpi G ad X (ap_ofD S h v) S) := by
  refine ZM.of "SameTuesday" "ofDeed" rfl rfl (by decide) (Nat.le_of_ble_eq_true rfl) (fun Y C hq => ?_)
  change ZV G Y 0 0 0 [(0, .ref (ad 0)), (1, .int h), (2, .int v)] [] (cw G ad I L g none QH QD RI RL ++ pw hA dA (aT S) X)
  refine zx_aload C d_Tue_ofDeed_0 rfl ?_
  refine zx_get C f_Tue_21_11 d_Tue_ofDeed_1 0 zcw_0 rfl ?_
  refine zx_iload C d_Tue_ofDeed_4 rfl ?_
  refine zr_dq (zr_V C l_Tue_111 d_Tue_ofDeed_5 (As := [_]) rfl rfl (Nat.le_of_ble_eq_true rfl) (c_Twn_deedOf G _ _ _ _ _ _ _ _ _ _ (aT S).2.1 hm.2.2.2.2.2.2.1.2.1 hm.1.2.1.2.1 _) 10 zcw_10 rfl ⟨Nat.le_of_ble_eq_true rfl, Nat.le_of_ble_eq_true rfl, Nat.le_of_ble_eq_true rfl, Nat.le_of_ble_eq_true rfl⟩) ?_
  refine zx_astoreq C d_Tue_ofDeed_8 (by decide) (lv1 := [(3, _), (0, _), (1, _), (2, _)]) rfl ?_
  refine zx_aloadq C d_Tue_ofDeed_9 rfl ?_
  refine zx_ifnonnull C d_Tue_ofDeed_10 (fun a10 h10 => ?_) (fun h10 => ?_)
  · have h5 := hm.1.2.1.2.1
    obtain ⟨j, hj, rfl, ej, nj⟩ := qof_s (by omega) h10
    rw [ej, hm.2.2.2.2.2.2.1.2.2.2.2.2 j hj]
    refine zx_iload C d_Tue_ofDeed_15 rfl ?_
    refine zx_t4 C d_Tue_ofDeed_16 48 53 58 63 68 (by decide) (by decide) (by decide) (by decide) (by decide) (fun w0 => ?_) (fun w1 => ?_) (fun w2 => ?_) (fun w3 => ?_) (fun w0 w1 w2 w3 => ?_)
    · have ev : ap_ofD S (nI j) v = nI (tq (aT S) 4 j) := by rw [ap_ofD, if_neg nj, nI_cl (by omega), if_pos w0]
      refine zx_aload C d_Tue_ofDeed_48 rfl ?_
      refine zx_get C f_Tue_115_1 d_Tue_ofDeed_49 (23 + ((aT S).1 + j)) (zcw_de hj) rfl ?_
      exact zx_iret C hq d_Tue_ofDeed_52 (by rw [ev]; exact cpi_i rfl hm)
    · have ev : ap_ofD S (nI j) v = nI (tq (aT S) 5 j) := by rw [ap_ofD, if_neg nj, nI_cl (by omega), if_neg (by rw [w1]; decide), if_pos w1]
      refine zx_aload C d_Tue_ofDeed_53 rfl ?_
      refine zx_get C f_Tue_118_1 d_Tue_ofDeed_54 (23 + ((aT S).1 + j)) (zcw_de hj) rfl ?_
      exact zx_iret C hq d_Tue_ofDeed_57 (by rw [ev]; exact cpi_i rfl hm)
    · have ev : ap_ofD S (nI j) v = nI (tq (aT S) 6 j) := by rw [ap_ofD, if_neg nj, nI_cl (by omega), if_neg (by rw [w2]; decide), if_neg (by rw [w2]; decide), if_pos w2]
      refine zx_aload C d_Tue_ofDeed_58 rfl ?_
      refine zx_get C f_Tue_119_1 d_Tue_ofDeed_59 (23 + ((aT S).1 + j)) (zcw_de hj) rfl ?_
      exact zx_iret C hq d_Tue_ofDeed_62 (by rw [ev]; exact cpi_i rfl hm)
    · have ev : ap_ofD S (nI j) v = nI (tq (aT S) 7 j) := by rw [ap_ofD, if_neg nj, nI_cl (by omega), if_neg (by rw [w3]; decide), if_neg (by rw [w3]; decide), if_neg (by rw [w3]; decide), if_pos w3]
      refine zx_aload C d_Tue_ofDeed_63 rfl ?_
      refine zx_get C f_Tue_122_1 d_Tue_ofDeed_64 (23 + ((aT S).1 + j)) (zcw_de hj) rfl ?_
      exact zx_iret C hq d_Tue_ofDeed_67 (by rw [ev]; exact cpi_i rfl hm)
    · have ev : ap_ofD S (nI j) v = -2 := by rw [ap_ofD, if_neg nj, nI_cl (by omega), if_neg w0, if_neg w1, if_neg w2, if_neg w3]
      refine zx_ic C d_Tue_ofDeed_68 ?_
      exact zx_iret C hq d_Tue_ofDeed_70 (by rw [ev]; exact cpi_i rfl hm)
  · have ev : ap_ofD S h v = -1 := if_pos (qof_n hm.2.2.2.2.2.2.1.2.2.2.2.2 (by have := hm.1.2.1.2.1; omega) h10)
    refine zx_ic C d_Tue_ofDeed_13 ?_
    exact zx_iret C hq d_Tue_ofDeed_14 (by rw [ev]; exact cpi_i rfl hm)
set_option maxHeartbeats 600000 in
set_option maxRecDepth 20000 in
theorem c_Tue_many (G : ZG) (ad : Nat → Nat) (I : Nat → Int32) (L : Nat → Int64) (g : Option Nat) (QH QD : Nat → Option Nat) (RI : Nat → Nat → Int32) (RL : Nat → Nat → Int64) (X : va_W) (S : ZA) (hA dA : Nat → Nat) (hm : crp S hA dA I L QH QD RI RL) (v : Int32) : ZM G y_Tue_many b_Tue_many 2 (some .int) r_Tue_many [.ref (ad 0), .int v] (cw G ad I L g none QH QD RI RL ++ pw hA dA (aT S) X) (cpi G ad X (ap_many S v) S) := by
  refine ZM.of "SameTuesday" "many" rfl rfl (by decide) (Nat.le_of_ble_eq_true rfl) (fun Y C hq => ?_)
  change ZV G Y 0 0 0 [(0, .ref (ad 0)), (1, .int v)] [] (cw G ad I L g none QH QD RI RL ++ pw hA dA (aT S) X)
  refine zx_iload C d_Tue_many_0 rfl ?_
  refine zx_t4 C d_Tue_many_1 32 40 48 56 64 (by decide) (by decide) (by decide) (by decide) (by decide) (fun w0 => ?_) (fun w1 => ?_) (fun w2 => ?_) (fun w3 => ?_) (fun w0 w1 w2 w3 => ?_)
  · have ev : ap_many S v = nI (aT S).1 := by rw [ap_many, if_pos w0]
    refine zx_aload C d_Tue_many_32 rfl ?_
    refine zx_get C f_Tue_21_11 d_Tue_many_33 0 zcw_0 rfl ?_
    refine zr_di (zr_V C l_Tue_90 d_Tue_many_36 (As := []) rfl rfl (Nat.le_of_ble_eq_true rfl) (c_Twn_happeningCount G _ _ _ _ _ _ _ _ _ _) 10 zcw_10 rfl ⟨Nat.le_of_ble_eq_true rfl, Nat.le_of_ble_eq_true rfl, Nat.le_of_ble_eq_true rfl, Nat.le_of_ble_eq_true rfl⟩) ?_
    exact zx_iret C hq d_Tue_many_39 (by rw [ev]; exact cpi_i hm.2.2.2.2.2.2.1.1 hm)
  · have ev : ap_many S v = nI (aT S).2.1 := by rw [ap_many, if_neg (by rw [w1]; decide), if_pos w1]
    refine zx_aload C d_Tue_many_40 rfl ?_
    refine zx_get C f_Tue_21_11 d_Tue_many_41 0 zcw_0 rfl ?_
    refine zr_di (zr_V C l_Tue_257 d_Tue_many_44 (As := []) rfl rfl (Nat.le_of_ble_eq_true rfl) (c_Twn_deedCount G _ _ _ _ _ _ _ _ _ _) 10 zcw_10 rfl ⟨Nat.le_of_ble_eq_true rfl, Nat.le_of_ble_eq_true rfl, Nat.le_of_ble_eq_true rfl, Nat.le_of_ble_eq_true rfl⟩) ?_
    exact zx_iret C hq d_Tue_many_47 (by rw [ev]; exact cpi_i hm.2.2.2.2.2.2.1.2.1 hm)
  · have ev : ap_many S v = nI (aT S).2.2.1 := by rw [ap_many, if_neg (by rw [w2]; decide), if_neg (by rw [w2]; decide), if_pos w2]
    refine zx_aload C d_Tue_many_48 rfl ?_
    refine zx_get C f_Tue_21_11 d_Tue_many_49 0 zcw_0 rfl ?_
    refine zr_di (zr_V C l_Tue_129 d_Tue_many_52 (As := []) rfl rfl (Nat.le_of_ble_eq_true rfl) (c_Twn_minuteCount G _ _ _ _ _ _ _ _ _ _) 10 zcw_10 rfl ⟨Nat.le_of_ble_eq_true rfl, Nat.le_of_ble_eq_true rfl, Nat.le_of_ble_eq_true rfl, Nat.le_of_ble_eq_true rfl⟩) ?_
    exact zx_iret C hq d_Tue_many_55 (by rw [ev]; exact cpi_i hm.2.2.2.2.2.2.1.2.2.1 hm)
  · have ev : ap_many S v = nI (and8 S) := by rw [ap_many, if_neg (by rw [w3]; decide), if_neg (by rw [w3]; decide), if_neg (by rw [w3]; decide), if_pos w3]
    refine zx_aload C d_Tue_many_56 rfl ?_
    refine zx_get C f_Tue_44_11 d_Tue_many_57 0 zcw_0 rfl ?_
    refine zr_di (zr_V C l_Tue_80 d_Tue_many_60 (As := []) rfl rfl (Nat.le_of_ble_eq_true rfl) (c_Law_dayCount G _ _ _ _ _ _ _ _ _ _) 20 zcw_20 rfl ⟨Nat.le_of_ble_eq_true rfl, Nat.le_of_ble_eq_true rfl, Nat.le_of_ble_eq_true rfl, Nat.le_of_ble_eq_true rfl⟩) ?_
    exact zx_iret C hq d_Tue_many_63 (by rw [ev]; exact cpi_i hm.2.2.2.2.1 hm)
  · have ev : ap_many S v = -2 := by rw [ap_many, if_neg w0, if_neg w1, if_neg w2, if_neg w3]
    refine zx_ic C d_Tue_many_64 ?_
    exact zx_iret C hq d_Tue_many_66 (by rw [ev]; exact cpi_i rfl hm)
set_option maxHeartbeats 600000 in
set_option maxRecDepth 20000 in
theorem c_Tue_as (G : ZG) (ad : Nat → Nat) (I : Nat → Int32) (L : Nat → Int64) (g : Option Nat) (QH QD : Nat → Option Nat) (RI : Nat → Nat → Int32) (RL : Nat → Nat → Int64) (X : va_W) (S : ZA) (hA dA : Nat → Nat) (hm : crp S hA dA I L QH QD RI RL) (h k : Int32) : ZM G y_Tue_as b_Tue_as 4 (some .int) r_Tue_as [.ref (ad 0), .int h, .int k] (cw G ad I L g none QH QD RI RL ++ pw hA dA (aT S) X) (cpi G ad X (ap_as S h k).1 (ap_as S h k).2) := by
  refine ZM.of "SameTuesday" "as" rfl rfl (by decide) (Nat.le_of_ble_eq_true rfl) (fun Y C hq => ?_)
  change ZV G Y 0 0 0 [(0, .ref (ad 0)), (1, .int h), (2, .int k)] [] (cw G ad I L g none QH QD RI RL ++ pw hA dA (aT S) X)
  refine zx_aload C d_Tue_as_0 rfl ?_
  refine zx_ic C d_Tue_as_1 ?_
  refine zx_put C p_Tue_55_11 d_Tue_as_2 0 zcw_0 zb_fit_i (Nat.le_of_ble_eq_true rfl) zcs_0_6 ?_
  refine zx_aload C d_Tue_as_5 rfl ?_
  refine zx_get C f_Tue_21_11 d_Tue_as_6 0 zcw_0 rfl ?_
  refine zx_iload C d_Tue_as_9 rfl ?_
  refine zr_dq (zr_V C l_Tue_93 d_Tue_as_10 (As := [_]) rfl rfl (Nat.le_of_ble_eq_true rfl) (c_Twn_happeningOf G _ _ _ _ _ _ _ _ _ _ (aT S).1 (by exact hm.2.2.2.2.2.2.1.1) hm.1.2.1.1 _) 10 zcw_10 rfl ⟨Nat.le_of_ble_eq_true rfl, Nat.le_of_ble_eq_true rfl, Nat.le_of_ble_eq_true rfl, Nat.le_of_ble_eq_true rfl⟩) ?_
  refine zx_astoreq C d_Tue_as_13 (by decide) (lv1 := [(3, _), (0, _), (1, _), (2, _)]) rfl ?_
  refine zx_aloadq C d_Tue_as_14 rfl ?_
  refine zx_ifnonnull C d_Tue_as_15 (fun a15 h15 => ?_) (fun h15 => ?_)
  · have h6 := hm.1.2.1.1
    obtain ⟨j, hj, rfl, ej, nj⟩ := qof_s (by omega) h15
    rw [ej, hm.2.2.2.2.2.2.1.2.2.2.2.1 j hj]
    have hk := (hm.1.2.1.2.2.2.1 j hj)
    have evz : ap_as S (nI j) k = _ := if_neg nj
    rw [nI_cl (by omega)] at evz
    refine zx_iload C d_Tue_as_20 rfl ?_
    refine zx_if_lt C d_Tue_as_21 (fun h21 => ?_) (fun h21 => ?_)
    · rw [if_pos (Or.inl h21)] at evz
      have ev := evz
      have hm2 := crp_f hm 0
      refine zx_ic C d_Tue_as_29 ?_
      exact zx_iret C hq d_Tue_as_31 (by rw [ev]; exact cpi_i rfl hm2)
    · refine zx_iload C d_Tue_as_24 rfl ?_
      refine zx_ic C d_Tue_as_25 ?_
      refine zx_ic_le C d_Tue_as_26 (fun h26 => ?_) (fun h26 => ?_)
      · rw [if_neg (nor_of ⟨h21, Int32.not_lt.mpr h26⟩)] at evz
        refine zx_iload C d_Tue_as_32 rfl ?_
        refine zx_aload C d_Tue_as_33 rfl ?_
        refine zr_di (zq_kind C rfl hk.1 d_Tue_as_34 (Nat.le_of_ble_eq_true rfl) (zcw_ha hj) ⟨Nat.le_of_ble_eq_true rfl, Nat.le_of_ble_eq_true rfl, Nat.le_of_ble_eq_true rfl, Nat.le_of_ble_eq_true rfl⟩) ?_
        refine zx_ic_gt C d_Tue_as_37 (fun h37 => ?_) (fun h37 => ?_)
        · rw [if_neg (Int32.not_le.mpr h37)] at evz
          have ev := evz
          have hm2 := crp_0 hm 2
          refine zx_aload C d_Tue_as_44 rfl ?_
          refine zx_ic C d_Tue_as_45 ?_
          refine zr_di (zr_V C l_Tue_216 d_Tue_as_46 (As := [_]) rfl rfl (Nat.le_of_ble_eq_true rfl) (c_Tue_faulty G _ _ _ _ _ _ _ _ _ _ _) 0 zcw_0 rfl ⟨Nat.le_of_ble_eq_true rfl, Nat.le_of_ble_eq_true rfl, Nat.le_of_ble_eq_true rfl, Nat.le_of_ble_eq_true rfl⟩) ?_
          exact zx_iret C hq d_Tue_as_49 (by rw [ev]; exact cpi_i rfl hm2)
        · rw [if_pos (Int32.not_lt.mp h37)] at evz
          have ev := evz
          have hm2 := crp_f hm 0
          refine zx_ic C d_Tue_as_40 ?_
          refine zx_goto C d_Tue_as_41 ?_
          exact zx_iret C hq d_Tue_as_49 (by rw [ev]; exact cpi_i rfl hm2)
      · rw [if_pos (Or.inr (Int32.not_le.mp h26))] at evz
        have ev := evz
        have hm2 := crp_f hm 0
        refine zx_ic C d_Tue_as_29 ?_
        exact zx_iret C hq d_Tue_as_31 (by rw [ev]; exact cpi_i rfl hm2)
  · have ev : ap_as S h k = (-1, sf S 0) := if_pos (qof_n hm.2.2.2.2.2.2.1.2.2.2.2.1 (by have := hm.1.2.1.1; omega) h15)
    have hm2 := crp_f hm 0
    refine zx_ic C d_Tue_as_18 ?_
    exact zx_iret C hq d_Tue_as_19 (by rw [ev]; exact cpi_i rfl hm2)
theorem srp_u2 {S S2 : ZA} {I : Nat → Int32} {RI : Nat → Nat → Int32} {a : Nat} {x : Int32} (h : srp S I RI) (e1 : aln S2 = aln S) (e2 : asz S2 = asz S) (e3 : ace S2 = ace S) (ha : 9 ≤ a) : srp S2 (upd I a x) RI := fun k hk => by
  rw [e1, e2, e3]
  exact ⟨(upd_far (by omega)).trans (h k hk).1, (upd_far (by omega)).trans (h k hk).2.1, (h k hk).2.2⟩
theorem crp_min {S : ZA} {hA dA : Nat → Nat} {I : Nat → Int32} {L : Nat → Int64} {QH QD : Nat → Option Nat} {RI : Nat → Nat → Int32} {RL : Nat → Nat → Int64} (h : crp S hA dA I L QH QD RI RL) {v : Nat} (h1 : 1 ≤ v) (h2 : v ≤ 60) : crp (sT S ((aT S).1, (aT S).2.1, v, (aT S).2.2.2)) hA dA (upd (upd I 11 (nI v)) 17 1) L QH QD RI RL := by
  obtain ⟨⟨a1, a2, a3, a4⟩, b1, b2, b3, b4, b5, b6, b7⟩ := h
  refine ⟨⟨a1, ⟨a2.1, a2.2.1, h2, a2.2.2.2.1, a2.2.2.2.2⟩, fun _ => h1, a4⟩, b1, b2, srp_u2 (srp_u2 (S2 := S) b3 rfl rfl rfl (by decide)) rfl rfl rfl (by decide), b4, b5, ⟨b6.1, b6.2.1, rfl, b6.2.2.2⟩, Or.inr rfl, fun z => absurd z (by show ¬ (1 : Int32) = 0; decide)⟩
set_option maxHeartbeats 600000 in
set_option maxRecDepth 20000 in
theorem c_Tue_minutes (G : ZG) (ad : Nat → Nat) (I : Nat → Int32) (L : Nat → Int64) (g : Option Nat) (QH QD : Nat → Option Nat) (RI : Nat → Nat → Int32) (RL : Nat → Nat → Int64) (X : va_W) (S : ZA) (hA dA : Nat → Nat) (hm : crp S hA dA I L QH QD RI RL) (v : Int32) : ZM G y_Tue_minutes b_Tue_minutes 3 (some .int) r_Tue_minutes [.ref (ad 0), .int v] (cw G ad I L g none QH QD RI RL ++ pw hA dA (aT S) X) (cpi G ad X (ap_min S v).1 (ap_min S v).2) := by
  refine ZM.of "SameTuesday" "minutes" rfl rfl (by decide) (Nat.le_of_ble_eq_true rfl) (fun Y C hq => ?_)
  change ZV G Y 0 0 0 [(0, .ref (ad 0)), (1, .int v)] [] (cw G ad I L g none QH QD RI RL ++ pw hA dA (aT S) X)
  refine zx_iload C d_Tue_minutes_0 rfl ?_
  refine zx_ic C d_Tue_minutes_1 ?_
  refine zx_ic_lt C d_Tue_minutes_2 (fun h2 => ?_) (fun h2 => ?_)
  · have ev : ap_min S v = (-2, S) := if_pos (Or.inl h2)
    have hm2 := hm
    refine zx_ic C d_Tue_minutes_11 ?_
    exact zx_iret C hq d_Tue_minutes_13 (by rw [ev]; exact cpi_i rfl hm2)
  · refine zx_iload C d_Tue_minutes_5 rfl ?_
    refine zx_ic C d_Tue_minutes_6 ?_
    refine zx_ic_le C d_Tue_minutes_8 (fun h8 => ?_) (fun h8 => ?_)
    · have h60 : ¬ 60 < v := Int32.not_lt.mpr h8
      have evz : ap_min S v = _ := if_neg (nor_of ⟨h2, h60⟩)
      refine zx_aload C d_Tue_minutes_14 rfl ?_
      refine zx_get C f_Tue_21_11 d_Tue_minutes_15 0 zcw_0 rfl ?_
      refine zr_di (zr_V C l_Tue_125 d_Tue_minutes_18 (As := []) rfl rfl (Nat.le_of_ble_eq_true rfl) (c_Twn_isTold G _ _ _ _ _ _ _ _ _ _ (aT S).1 hm.2.2.2.2.2.2.1.1 hm.1.2.1.1) 10 zcw_10 rfl ⟨Nat.le_of_ble_eq_true rfl, Nat.le_of_ble_eq_true rfl, Nat.le_of_ble_eq_true rfl, Nat.le_of_ble_eq_true rfl⟩) ?_
      refine zx_ifB_ne C d_Tue_minutes_21 (fun h21 => ?_) (fun h21 => ?_)
      · rw [if_neg h21] at evz
        obtain ⟨x, hx, rfl⟩ := ix_le (n := 60) (by decide) (fun z => h2 (Int32.lt_trans z (by decide))) h60
        rw [nI_cl (by omega)] at evz
        have ev := evz
        have hx1 : 1 ≤ x := Classical.byContradiction fun z => h2 (by rw [show x = 0 by omega]; decide)
        have hm2 := crp_min hm hx1 hx
        refine zx_aload C d_Tue_minutes_27 rfl ?_
        refine zx_get C f_Tue_21_11 d_Tue_minutes_28 0 zcw_0 rfl ?_
        refine zr_di (zr_V C l_Tue_129 d_Tue_minutes_31 (As := []) rfl rfl (Nat.le_of_ble_eq_true rfl) (c_Twn_minuteCount G _ _ _ _ _ _ _ _ _ _) 10 zcw_10 rfl ⟨Nat.le_of_ble_eq_true rfl, Nat.le_of_ble_eq_true rfl, Nat.le_of_ble_eq_true rfl, Nat.le_of_ble_eq_true rfl⟩) ?_
        refine zx_istore C d_Tue_minutes_34 (by decide) (lv1 := [(2, _), (0, _), (1, _)]) rfl ?_
        refine zx_aload C d_Tue_minutes_35 rfl ?_
        refine zx_get C f_Tue_21_11 d_Tue_minutes_36 0 zcw_0 rfl ?_
        refine zx_iload C d_Tue_minutes_39 rfl ?_
        refine zr_dv (zr_V C l_Tue_132 d_Tue_minutes_40 (As := [_]) rfl rfl (Nat.le_of_ble_eq_true rfl) (c_Twn_setMinutes G _ _ _ _ _ _ _ _ _ _ _) 10 zcw_10 rfl ⟨Nat.le_of_ble_eq_true rfl, Nat.le_of_ble_eq_true rfl, Nat.le_of_ble_eq_true rfl, Nat.le_of_ble_eq_true rfl⟩) ?_
        refine zx_aload C d_Tue_minutes_43 rfl ?_
        refine zx_get C f_Tue_37_11 d_Tue_minutes_44 0 zcw_0 rfl ?_
        refine zr_dv (zr_V C l_Tue_87 d_Tue_minutes_47 (As := []) rfl rfl (Nat.le_of_ble_eq_true rfl) (c_Rch_spoil G _ _ _ _ _ _ _ _ _ _) 17 zcw_17 rfl ⟨Nat.le_of_ble_eq_true rfl, Nat.le_of_ble_eq_true rfl, Nat.le_of_ble_eq_true rfl, Nat.le_of_ble_eq_true rfl⟩) ?_
        refine zx_iload C d_Tue_minutes_50 rfl ?_
        exact zx_iret C hq d_Tue_minutes_51 (by rw [ev]; exact cpi_i hm.2.2.2.2.2.2.1.2.2.1 hm2)
      · rw [if_pos (Classical.byContradiction h21)] at evz
        have ev := evz
        have hm2 := hm
        refine zx_ic C d_Tue_minutes_24 ?_
        exact zx_iret C hq d_Tue_minutes_26 (by rw [ev]; exact cpi_i rfl hm2)
    · have ev : ap_min S v = (-2, S) := if_pos (Or.inr (Int32.not_le.mp h8))
      have hm2 := hm
      refine zx_ic C d_Tue_minutes_11 ?_
      exact zx_iret C hq d_Tue_minutes_13 (by rw [ev]; exact cpi_i rfl hm2)
