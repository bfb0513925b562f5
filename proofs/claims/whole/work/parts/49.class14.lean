set_option maxHeartbeats 600000 in
set_option maxRecDepth 20000 in
theorem c_Hap_after (G : ZG) (ad : Nat → Nat) (I : Nat → Int32) (L : Nat → Int64) (g z : Option Nat) (QH QD : Nat → Option Nat) (RI : Nat → Nat → Int32) (RL : Nat → Nat → Int64) (X : va_W) (T : ZT) (hA dA : Nat → Nat) (j : Nat) (hj : j < T.1) (hk : tq T 0 j = 0) (x : Int64) : ZM G y_Hap_after b_Hap_after 5 (some .long) r_Hap_after [.ref (hA j), .long x] (cw G ad I L g z QH QD RI RL ++ pw hA dA T X) (zdl (afX 0 (ww (tq T 2 j)) (ww (tq T 3 j)) ((1 : Int32) <<< (nI (tq T 3 j) &&& 31)) x) (cw G ad I L g z QH QD RI RL ++ pw hA dA T X)) := by
  refine ZM.of "SameTuesday$Happening" "after" rfl rfl (by decide) (Nat.le_of_ble_eq_true rfl) (fun Y C hq => ?_)
  change ZV G Y 0 0 0 [(0, .ref (hA j)), (1, .long x)] [] (cw G ad I L g z QH QD RI RL ++ pw hA dA T X)
  have hw : (cw G ad I L g z QH QD RI RL ++ pw hA dA T X)[23 + j]? = some (hA j, .inr (2, hfs T j)) := by rw [zcw_ha hj, hk]; rfl
  refine zx_lload C d_Hap_after_0 rfl ?_
  refine zx_aload C d_Hap_after_1 rfl ?_
  refine zx_get C (fh_Hap_28 _) d_Hap_after_2 (23 + j) (zcw_ha hj) rfl ?_
  refine zx_land C d_Hap_after_5 ?_
  refine zx_aload C d_Hap_after_6 rfl ?_
  refine zx_get C (fh_Hap_32 _) d_Hap_after_7 (23 + j) (zcw_ha hj) rfl ?_
  refine zx_lc C d_Hap_after_10 ?_
  refine zx_lxor C d_Hap_after_13 ?_
  refine zx_land C d_Hap_after_14 ?_
  refine zx_lstore C d_Hap_after_15 (by decide) (lv1 := [(3, _), (0, _), (1, _)]) rfl ?_
  refine zx_lload C d_Hap_after_16 rfl ?_
  refine zx_lload C d_Hap_after_17 rfl ?_
  refine zx_lc C d_Hap_after_18 ?_
  refine zx_lxor C d_Hap_after_21 ?_
  refine zx_land C d_Hap_after_22 ?_
  refine zx_lload C d_Hap_after_23 rfl ?_
  refine zx_ic C d_Hap_after_24 ?_
  refine zx_aload C d_Hap_after_25 rfl ?_
  refine zx_get C (fh_Hap_19 _) d_Hap_after_26 (23 + j) (zcw_ha hj) rfl ?_
  refine zx_ishl C d_Hap_after_29 ?_
  refine zx_lshl C d_Hap_after_30 ?_
  refine zx_lor C d_Hap_after_31 ?_
  exact zx_lret C hq d_Hap_after_32 (⟨rfl, rfl⟩)
set_option maxHeartbeats 600000 in
set_option maxRecDepth 20000 in
theorem c_Mis_after (G : ZG) (ad : Nat → Nat) (I : Nat → Int32) (L : Nat → Int64) (g z : Option Nat) (QH QD : Nat → Option Nat) (RI : Nat → Nat → Int32) (RL : Nat → Nat → Int64) (X : va_W) (T : ZT) (hA dA : Nat → Nat) (j : Nat) (hj : j < T.1) (hk : tq T 0 j = 1) (x : Int64) : ZM G y_Mis_after b_Mis_after 5 (some .long) r_Mis_after [.ref (hA j), .long x] (cw G ad I L g z QH QD RI RL ++ pw hA dA T X) (zdl (afX 1 (ww (tq T 2 j)) (ww (tq T 3 j)) ((1 : Int32) <<< (nI (tq T 3 j) &&& 31)) x) (cw G ad I L g z QH QD RI RL ++ pw hA dA T X)) := by
  refine ZM.of "SameTuesday$Mishap" "after" rfl rfl (by decide) (Nat.le_of_ble_eq_true rfl) (fun Y C hq => ?_)
  change ZV G Y 0 0 0 [(0, .ref (hA j)), (1, .long x)] [] (cw G ad I L g z QH QD RI RL ++ pw hA dA T X)
  have hw : (cw G ad I L g z QH QD RI RL ++ pw hA dA T X)[23 + j]? = some (hA j, .inr (5, hfs T j)) := by rw [zcw_ha hj, hk]; rfl
  refine zx_lload C d_Mis_after_0 rfl ?_
  refine zx_aload C d_Mis_after_1 rfl ?_
  refine zx_get C f_Mis_7_5 d_Mis_after_2 (23 + j) hw rfl ?_
  refine zx_land C d_Mis_after_5 ?_
  refine zx_aload C d_Mis_after_6 rfl ?_
  refine zx_get C f_Mis_13_5 d_Mis_after_7 (23 + j) hw rfl ?_
  refine zx_land C d_Mis_after_10 ?_
  refine zx_lstore C d_Mis_after_11 (by decide) (lv1 := [(3, _), (0, _), (1, _)]) rfl ?_
  refine zx_lload C d_Mis_after_12 rfl ?_
  refine zx_lload C d_Mis_after_13 rfl ?_
  refine zx_lc C d_Mis_after_14 ?_
  refine zx_lxor C d_Mis_after_17 ?_
  refine zx_land C d_Mis_after_18 ?_
  refine zx_lload C d_Mis_after_19 rfl ?_
  refine zx_ic C d_Mis_after_20 ?_
  refine zx_aload C d_Mis_after_21 rfl ?_
  refine zx_get C f_Mis_18_5 d_Mis_after_22 (23 + j) hw rfl ?_
  refine zx_ishl C d_Mis_after_25 ?_
  refine zx_lushr C d_Mis_after_26 ?_
  refine zx_lor C d_Mis_after_27 ?_
  exact zx_lret C hq d_Mis_after_28 (⟨rfl, rfl⟩)
set_option maxHeartbeats 600000 in
set_option maxRecDepth 20000 in
theorem c_Cap_after (G : ZG) (ad : Nat → Nat) (I : Nat → Int32) (L : Nat → Int64) (g z : Option Nat) (QH QD : Nat → Option Nat) (RI : Nat → Nat → Int32) (RL : Nat → Nat → Int64) (X : va_W) (T : ZT) (hA dA : Nat → Nat) (j : Nat) (hj : j < T.1) (hk : tq T 0 j = 2) (x : Int64) : ZM G y_Cap_after b_Cap_after 7 (some .long) r_Cap_after [.ref (hA j), .long x] (cw G ad I L g z QH QD RI RL ++ pw hA dA T X) (zdl (afX 2 (ww (tq T 2 j)) (ww (tq T 3 j)) ((1 : Int32) <<< (nI (tq T 3 j) &&& 31)) x) (cw G ad I L g z QH QD RI RL ++ pw hA dA T X)) := by
  refine ZM.of "SameTuesday$Caprice" "after" rfl rfl (by decide) (Nat.le_of_ble_eq_true rfl) (fun Y C hq => ?_)
  change ZV G Y 0 0 0 [(0, .ref (hA j)), (1, .long x)] [] (cw G ad I L g z QH QD RI RL ++ pw hA dA T X)
  have hw : (cw G ad I L g z QH QD RI RL ++ pw hA dA T X)[23 + j]? = some (hA j, .inr (0, hfs T j)) := by rw [zcw_ha hj, hk]; rfl
  refine zx_lload C d_Cap_after_0 rfl ?_
  refine zx_aload C d_Cap_after_1 rfl ?_
  refine zx_get C f_Cap_7_0 d_Cap_after_2 (23 + j) hw rfl ?_
  refine zx_land C d_Cap_after_5 ?_
  refine zx_aload C d_Cap_after_6 rfl ?_
  refine zx_get C f_Cap_13_0 d_Cap_after_7 (23 + j) hw rfl ?_
  refine zx_lc C d_Cap_after_10 ?_
  refine zx_lxor C d_Cap_after_13 ?_
  refine zx_land C d_Cap_after_14 ?_
  refine zx_lstore C d_Cap_after_15 (by decide) (lv1 := [(3, _), (0, _), (1, _)]) rfl ?_
  refine zx_lload C d_Cap_after_16 rfl ?_
  refine zx_aload C d_Cap_after_17 rfl ?_
  refine zx_get C f_Cap_7_0 d_Cap_after_18 (23 + j) hw rfl ?_
  refine zx_land C d_Cap_after_21 ?_
  refine zx_aload C d_Cap_after_22 rfl ?_
  refine zx_get C f_Cap_13_0 d_Cap_after_23 (23 + j) hw rfl ?_
  refine zx_land C d_Cap_after_26 ?_
  refine zx_lstore C d_Cap_after_27 (by decide) (lv1 := [(5, _), (3, _), (0, _), (1, _)]) rfl ?_
  refine zx_lload C d_Cap_after_29 rfl ?_
  refine zx_aload C d_Cap_after_30 rfl ?_
  refine zx_get C f_Cap_7_0 d_Cap_after_31 (23 + j) hw rfl ?_
  refine zx_lc C d_Cap_after_34 ?_
  refine zx_lxor C d_Cap_after_37 ?_
  refine zx_land C d_Cap_after_38 ?_
  refine zx_lload C d_Cap_after_39 rfl ?_
  refine zx_ic C d_Cap_after_40 ?_
  refine zx_aload C d_Cap_after_41 rfl ?_
  refine zx_get C f_Cap_18_0 d_Cap_after_42 (23 + j) hw rfl ?_
  refine zx_ishl C d_Cap_after_45 ?_
  refine zx_lshl C d_Cap_after_46 ?_
  refine zx_lor C d_Cap_after_47 ?_
  refine zx_lload C d_Cap_after_48 rfl ?_
  refine zx_ic C d_Cap_after_50 ?_
  refine zx_aload C d_Cap_after_51 rfl ?_
  refine zx_get C f_Cap_18_0 d_Cap_after_52 (23 + j) hw rfl ?_
  refine zx_ishl C d_Cap_after_55 ?_
  refine zx_lushr C d_Cap_after_56 ?_
  refine zx_lor C d_Cap_after_57 ?_
  exact zx_lret C hq d_Cap_after_58 (⟨rfl, rfl⟩)
theorem zq_after {G : ZG} {Y : ZY} {cc : ByteArray} {nm : String} {ret : Option FieldType} {rm : Room} {nl : Nat} {kc ks pc pc1 : Nat} {lv : List (Nat × Value)} {rest : List Value} (ad : Nat → Nat) (I : Nat → Int32) (L : Nat → Int64) (g z : Option Nat) (QH QD : Nat → Option Nat) (RI : Nat → Nat → Int32) (RL : Nat → Nat → Int64) (X : va_W) (T : ZT) (hA dA : Nat → Nat) (j : Nat) (hj : j < T.1) (x : Int64) {idx : Nat} (C : ZC G Y cc "SameTuesday$Town" nm ret rm nl) (hi : idx = 67) (hk : tq T 0 j ≤ 2) (hd : zd cc pc (.invokevirtual idx) 3 pc1) (hro : (rest.map fun v => v.category).sum ≤ 8) (hR : zl_R r_Cap_after rm 7 kc ks) : ZR G Y kc ks pc pc1 lv (.long x :: .ref (hA j) :: rest) (cw G ad I L g z QH QD RI RL ++ pw hA dA T X) rest 0 0 (zdl (afX (tq T 0 j) (ww (tq T 2 j)) (ww (tq T 3 j)) ((1 : Int32) <<< (nI (tq T 3 j) &&& 31)) x) (cw G ad I L g z QH QD RI RL ++ pw hA dA T X)) := by
  subst hi
  have hw := zcw_ha (G := G) (ad := ad) (I := I) (L := L) (g := g) (z := z) (QH := QH) (QD := QD) (RI := RI) (RL := RL) (X := X) (dA := dA) (hA := hA) hj
  rcases k3 hk with h | h | h <;> rw [h] at hw ⊢
  · exact zr_U C u_Twn_67_Hap hd (As := [_]) rfl rfl hro (c_Hap_after G ad I L g z QH QD RI RL X T hA dA j hj h x) (23 + j) hw rfl ⟨hR.1, by have := hR.2.1; simp only [] at this ⊢; omega, hR.2.2.1, hR.2.2.2⟩
  · exact zr_U C u_Twn_67_Mis hd (As := [_]) rfl rfl hro (c_Mis_after G ad I L g z QH QD RI RL X T hA dA j hj h x) (23 + j) hw rfl ⟨hR.1, by have := hR.2.1; simp only [] at this ⊢; omega, hR.2.2.1, hR.2.2.2⟩
  · exact zr_U C u_Twn_67_Cap hd (As := [_]) rfl rfl hro (c_Cap_after G ad I L g z QH QD RI RL X T hA dA j hj h x) (23 + j) hw rfl hR
