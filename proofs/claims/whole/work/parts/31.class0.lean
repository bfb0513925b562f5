def zl_cp (own : String) (idx : Nat) : Prop := Cond.methodLink own idx arraycopyName ∈ zb_tb ∧ Cond.native arraycopyName ∈ zb_tb ∧ Cond.static arraycopyName ∈ zb_tb ∧ Cond.initialized "java/lang/System" ∈ zb_tb
theorem nI_nn {a : Nat} (ha : a < 2 ^ 31) : ¬ nI a < 0 := fun z => Nat.not_lt_zero a ((nI_ltI ha (by decide)).mp (show nI a < nI 0 from z))
def zl_mmax (own : String) (idx : Nat) : Prop := Cond.methodLink own idx Lib.Math.max.name ∈ zb_tb ∧ Cond.static Lib.Math.max.name ∈ zb_tb ∧ Cond.initialized "java/lang/Math" ∈ zb_tb ∧ Cond.code Lib.Math.max.name Lib.Math.max.code 2 (some .int) ∈ zb_tb
def zl_mmin (own : String) (idx : Nat) : Prop := Cond.methodLink own idx Lib.Math.min.name ∈ zb_tb ∧ Cond.static Lib.Math.min.name ∈ zb_tb ∧ Cond.initialized "java/lang/Math" ∈ zb_tb ∧ Cond.code Lib.Math.min.name Lib.Math.min.code 2 (some .int) ∈ zb_tb
set_option maxRecDepth 20000 in
theorem zk_math_Twn_42 : zl_mmin "SameTuesday$Town" 42 := ⟨zb_mem 325 rfl rfl, zb_mem 326 rfl rfl, zb_mem 59 rfl rfl, zb_mem 327 rfl rfl⟩
set_option maxRecDepth 20000 in
theorem zk_math_Law_19 : zl_mmax "SameTuesday$Law" 19 := ⟨zb_mem 464 rfl rfl, zb_mem 465 rfl rfl, zb_mem 59 rfl rfl, zb_mem 466 rfl rfl⟩
set_option maxRecDepth 20000 in
theorem zk_math_Life_72 : zl_mmin "SameTuesday$Life" 72 := ⟨zb_mem 549 rfl rfl, zb_mem 326 rfl rfl, zb_mem 59 rfl rfl, zb_mem 327 rfl rfl⟩
set_option maxRecDepth 20000 in
theorem l_Rch_78 : zl_cp "SameTuesday$Reach" 78 := ⟨zb_mem 653 rfl rfl, zb_mem 655 rfl rfl, zb_mem 654 rfl rfl, zb_mem 66 rfl rfl⟩
set_option maxRecDepth 20000 in
theorem zk_math_Tue_279 : zl_mmin "SameTuesday" 279 := ⟨zb_mem 756 rfl rfl, zb_mem 326 rfl rfl, zb_mem 59 rfl rfl, zb_mem 327 rfl rfl⟩
set_option maxRecDepth 20000 in
theorem zk_math_Sht_22 : zl_mmin "SameTuesday$Sheet" 22 := ⟨zb_mem 795 rfl rfl, zb_mem 326 rfl rfl, zb_mem 59 rfl rfl, zb_mem 327 rfl rfl⟩
set_option maxRecDepth 20000 in
theorem zk_math_Sht_28 : zl_mmax "SameTuesday$Sheet" 28 := ⟨zb_mem 796 rfl rfl, zb_mem 465 rfl rfl, zb_mem 59 rfl rfl, zb_mem 466 rfl rfl⟩
set_option maxRecDepth 20000 in
theorem l_Sht_35 : zl_cp "SameTuesday$Sheet" 35 := ⟨zb_mem 831 rfl rfl, zb_mem 655 rfl rfl, zb_mem 654 rfl rfl, zb_mem 66 rfl rfl⟩
theorem zx_cpyi {G : ZG} {Y : ZY} {cc : ByteArray} {own nm : String} {ret : Option FieldType} {rm : Room} {nl : Nat} {kc ks pc pc1 : Nat} {lv : List (Nat × Value)} {st : List Value} {w : va_W} (C : ZC G Y cc own nm ret rm nl) {idx : Nat} (hl : zl_cp own idx) {n0 n1 : Nat} {f g : Nat → Int32} {a a0 : Nat} {w1 : va_W} {x y n : Int32} (hd : zd cc pc (.invokestatic idx) 3 pc1) (q0 q1 : Nat) (hw0 : w[q0]? = some (a0, .inl (zc G 0, n0, .inl f))) (hw1 : w[q1]? = some (a, .inl (zc G 0, n1, .inl g))) (i j k : Nat) (hx : x = nI i) (hy : y = nI j) (hn : n = nI k) (h4 : i + k ≤ n0) (h5 : j + k ≤ n1) (hn0 : n0 < 2 ^ 31) (hn1 : n1 < 2 ^ 31) (hs : w.set q1 (a, .inl (zc G 0, n1, .inl (va_cpy f g i j k))) = w1) (hro : 1 ≤ rm.frames) (hrl : (st.map fun v => v.category).sum + (nativeFrameWords "java/lang/System" "arraycopy" 5 + 11) ≤ rm.locals) (kk : ZV G Y kc ks pc1 lv st w1) : ZV G Y kc ks pc lv (.int n :: .int y :: .ref a :: .int x :: .ref a0 :: st) w := by
  obtain ⟨l, D, cA, B, t⟩ := G
  obtain ⟨p, e, R, s, m, args, below, meth, c, Q, nL⟩ := Y
  obtain ⟨hx1, hb, hml, hnl, hown, hts, hK, hlk, hr, hnm, rfl, hB, hZ, hN, hO, hCa⟩ := C
  obtain ⟨hd, rfl⟩ := hd
  obtain ⟨k1, k2, k3, k4⟩ := hl
  subst hx; subst hy; subst hn; subst hs
  intro H locs ls hP hD hS hl
  refine va_copyi hx1 hb (hml.trans (hl.1.trans hnl).symm) hown (hts _ k1) (hts _ k2) (hts _ k3) (hts _ k4) hK hP hD hS q0 q1 0 0 hw0 hw1 rfl rfl rfl (nI_nn (by omega)) (nI_nn (by omega)) (nI_nn (by omega)) (by rw [nI_clamp (by omega), nI_clamp (by omega)]; exact h4) (by rw [nI_clamp (by omega), nI_clamp (by omega)]; exact h5) (fun _ _ => rfl) hro hrl hd ?_
  rw [nI_clamp (show i < 2 ^ 31 by omega), nI_clamp (show j < 2 ^ 31 by omega), nI_clamp (show k < 2 ^ 31 by omega)]
  exact fun H1 locs1 hP1 hD1 hS1 => kk H1 locs1 ls hP1 hD1 hS1 hl
theorem zx_cpyl {G : ZG} {Y : ZY} {cc : ByteArray} {own nm : String} {ret : Option FieldType} {rm : Room} {nl : Nat} {kc ks pc pc1 : Nat} {lv : List (Nat × Value)} {st : List Value} {w : va_W} (C : ZC G Y cc own nm ret rm nl) {idx : Nat} (hl : zl_cp own idx) {n0 n1 : Nat} {f g : Nat → Int64} {a a0 : Nat} {w1 : va_W} {x y n : Int32} (hd : zd cc pc (.invokestatic idx) 3 pc1) (q0 q1 : Nat) (hw0 : w[q0]? = some (a0, .inl (zc G 2, n0, .inr (.inl f)))) (hw1 : w[q1]? = some (a, .inl (zc G 2, n1, .inr (.inl g)))) (i j k : Nat) (hx : x = nI i) (hy : y = nI j) (hn : n = nI k) (h4 : i + k ≤ n0) (h5 : j + k ≤ n1) (hn0 : n0 < 2 ^ 31) (hn1 : n1 < 2 ^ 31) (hs : w.set q1 (a, .inl (zc G 2, n1, .inr (.inl (va_cpy f g i j k)))) = w1) (hro : 1 ≤ rm.frames) (hrl : (st.map fun v => v.category).sum + (nativeFrameWords "java/lang/System" "arraycopy" 5 + 11) ≤ rm.locals) (kk : ZV G Y kc ks pc1 lv st w1) : ZV G Y kc ks pc lv (.int n :: .int y :: .ref a :: .int x :: .ref a0 :: st) w := by
  obtain ⟨l, D, cA, B, t⟩ := G
  obtain ⟨p, e, R, s, m, args, below, meth, c, Q, nL⟩ := Y
  obtain ⟨hx1, hb, hml, hnl, hown, hts, hK, hlk, hr, hnm, rfl, hB, hZ, hN, hO, hCa⟩ := C
  obtain ⟨hd, rfl⟩ := hd
  obtain ⟨k1, k2, k3, k4⟩ := hl
  subst hx; subst hy; subst hn; subst hs
  intro H locs ls hP hD hS hl
  refine va_copyl hx1 hb (hml.trans (hl.1.trans hnl).symm) hown (hts _ k1) (hts _ k2) (hts _ k3) (hts _ k4) hK hP hD hS q0 q1 2 2 hw0 hw1 rfl rfl rfl (nI_nn (by omega)) (nI_nn (by omega)) (nI_nn (by omega)) (by rw [nI_clamp (by omega), nI_clamp (by omega)]; exact h4) (by rw [nI_clamp (by omega), nI_clamp (by omega)]; exact h5) (fun _ _ => rfl) hro hrl hd ?_
  rw [nI_clamp (show i < 2 ^ 31 by omega), nI_clamp (show j < 2 ^ 31 by omega), nI_clamp (show k < 2 ^ 31 by omega)]
  exact fun H1 locs1 hP1 hD1 hS1 => kk H1 locs1 ls hP1 hD1 hS1 hl
theorem zx_mmax {G : ZG} {Y : ZY} {cc : ByteArray} {own nm : String} {ret : Option FieldType} {rm : Room} {nl : Nat} {kc ks pc pc1 : Nat} {lv : List (Nat × Value)} {st : List Value} {w : va_W} (C : ZC G Y cc own nm ret rm nl) {idx : Nat} (hl : zl_mmax own idx) {x y : Int32} (hd : zd cc pc (.invokestatic idx) 3 pc1) (h1 : 1 ≤ rm.frames) (h2 : (st.map fun v => v.category).sum + 13 ≤ rm.locals) (h3 : kc ≤ rm.cells) (h4 : ks ≤ rm.slots) (kk : ZV G Y kc ks pc1 lv (.int (if x < y then y else x) :: st) w) : ZV G Y kc ks pc lv (.int y :: .int x :: st) w := by
  obtain ⟨l, D, cA, B, t⟩ := G
  obtain ⟨p, e, R, s, m, args, below, meth, c, Q, nL⟩ := Y
  obtain ⟨hx1, hb, hml, hnl, hown, hts, hK, hlk, hr, hnm, rfl, hB, hZ, hN, hO, hCa⟩ := C
  obtain ⟨hd, rfl⟩ := hd
  obtain ⟨k1, k2, k3, k4⟩ := hl
  intro H locs ls hP hD hS hl
  exact va_mmax hx1 hb (hml.trans (hl.1.trans hnl).symm) hown (hts _ k1) (hts _ k2) (hts _ k3) (hts _ k4) h1 h2 h3 h4 hd (kk H locs ls hP hD hS hl)
theorem zx_mmin {G : ZG} {Y : ZY} {cc : ByteArray} {own nm : String} {ret : Option FieldType} {rm : Room} {nl : Nat} {kc ks pc pc1 : Nat} {lv : List (Nat × Value)} {st : List Value} {w : va_W} (C : ZC G Y cc own nm ret rm nl) {idx : Nat} (hl : zl_mmin own idx) {x y : Int32} (hd : zd cc pc (.invokestatic idx) 3 pc1) (h1 : 1 ≤ rm.frames) (h2 : (st.map fun v => v.category).sum + 13 ≤ rm.locals) (h3 : kc ≤ rm.cells) (h4 : ks ≤ rm.slots) (kk : ZV G Y kc ks pc1 lv (.int (if y < x then y else x) :: st) w) : ZV G Y kc ks pc lv (.int y :: .int x :: st) w := by
  obtain ⟨l, D, cA, B, t⟩ := G
  obtain ⟨p, e, R, s, m, args, below, meth, c, Q, nL⟩ := Y
  obtain ⟨hx1, hb, hml, hnl, hown, hts, hK, hlk, hr, hnm, rfl, hB, hZ, hN, hO, hCa⟩ := C
  obtain ⟨hd, rfl⟩ := hd
  obtain ⟨k1, k2, k3, k4⟩ := hl
  intro H locs ls hP hD hS hl
  exact va_mmin hx1 hb (hml.trans (hl.1.trans hnl).symm) hown (hts _ k1) (hts _ k2) (hts _ k3) (hts _ k4) h1 h2 h3 h4 hd (kk H locs ls hP hD hS hl)
def urL (R : Nat → Nat → Int64) (k : Nat) (r : Nat → Int64) : Nat → Nat → Int64 := fun j => if j = k then r else R j
def cf_0 (ad : Nat → Nat) (I : Nat → Int32) (L : Nat → Int64) (g z : Option Nat) : List Value := [.ref (ad 1), .ref (ad 10), .ref (ad 13), .ref (ad 17), .ref (ad 20), .ref (ad 22), .int (I 0)]
def cf_10 (ad : Nat → Nat) (I : Nat → Int32) (L : Nat → Int64) (g z : Option Nat) : List Value := [.ref (ad 11), .ref (ad 12), .int (I 9), .int (I 10), .int (I 11), .long (L 0)]
def cf_13 (ad : Nat → Nat) (I : Nat → Int32) (L : Nat → Int64) (g z : Option Nat) : List Value := [.ref (ad 10), .ref (ad 14), .ref (ad 15), .int (I 12), .ref (ad 16), .long (L 1), va_rf g, .int (I 13), .int (I 14), .int (I 15), va_rf z, .int (I 16)]
def cf_17 (ad : Nat → Nat) (I : Nat → Int32) (L : Nat → Int64) (g z : Option Nat) : List Value := [.ref (ad 10), .ref (ad 18), .ref (ad 19), .long (L 2), .int (I 17)]
def cf_20 (ad : Nat → Nat) (I : Nat → Int32) (L : Nat → Int64) (g z : Option Nat) : List Value := [.ref (ad 21), .int (I 18)]
def cf_22 (ad : Nat → Nat) (I : Nat → Int32) (L : Nat → Int64) (g z : Option Nat) : List Value := [.int (I 19)]
def cf_sh (ad : Nat → Nat) (I : Nat → Int32) (k : Nat) : List Value := [.ref (ad (6 + k)), .int (I (1 + k)), .int (I (5 + k))]
def csq (ad : Nat → Nat) : Nat → Option Nat := fun j => some (ad (2 + j))
def cw (G : ZG) (ad : Nat → Nat) (I : Nat → Int32) (L : Nat → Int64) (g z : Option Nat) (QH QD : Nat → Option Nat) (RI : Nat → Nat → Int32) (RL : Nat → Nat → Int64) : va_W := [(ad 0, .inr (11, cf_0 ad I L g z)), (ad 1, .inl (zc G 3, 4, .inr (.inr (.inr (.inr (csq ad)))))), (ad 2, .inr (7, cf_sh ad I 0)), (ad 3, .inr (7, cf_sh ad I 1)), (ad 4, .inr (7, cf_sh ad I 2)), (ad 5, .inr (7, cf_sh ad I 3)), (ad 6, .inl (zc G 0, 60, .inl (RI 0))), (ad 7, .inl (zc G 0, 60, .inl (RI 1))), (ad 8, .inl (zc G 0, 60, .inl (RI 2))), (ad 9, .inl (zc G 0, 60, .inl (RI 3))), (ad 10, .inr (9, cf_10 ad I L g z)), (ad 11, .inl (zc G 4, 6, .inr (.inr (.inr (.inr QH))))), (ad 12, .inl (zc G 5, 5, .inr (.inr (.inr (.inr QD))))), (ad 13, .inr (4, cf_13 ad I L g z)), (ad 14, .inl (zc G 0, 20, .inl (RI 4))), (ad 15, .inl (zc G 0, 20, .inl (RI 5))), (ad 16, .inl (zc G 2, 60, .inr (.inl (RL 0)))), (ad 17, .inr (6, cf_17 ad I L g z)), (ad 18, .inl (zc G 2, 60, .inr (.inl (RL 1)))), (ad 19, .inl (zc G 2, 50, .inr (.inl (RL 2)))), (ad 20, .inr (3, cf_20 ad I L g z)), (ad 21, .inl (zc G 0, 8, .inl (RI 6))), (ad 22, .inr (10, cf_22 ad I L g z))]
section ZClass
variable {G : ZG} {ad : Nat → Nat} {I : Nat → Int32} {L : Nat → Int64} {g z : Option Nat} {QH QD : Nat → Option Nat} {RI : Nat → Nat → Int32} {RL : Nat → Nat → Int64} {X : va_W}
theorem zcw_0 : (cw G ad I L g z QH QD RI RL ++ X)[0]? = some (ad 0, .inr (11, cf_0 ad I L g z)) := rfl
theorem zcw_1 : (cw G ad I L g z QH QD RI RL ++ X)[1]? = some (ad 1, .inl (zc G 3, 4, .inr (.inr (.inr (.inr (csq ad)))))) := rfl
theorem zcw_2 : (cw G ad I L g z QH QD RI RL ++ X)[2]? = some (ad 2, .inr (7, cf_sh ad I 0)) := rfl
theorem zcw_3 : (cw G ad I L g z QH QD RI RL ++ X)[3]? = some (ad 3, .inr (7, cf_sh ad I 1)) := rfl
theorem zcw_4 : (cw G ad I L g z QH QD RI RL ++ X)[4]? = some (ad 4, .inr (7, cf_sh ad I 2)) := rfl
theorem zcw_5 : (cw G ad I L g z QH QD RI RL ++ X)[5]? = some (ad 5, .inr (7, cf_sh ad I 3)) := rfl
theorem zcw_6 : (cw G ad I L g z QH QD RI RL ++ X)[6]? = some (ad 6, .inl (zc G 0, 60, .inl (RI 0))) := rfl
theorem zcw_7 : (cw G ad I L g z QH QD RI RL ++ X)[7]? = some (ad 7, .inl (zc G 0, 60, .inl (RI 1))) := rfl
theorem zcw_8 : (cw G ad I L g z QH QD RI RL ++ X)[8]? = some (ad 8, .inl (zc G 0, 60, .inl (RI 2))) := rfl
theorem zcw_9 : (cw G ad I L g z QH QD RI RL ++ X)[9]? = some (ad 9, .inl (zc G 0, 60, .inl (RI 3))) := rfl
theorem zcw_10 : (cw G ad I L g z QH QD RI RL ++ X)[10]? = some (ad 10, .inr (9, cf_10 ad I L g z)) := rfl
theorem zcw_11 : (cw G ad I L g z QH QD RI RL ++ X)[11]? = some (ad 11, .inl (zc G 4, 6, .inr (.inr (.inr (.inr QH))))) := rfl
theorem zcw_12 : (cw G ad I L g z QH QD RI RL ++ X)[12]? = some (ad 12, .inl (zc G 5, 5, .inr (.inr (.inr (.inr QD))))) := rfl
theorem zcw_13 : (cw G ad I L g z QH QD RI RL ++ X)[13]? = some (ad 13, .inr (4, cf_13 ad I L g z)) := rfl
theorem zcw_14 : (cw G ad I L g z QH QD RI RL ++ X)[14]? = some (ad 14, .inl (zc G 0, 20, .inl (RI 4))) := rfl
theorem zcw_15 : (cw G ad I L g z QH QD RI RL ++ X)[15]? = some (ad 15, .inl (zc G 0, 20, .inl (RI 5))) := rfl
theorem zcw_16 : (cw G ad I L g z QH QD RI RL ++ X)[16]? = some (ad 16, .inl (zc G 2, 60, .inr (.inl (RL 0)))) := rfl
theorem zcw_17 : (cw G ad I L g z QH QD RI RL ++ X)[17]? = some (ad 17, .inr (6, cf_17 ad I L g z)) := rfl
theorem zcw_18 : (cw G ad I L g z QH QD RI RL ++ X)[18]? = some (ad 18, .inl (zc G 2, 60, .inr (.inl (RL 1)))) := rfl
theorem zcw_19 : (cw G ad I L g z QH QD RI RL ++ X)[19]? = some (ad 19, .inl (zc G 2, 50, .inr (.inl (RL 2)))) := rfl
theorem zcw_20 : (cw G ad I L g z QH QD RI RL ++ X)[20]? = some (ad 20, .inr (3, cf_20 ad I L g z)) := rfl
theorem zcw_21 : (cw G ad I L g z QH QD RI RL ++ X)[21]? = some (ad 21, .inl (zc G 0, 8, .inl (RI 6))) := rfl
theorem zcw_22 : (cw G ad I L g z QH QD RI RL ++ X)[22]? = some (ad 22, .inr (10, cf_22 ad I L g z)) := rfl
theorem zcs_0_6 {x : Int32} : (cw G ad I L g z QH QD RI RL ++ X).set 0 (ad 0, .inr (11, (cf_0 ad I L g z).set 6 (.int x))) = (cw G ad (upd I 0 x) L g z QH QD RI RL ++ X) := rfl
theorem zcs_10_2 {x : Int32} : (cw G ad I L g z QH QD RI RL ++ X).set 10 (ad 10, .inr (9, (cf_10 ad I L g z).set 2 (.int x))) = (cw G ad (upd I 9 x) L g z QH QD RI RL ++ X) := rfl
theorem zcs_10_3 {x : Int32} : (cw G ad I L g z QH QD RI RL ++ X).set 10 (ad 10, .inr (9, (cf_10 ad I L g z).set 3 (.int x))) = (cw G ad (upd I 10 x) L g z QH QD RI RL ++ X) := rfl
theorem zcs_10_4 {x : Int32} : (cw G ad I L g z QH QD RI RL ++ X).set 10 (ad 10, .inr (9, (cf_10 ad I L g z).set 4 (.int x))) = (cw G ad (upd I 11 x) L g z QH QD RI RL ++ X) := rfl
theorem zcs_10_5 {x : Int64} : (cw G ad I L g z QH QD RI RL ++ X).set 10 (ad 10, .inr (9, (cf_10 ad I L g z).set 5 (.long x))) = (cw G ad I (vp_updL L 0 x) g z QH QD RI RL ++ X) := rfl
theorem zcs_13_3 {x : Int32} : (cw G ad I L g z QH QD RI RL ++ X).set 13 (ad 13, .inr (4, (cf_13 ad I L g z).set 3 (.int x))) = (cw G ad (upd I 12 x) L g z QH QD RI RL ++ X) := rfl
theorem zcs_13_5 {x : Int64} : (cw G ad I L g z QH QD RI RL ++ X).set 13 (ad 13, .inr (4, (cf_13 ad I L g z).set 5 (.long x))) = (cw G ad I (vp_updL L 1 x) g z QH QD RI RL ++ X) := rfl
theorem zcs_13_6 {r : Option Nat} : (cw G ad I L g z QH QD RI RL ++ X).set 13 (ad 13, .inr (4, (cf_13 ad I L g z).set 6 (va_rf r))) = (cw G ad I L r z QH QD RI RL ++ X) := rfl
theorem zcs_13_6R {r : Nat} : (cw G ad I L g z QH QD RI RL ++ X).set 13 (ad 13, .inr (4, (cf_13 ad I L g z).set 6 (.ref r))) = (cw G ad I L (some r) z QH QD RI RL ++ X) := rfl
theorem zcs_13_6N : (cw G ad I L g z QH QD RI RL ++ X).set 13 (ad 13, .inr (4, (cf_13 ad I L g z).set 6 .null)) = (cw G ad I L none z QH QD RI RL ++ X) := rfl
theorem zcs_13_7 {x : Int32} : (cw G ad I L g z QH QD RI RL ++ X).set 13 (ad 13, .inr (4, (cf_13 ad I L g z).set 7 (.int x))) = (cw G ad (upd I 13 x) L g z QH QD RI RL ++ X) := rfl
theorem zcs_13_8 {x : Int32} : (cw G ad I L g z QH QD RI RL ++ X).set 13 (ad 13, .inr (4, (cf_13 ad I L g z).set 8 (.int x))) = (cw G ad (upd I 14 x) L g z QH QD RI RL ++ X) := rfl
theorem zcs_13_9 {x : Int32} : (cw G ad I L g z QH QD RI RL ++ X).set 13 (ad 13, .inr (4, (cf_13 ad I L g z).set 9 (.int x))) = (cw G ad (upd I 15 x) L g z QH QD RI RL ++ X) := rfl
theorem zcs_13_10 {r : Option Nat} : (cw G ad I L g z QH QD RI RL ++ X).set 13 (ad 13, .inr (4, (cf_13 ad I L g z).set 10 (va_rf r))) = (cw G ad I L g r QH QD RI RL ++ X) := rfl
theorem zcs_13_10R {r : Nat} : (cw G ad I L g z QH QD RI RL ++ X).set 13 (ad 13, .inr (4, (cf_13 ad I L g z).set 10 (.ref r))) = (cw G ad I L g (some r) QH QD RI RL ++ X) := rfl
theorem zcs_13_10N : (cw G ad I L g z QH QD RI RL ++ X).set 13 (ad 13, .inr (4, (cf_13 ad I L g z).set 10 .null)) = (cw G ad I L g none QH QD RI RL ++ X) := rfl
theorem zcs_13_11 {x : Int32} : (cw G ad I L g z QH QD RI RL ++ X).set 13 (ad 13, .inr (4, (cf_13 ad I L g z).set 11 (.int x))) = (cw G ad (upd I 16 x) L g z QH QD RI RL ++ X) := rfl
theorem zcs_17_3 {x : Int64} : (cw G ad I L g z QH QD RI RL ++ X).set 17 (ad 17, .inr (6, (cf_17 ad I L g z).set 3 (.long x))) = (cw G ad I (vp_updL L 2 x) g z QH QD RI RL ++ X) := rfl
theorem zcs_17_4 {x : Int32} : (cw G ad I L g z QH QD RI RL ++ X).set 17 (ad 17, .inr (6, (cf_17 ad I L g z).set 4 (.int x))) = (cw G ad (upd I 17 x) L g z QH QD RI RL ++ X) := rfl
theorem zcs_20_1 {x : Int32} : (cw G ad I L g z QH QD RI RL ++ X).set 20 (ad 20, .inr (3, (cf_20 ad I L g z).set 1 (.int x))) = (cw G ad (upd I 18 x) L g z QH QD RI RL ++ X) := rfl
theorem zcs_22_0 {x : Int32} : (cw G ad I L g z QH QD RI RL ++ X).set 22 (ad 22, .inr (10, (cf_22 ad I L g z).set 0 (.int x))) = (cw G ad (upd I 19 x) L g z QH QD RI RL ++ X) := rfl
theorem zca_14 {r : Nat → Int32} : (cw G ad I L g z QH QD RI RL ++ X).set 14 (ad 14, .inl (zc G 0, 20, .inl r)) = (cw G ad I L g z QH QD (ur RI 4 r) RL ++ X) := rfl
theorem zca_15 {r : Nat → Int32} : (cw G ad I L g z QH QD RI RL ++ X).set 15 (ad 15, .inl (zc G 0, 20, .inl r)) = (cw G ad I L g z QH QD (ur RI 5 r) RL ++ X) := rfl
theorem zca_16 {r : Nat → Int64} : (cw G ad I L g z QH QD RI RL ++ X).set 16 (ad 16, .inl (zc G 2, 60, .inr (.inl r))) = (cw G ad I L g z QH QD RI (urL RL 0 r) ++ X) := rfl
theorem zca_18 {r : Nat → Int64} : (cw G ad I L g z QH QD RI RL ++ X).set 18 (ad 18, .inl (zc G 2, 60, .inr (.inl r))) = (cw G ad I L g z QH QD RI (urL RL 1 r) ++ X) := rfl
theorem zca_19 {r : Nat → Int64} : (cw G ad I L g z QH QD RI RL ++ X).set 19 (ad 19, .inl (zc G 2, 50, .inr (.inl r))) = (cw G ad I L g z QH QD RI (urL RL 2 r) ++ X) := rfl
theorem zca_21 {r : Nat → Int32} : (cw G ad I L g z QH QD RI RL ++ X).set 21 (ad 21, .inl (zc G 0, 8, .inl r)) = (cw G ad I L g z QH QD (ur RI 6 r) RL ++ X) := rfl
theorem zca_11 {r : Nat → Option Nat} : (cw G ad I L g z QH QD RI RL ++ X).set 11 (ad 11, .inl (zc G 4, 6, .inr (.inr (.inr (.inr r))))) = (cw G ad I L g z r QD RI RL ++ X) := rfl
theorem zca_12 {r : Nat → Option Nat} : (cw G ad I L g z QH QD RI RL ++ X).set 12 (ad 12, .inl (zc G 5, 5, .inr (.inr (.inr (.inr r))))) = (cw G ad I L g z QH r RI RL ++ X) := rfl
theorem zcw_sh {k : Nat} (hk : k < 4) : (cw G ad I L g z QH QD RI RL ++ X)[2 + k]? = some (ad (2 + k), .inr (7, cf_sh ad I k)) := by
  match k, hk with
  | 0, _ => rfl
  | 1, _ => rfl
  | 2, _ => rfl
  | 3, _ => rfl
theorem zcw_ce {k : Nat} (hk : k < 4) : (cw G ad I L g z QH QD RI RL ++ X)[6 + k]? = some (ad (6 + k), .inl (zc G 0, 60, .inl (RI k))) := by
  match k, hk with
  | 0, _ => rfl
  | 1, _ => rfl
  | 2, _ => rfl
  | 3, _ => rfl
theorem zcs_sh_1 {k : Nat} (hk : k < 4) {x : Int32} : (cw G ad I L g z QH QD RI RL ++ X).set (2 + k) (ad (2 + k), .inr (7, (cf_sh ad I k).set 1 (.int x))) = (cw G ad (upd I (1 + k) x) L g z QH QD RI RL ++ X) := by
  match k, hk with
  | 0, _ => rfl
  | 1, _ => rfl
  | 2, _ => rfl
  | 3, _ => rfl
theorem zcs_sh_2 {k : Nat} (hk : k < 4) {x : Int32} : (cw G ad I L g z QH QD RI RL ++ X).set (2 + k) (ad (2 + k), .inr (7, (cf_sh ad I k).set 2 (.int x))) = (cw G ad (upd I (5 + k) x) L g z QH QD RI RL ++ X) := by
  match k, hk with
  | 0, _ => rfl
  | 1, _ => rfl
  | 2, _ => rfl
  | 3, _ => rfl
theorem zca_ce {k : Nat} (hk : k < 4) {r : Nat → Int32} : (cw G ad I L g z QH QD RI RL ++ X).set (6 + k) (ad (6 + k), .inl (zc G 0, 60, .inl r)) = (cw G ad I L g z QH QD (ur RI k r) RL ++ X) := by
  match k, hk with
  | 0, _ => rfl
  | 1, _ => rfl
  | 2, _ => rfl
  | 3, _ => rfl
end ZClass
