def zl_U (own : String) (idx : Nat) (Cn owner : String) (x y : MethodName) (bytes : ByteArray) (maxL : Nat) (ret : Option FieldType) (n : Nat) : Prop := Cond.methodLink own idx x ∈ zb_tb ∧ Cond.sameMethod x.cls owner x.name x.desc ∈ zb_tb ∧ Cond.selects Cn x y ∈ zb_tb ∧ Cond.instanceMethod y ∈ zb_tb ∧ Cond.initialized y.cls ∈ zb_tb ∧ Cond.code y bytes maxL ret ∈ zb_tb ∧ (owner ≠ "java/lang/invoke/MethodHandle" ∧ owner ≠ "java/lang/invoke/VarHandle") ∧ (parseMethodDescriptor x.desc).map (fun d => d.parameters.length) = some n ∧ Cond.instanceMethod ⟨owner, x.name, x.desc⟩ ∈ zb_tb ∧ ∃ (b0 : ByteArray) (m0 : Nat) (r0 : Option FieldType), Cond.code ⟨owner, x.name, x.desc⟩ b0 m0 r0 ∈ zb_tb
theorem zr_U {G : ZG} {Y : ZY} {cc : ByteArray} {own nm : String} {ret : Option FieldType} {rm : Room} {nl : Nat} {kc ks pc pc1 : Nat} {lv : List (Nat × Value)} {st : List Value} {w : va_W} {idx : Nat} {y : MethodName} {bytes : ByteArray} {maxL : Nat} {rt : Option FieldType} {n : Nat} {rmc : Room} {post : Option Value → va_W → Prop} {As rest : List Value} {b : Nat} {Cn owner : String} {x : MethodName} (C : ZC G Y cc own nm ret rm nl) (hl : zl_U own idx Cn owner x y bytes maxL rt n) (hd : zd cc pc (.invokevirtual idx) 3 pc1) (hst : As.reverse ++ .ref b :: rest = st) (hn : As.length = n) (hro : (rest.map fun v => v.category).sum ≤ 8) (hM : ZM G y bytes maxL rt rmc (.ref b :: As) w post) (q : Nat) {ci : Nat} {fs : List Value} (hw : w[q]? = some (b, .inr (ci, fs))) {T : u_T} {N : Nat} (hc : zb_cl[ci]? = some (Cn, T, N)) (hR : zl_R rmc rm maxL kc ks) : ZR G Y kc ks pc pc1 lv st w rest rmc.cells rmc.slots post := by
  obtain ⟨l, D, cA, B, t⟩ := G
  obtain ⟨p, e, R, s, m, args, below, meth, c, Q, nL⟩ := Y
  obtain ⟨hx, hb, hml, hnl, hown, hts, hK, hlk, hr, hnm, rfl, hB, hZ, hN, hO, hCa⟩ := C
  obtain ⟨hd, rfl⟩ := hd
  obtain ⟨k1, k2, k3, k4, k5, k6, k7, k8, k9, b0, m0, r0, k10⟩ := hl
  subst hst
  refine ⟨rfl, fun H locs ls hP hD hS hl => ⟨(Value.ref b :: As).toArray, va_runU (As := As) (rest := rest) (b := b) (C := Cn) (owner := owner) (x := x) ⟨hx, hb, hml, hown, hts⟩ hM ⟨⟨rfl, rfl, hR.1, hR.2.1, zb_payc hts k6, List.mem_cons_self⟩, hts _ k6, hts _ k5, k7, zl_len k8, hts _ k1, hts _ k2, va_Decl.of (hts _ k9) (hts _ k10), hts _ k3, hts _ k4⟩ ⟨zb_blind, va_recv hK hP hc hw, fun U hU hW => ⟨rfl, zb_enter hB hK hZ hN hO hCa hP hD hS hU hW⟩⟩ rfl hn (hl.1.trans hnl) rfl (lv_room hro) hd ⟨hR.2.2.1, hR.2.2.2⟩⟩⟩
def zl_P (own : String) (idx : Nat) (y : MethodName) (bytes : ByteArray) (maxL : Nat) (ret : Option FieldType) (n : Nat) : Prop := Cond.methodLink own idx y ∈ zb_tb ∧ Cond.sameMethod y.cls y.cls y.name y.desc ∈ zb_tb ∧ Cond.superclass own y.cls ∈ zb_tb ∧ Cond.instanceMethod y ∈ zb_tb ∧ Cond.initialized y.cls ∈ zb_tb ∧ Cond.code y bytes maxL ret ∈ zb_tb ∧ y.name ≠ "<init>" ∧ (parseMethodDescriptor y.desc).map (fun d => d.parameters.length) = some n
theorem zr_P {G : ZG} {Y : ZY} {cc : ByteArray} {own nm : String} {ret : Option FieldType} {rm : Room} {nl : Nat} {kc ks pc pc1 : Nat} {lv : List (Nat × Value)} {st : List Value} {w : va_W} {idx : Nat} {y : MethodName} {bytes : ByteArray} {maxL : Nat} {rt : Option FieldType} {n : Nat} {rmc : Room} {post : Option Value → va_W → Prop} {As rest : List Value} {b : Nat} (C : ZC G Y cc own nm ret rm nl) (hl : zl_P own idx y bytes maxL rt n) (hd : zd cc pc (.invokespecial idx) 3 pc1) (hst : As.reverse ++ .ref b :: rest = st) (hn : As.length = n) (hro : (rest.map fun v => v.category).sum ≤ 8) (hM : ZM G y bytes maxL rt rmc (.ref b :: As) w post) (q : Nat) {ci : Nat} {fs : List Value} (hw : w[q]? = some (b, .inr (ci, fs))) {T : u_T} {N : Nat} (hc : zb_cl[ci]? = some (own, T, N)) (hR : zl_R rmc rm maxL kc ks) : ZR G Y kc ks pc pc1 lv st w rest rmc.cells rmc.slots post := by
  obtain ⟨l, D, cA, B, t⟩ := G
  obtain ⟨p, e, R, s, m, args, below, meth, c, Q, nL⟩ := Y
  obtain ⟨hx, hb, hml, hnl, hown, hts, hK, hlk, hr, hnm, rfl, hB, hZ, hN, hO, hCa⟩ := C
  obtain ⟨hd, rfl⟩ := hd
  obtain ⟨k1, k2, k3, k4, k5, k6, k7, k8⟩ := hl
  subst hst
  refine ⟨rfl, fun H locs ls hP hD hS hl => ⟨(Value.ref b :: As).toArray, va_runSU (As := As) (rest := rest) (b := b) (C := own) (hK.1 ci _ hc).2 ⟨hx, hb, hml, hown, hts⟩ hM ⟨⟨rfl, rfl, hR.1, hR.2.1, zb_payc hts k6, List.mem_cons_self⟩, hts _ k1, hts _ k2, hts _ k3, hts _ k4, hts _ k5, hts _ k6, k7, zl_len k8⟩ ⟨zb_blind, va_recv hK hP hc hw, fun U hU hW => ⟨rfl, zb_enter hB hK hZ hN hO hCa hP hD hS hU hW⟩⟩ rfl hn (hl.1.trans hnl) rfl (lv_room hro) hd ⟨hR.2.2.1, hR.2.2.2⟩⟩⟩
set_option maxRecDepth 20000 in
theorem u_Cap_32_Cap : zl_U "SameTuesday$Caprice" 32 "SameTuesday$Caprice" "SameTuesday$Happening" ⟨"SameTuesday$Caprice", "plainTelling", "(LSameTuesday$Trace;)I"⟩ y_Hap_plainTelling b_Hap_plainTelling 2 (some .int) 1 := ⟨zb_mem 859 rfl rfl, zb_mem 860 rfl rfl, zb_mem 861 rfl rfl, zb_mem 856 rfl rfl, zb_mem 60 rfl rfl, zb_mem 857 rfl rfl, by decide, by decide +kernel, zb_mem 856 rfl rfl, _, _, _, zb_mem 857 rfl rfl⟩
set_option maxRecDepth 20000 in
theorem u_Hap_37_Hap : zl_U "SameTuesday$Happening" 37 "SameTuesday$Happening" "SameTuesday$Happening" ⟨"SameTuesday$Happening", "plainTelling", "(LSameTuesday$Trace;)I"⟩ y_Hap_plainTelling b_Hap_plainTelling 2 (some .int) 1 := ⟨zb_mem 864 rfl rfl, zb_mem 1270 rfl rfl, zb_mem 1272 rfl rfl, zb_mem 856 rfl rfl, zb_mem 60 rfl rfl, zb_mem 857 rfl rfl, by decide, by decide +kernel, zb_mem 856 rfl rfl, _, _, _, zb_mem 857 rfl rfl⟩
set_option maxRecDepth 20000 in
theorem u_Hap_37_Mis : zl_U "SameTuesday$Happening" 37 "SameTuesday$Mishap" "SameTuesday$Happening" ⟨"SameTuesday$Happening", "plainTelling", "(LSameTuesday$Trace;)I"⟩ y_Hap_plainTelling b_Hap_plainTelling 2 (some .int) 1 := ⟨zb_mem 864 rfl rfl, zb_mem 1270 rfl rfl, zb_mem 1273 rfl rfl, zb_mem 856 rfl rfl, zb_mem 60 rfl rfl, zb_mem 857 rfl rfl, by decide, by decide +kernel, zb_mem 856 rfl rfl, _, _, _, zb_mem 857 rfl rfl⟩
set_option maxRecDepth 20000 in
theorem u_Hap_37_Cap : zl_U "SameTuesday$Happening" 37 "SameTuesday$Caprice" "SameTuesday$Happening" ⟨"SameTuesday$Happening", "plainTelling", "(LSameTuesday$Trace;)I"⟩ y_Hap_plainTelling b_Hap_plainTelling 2 (some .int) 1 := ⟨zb_mem 864 rfl rfl, zb_mem 1270 rfl rfl, zb_mem 1271 rfl rfl, zb_mem 856 rfl rfl, zb_mem 60 rfl rfl, zb_mem 857 rfl rfl, by decide, by decide +kernel, zb_mem 856 rfl rfl, _, _, _, zb_mem 857 rfl rfl⟩
set_option maxRecDepth 20000 in
theorem u_Mis_28_Mis : zl_U "SameTuesday$Mishap" 28 "SameTuesday$Mishap" "SameTuesday$Happening" ⟨"SameTuesday$Mishap", "plainTelling", "(LSameTuesday$Trace;)I"⟩ y_Hap_plainTelling b_Hap_plainTelling 2 (some .int) 1 := ⟨zb_mem 851 rfl rfl, zb_mem 852 rfl rfl, zb_mem 855 rfl rfl, zb_mem 856 rfl rfl, zb_mem 60 rfl rfl, zb_mem 857 rfl rfl, by decide, by decide +kernel, zb_mem 856 rfl rfl, _, _, _, zb_mem 857 rfl rfl⟩
set_option maxRecDepth 20000 in
theorem u_Mis_28_Cap : zl_U "SameTuesday$Mishap" 28 "SameTuesday$Caprice" "SameTuesday$Happening" ⟨"SameTuesday$Mishap", "plainTelling", "(LSameTuesday$Trace;)I"⟩ y_Hap_plainTelling b_Hap_plainTelling 2 (some .int) 1 := ⟨zb_mem 851 rfl rfl, zb_mem 852 rfl rfl, zb_mem 854 rfl rfl, zb_mem 856 rfl rfl, zb_mem 60 rfl rfl, zb_mem 857 rfl rfl, by decide, by decide +kernel, zb_mem 856 rfl rfl, _, _, _, zb_mem 857 rfl rfl⟩
set_option maxRecDepth 20000 in
theorem u_Twn_67_Hap : zl_U "SameTuesday$Town" 67 "SameTuesday$Happening" "SameTuesday$Happening" ⟨"SameTuesday$Happening", "after", "(J)J"⟩ y_Hap_after b_Hap_after 5 (some .long) 1 := ⟨zb_mem 554 rfl rfl, zb_mem 557 rfl rfl, zb_mem 556 rfl rfl, zb_mem 555 rfl rfl, zb_mem 60 rfl rfl, zb_mem 566 rfl rfl, by decide, by decide +kernel, zb_mem 555 rfl rfl, _, _, _, zb_mem 566 rfl rfl⟩
set_option maxRecDepth 20000 in
theorem u_Twn_67_Mis : zl_U "SameTuesday$Town" 67 "SameTuesday$Mishap" "SameTuesday$Happening" ⟨"SameTuesday$Happening", "after", "(J)J"⟩ y_Mis_after b_Mis_after 5 (some .long) 1 := ⟨zb_mem 554 rfl rfl, zb_mem 557 rfl rfl, zb_mem 562 rfl rfl, zb_mem 563 rfl rfl, zb_mem 61 rfl rfl, zb_mem 564 rfl rfl, by decide, by decide +kernel, zb_mem 555 rfl rfl, _, _, _, zb_mem 566 rfl rfl⟩
set_option maxRecDepth 20000 in
theorem u_Twn_67_Cap : zl_U "SameTuesday$Town" 67 "SameTuesday$Caprice" "SameTuesday$Happening" ⟨"SameTuesday$Happening", "after", "(J)J"⟩ y_Cap_after b_Cap_after 7 (some .long) 1 := ⟨zb_mem 554 rfl rfl, zb_mem 557 rfl rfl, zb_mem 558 rfl rfl, zb_mem 559 rfl rfl, zb_mem 62 rfl rfl, zb_mem 560 rfl rfl, by decide, by decide +kernel, zb_mem 555 rfl rfl, _, _, _, zb_mem 566 rfl rfl⟩
set_option maxRecDepth 20000 in
theorem u_Tue_97_Hap : zl_U "SameTuesday" 97 "SameTuesday$Happening" "SameTuesday$Happening" ⟨"SameTuesday$Happening", "kind", "()I"⟩ y_Hap_kind b_Hap_kind 1 (some .int) 0 := ⟨zb_mem 480 rfl rfl, zb_mem 483 rfl rfl, zb_mem 482 rfl rfl, zb_mem 481 rfl rfl, zb_mem 60 rfl rfl, zb_mem 490 rfl rfl, by decide, by decide +kernel, zb_mem 481 rfl rfl, _, _, _, zb_mem 490 rfl rfl⟩
set_option maxRecDepth 20000 in
theorem u_Tue_97_Mis : zl_U "SameTuesday" 97 "SameTuesday$Mishap" "SameTuesday$Happening" ⟨"SameTuesday$Happening", "kind", "()I"⟩ y_Mis_kind b_Mis_kind 1 (some .int) 0 := ⟨zb_mem 480 rfl rfl, zb_mem 483 rfl rfl, zb_mem 487 rfl rfl, zb_mem 488 rfl rfl, zb_mem 61 rfl rfl, zb_mem 489 rfl rfl, by decide, by decide +kernel, zb_mem 481 rfl rfl, _, _, _, zb_mem 490 rfl rfl⟩
set_option maxRecDepth 20000 in
theorem u_Tue_97_Cap : zl_U "SameTuesday" 97 "SameTuesday$Caprice" "SameTuesday$Happening" ⟨"SameTuesday$Happening", "kind", "()I"⟩ y_Cap_kind b_Cap_kind 1 (some .int) 0 := ⟨zb_mem 480 rfl rfl, zb_mem 483 rfl rfl, zb_mem 484 rfl rfl, zb_mem 485 rfl rfl, zb_mem 62 rfl rfl, zb_mem 486 rfl rfl, by decide, by decide +kernel, zb_mem 481 rfl rfl, _, _, _, zb_mem 490 rfl rfl⟩
set_option maxRecDepth 20000 in
theorem u_Tue_247_Hap : zl_U "SameTuesday" 247 "SameTuesday$Happening" "SameTuesday$Happening" ⟨"SameTuesday$Happening", "telling", "(LSameTuesday$Trace;)I"⟩ y_Hap_telling b_Hap_telling 2 (some .int) 1 := ⟨zb_mem 836 rfl rfl, zb_mem 839 rfl rfl, zb_mem 838 rfl rfl, zb_mem 837 rfl rfl, zb_mem 60 rfl rfl, zb_mem 863 rfl rfl, by decide, by decide +kernel, zb_mem 837 rfl rfl, _, _, _, zb_mem 863 rfl rfl⟩
set_option maxRecDepth 20000 in
theorem u_Tue_247_Mis : zl_U "SameTuesday" 247 "SameTuesday$Mishap" "SameTuesday$Happening" ⟨"SameTuesday$Happening", "telling", "(LSameTuesday$Trace;)I"⟩ y_Mis_telling b_Mis_telling 2 (some .int) 1 := ⟨zb_mem 836 rfl rfl, zb_mem 839 rfl rfl, zb_mem 862 rfl rfl, zb_mem 848 rfl rfl, zb_mem 61 rfl rfl, zb_mem 849 rfl rfl, by decide, by decide +kernel, zb_mem 837 rfl rfl, _, _, _, zb_mem 863 rfl rfl⟩
set_option maxRecDepth 20000 in
theorem u_Tue_247_Cap : zl_U "SameTuesday" 247 "SameTuesday$Caprice" "SameTuesday$Happening" ⟨"SameTuesday$Happening", "telling", "(LSameTuesday$Trace;)I"⟩ y_Cap_telling b_Cap_telling 3 (some .int) 1 := ⟨zb_mem 836 rfl rfl, zb_mem 839 rfl rfl, zb_mem 840 rfl rfl, zb_mem 841 rfl rfl, zb_mem 62 rfl rfl, zb_mem 842 rfl rfl, by decide, by decide +kernel, zb_mem 837 rfl rfl, _, _, _, zb_mem 863 rfl rfl⟩
set_option maxRecDepth 20000 in
theorem u_Tue_251_Hap : zl_U "SameTuesday" 251 "SameTuesday$Happening" "SameTuesday$Happening" ⟨"SameTuesday$Happening", "rhymed", "(LSameTuesday$Trace;)I"⟩ y_Hap_rhymed b_Hap_rhymed 2 (some .int) 1 := ⟨zb_mem 869 rfl rfl, zb_mem 872 rfl rfl, zb_mem 871 rfl rfl, zb_mem 870 rfl rfl, zb_mem 60 rfl rfl, zb_mem 877 rfl rfl, by decide, by decide +kernel, zb_mem 870 rfl rfl, _, _, _, zb_mem 877 rfl rfl⟩
set_option maxRecDepth 20000 in
theorem u_Tue_251_Mis : zl_U "SameTuesday" 251 "SameTuesday$Mishap" "SameTuesday$Happening" ⟨"SameTuesday$Happening", "rhymed", "(LSameTuesday$Trace;)I"⟩ y_Hap_rhymed b_Hap_rhymed 2 (some .int) 1 := ⟨zb_mem 869 rfl rfl, zb_mem 872 rfl rfl, zb_mem 876 rfl rfl, zb_mem 870 rfl rfl, zb_mem 60 rfl rfl, zb_mem 877 rfl rfl, by decide, by decide +kernel, zb_mem 870 rfl rfl, _, _, _, zb_mem 877 rfl rfl⟩
set_option maxRecDepth 20000 in
theorem u_Tue_251_Cap : zl_U "SameTuesday" 251 "SameTuesday$Caprice" "SameTuesday$Happening" ⟨"SameTuesday$Happening", "rhymed", "(LSameTuesday$Trace;)I"⟩ y_Cap_rhymed b_Cap_rhymed 2 (some .int) 1 := ⟨zb_mem 869 rfl rfl, zb_mem 872 rfl rfl, zb_mem 873 rfl rfl, zb_mem 874 rfl rfl, zb_mem 62 rfl rfl, zb_mem 875 rfl rfl, by decide, by decide +kernel, zb_mem 870 rfl rfl, _, _, _, zb_mem 877 rfl rfl⟩
set_option maxRecDepth 20000 in
theorem up_Cap_28 : zl_P "SameTuesday$Caprice" 28 y_Mis_telling b_Mis_telling 2 (some .int) 1 := ⟨zb_mem 847 rfl rfl, zb_mem 1269 rfl rfl, zb_mem 398 rfl rfl, zb_mem 848 rfl rfl, zb_mem 61 rfl rfl, zb_mem 849 rfl rfl, by decide, by decide +kernel⟩
theorem zcw_ha {G : ZG} {ad : Nat → Nat} {I : Nat → Int32} {L : Nat → Int64} {g z : Option Nat} {QH QD : Nat → Option Nat} {RI : Nat → Nat → Int32} {RL : Nat → Nat → Int64} {X : va_W} {T : ZT} {hA dA : Nat → Nat} {j : Nat} (hj : j < T.1) : (cw G ad I L g z QH QD RI RL ++ pw hA dA T X)[23 + j]? = some (hA j, .inr (hcl (tq T 0 j), hfs T j)) := by
  rw [List.getElem?_append_right (by show 23 ≤ 23 + j; omega), show 23 + j - (cw G ad I L g z QH QD RI RL).length = j from Nat.add_sub_cancel_left 23 j, pw, List.getElem?_append_left (by rw [List.length_map, List.length_range]; exact hj), List.getElem?_map, List.getElem?_range hj]
  rfl
theorem zcw_de {G : ZG} {ad : Nat → Nat} {I : Nat → Int32} {L : Nat → Int64} {g z : Option Nat} {QH QD : Nat → Option Nat} {RI : Nat → Nat → Int32} {RL : Nat → Nat → Int64} {X : va_W} {T : ZT} {hA dA : Nat → Nat} {j : Nat} (hj : j < T.2.1) : (cw G ad I L g z QH QD RI RL ++ pw hA dA T X)[23 + (T.1 + j)]? = some (dA j, .inr (1, dfs T j)) := by
  rw [List.getElem?_append_right (by show 23 ≤ 23 + (T.1 + j); omega), show 23 + (T.1 + j) - (cw G ad I L g z QH QD RI RL).length = T.1 + j from Nat.add_sub_cancel_left 23 _, pw, List.getElem?_append_right (by rw [List.length_map, List.length_range]; omega), List.length_map, List.length_range, Nat.add_sub_cancel_left, List.getElem?_append_left (by rw [List.length_map, List.length_range]; exact hj), List.getElem?_map, List.getElem?_range hj]
  rfl
theorem map_set {α : Type} (f f2 : Nat → α) (n j : Nat) (h : ∀ i, i < n → i ≠ j → f2 i = f i) : ((List.range n).map f).set j (f2 j) = (List.range n).map f2 := by
  apply List.ext_getElem?
  intro i
  rw [List.getElem?_set]
  by_cases hi : i < n
  · rw [List.getElem?_map, List.getElem?_map, List.getElem?_range hi]
    by_cases e : j = i
    · subst e; rw [if_pos rfl, List.length_map, List.length_range, if_pos hi]; rfl
    · rw [if_neg e]; exact congrArg some (h i hi (fun z => e z.symm)).symm
  · have l1 : ((List.range n).map f)[i]? = none := List.getElem?_eq_none (by rw [List.length_map, List.length_range]; omega)
    have l2 : ((List.range n).map f2)[i]? = none := List.getElem?_eq_none (by rw [List.length_map, List.length_range]; omega)
    rw [l1, l2, List.length_map, List.length_range]
    by_cases e : j = i
    · rw [if_pos e, if_neg (by omega)]
    · rw [if_neg e]
theorem set_app {α : Type} : ∀ (s t : List α) (j : Nat) (x : α), (s ++ t).set (s.length + j) x = s ++ t.set j x
  | [], t, j, x => by rw [List.length_nil, Nat.zero_add]; rfl
  | a :: s, t, j, x => by
    rw [List.length_cons, show s.length + 1 + j = (s.length + j) + 1 by omega]
    exact congrArg (a :: ·) (set_app s t j x)
theorem set_left {α : Type} : ∀ (s t : List α) (j : Nat) (x : α), j < s.length → (s ++ t).set j x = s.set j x ++ t
  | a :: s, t, 0, x, _ => rfl
  | a :: s, t, j + 1, x, h => congrArg (a :: ·) (set_left s t j x (Nat.lt_of_succ_lt_succ h))
def tmT (T : ZT) (h v : Nat) : ZT := (T.1, T.2.1, T.2.2.1, tmv T.2.2.2 h v)
theorem zcs_ha {G : ZG} {ad : Nat → Nat} {I : Nat → Int32} {L : Nat → Int64} {g z : Option Nat} {QH QD : Nat → Option Nat} {RI : Nat → Nat → Int32} {RL : Nat → Nat → Int64} {X : va_W} {T : ZT} {hA dA : Nat → Nat} {j v : Nat} (hj : j < T.1) : (cw G ad I L g z QH QD RI RL ++ pw hA dA T X).set (23 + j) (hA j, .inr (hcl (tq T 0 j), (hfs T j).set 5 (.int (nI v)))) = cw G ad I L g z QH QD RI RL ++ pw hA dA (tmT T j v) X := by
  refine (set_app (cw G ad I L g z QH QD RI RL) (pw hA dA T X) j _).trans (congrArg (cw G ad I L g z QH QD RI RL ++ ·) ?_)
  refine (set_left _ _ j _ (by rw [List.length_map, List.length_range]; exact hj)).trans ?_
  have e0 : ∀ a i, a ≠ 1 → tq (tmT T j v) a i = tq T a i := fun a i ha => if_neg (fun z => ha z.1)
  have e1 : tq (tmT T j v) 1 j = v := if_pos ⟨rfl, rfl⟩
  have e2 : ∀ i, i ≠ j → tq (tmT T j v) 1 i = tq T 1 i := fun i hi => if_neg (fun z => hi z.2)
  rw [show ((hA j, .inr (hcl (tq T 0 j), (hfs T j).set 5 (.int (nI v)))) : Nat × va_E) = hcell hA (tmT T j v) j from by rw [hcell, hfs, hfs, e0 0 j (by decide), e0 2 j (by decide), e0 3 j (by decide), e1]; rfl]
  rw [map_set (hcell hA T) (hcell hA (tmT T j v)) T.1 j (fun i _ hi => by rw [hcell, hcell, hfs, hfs, e0 0 i (by decide), e0 2 i (by decide), e0 3 i (by decide), e2 i hi])]
  rw [show dcell dA T = dcell dA (tmT T j v) from funext fun i => by rw [dcell, dcell, dfs, dfs, e0 4 i (by decide), e0 5 i (by decide), e0 6 i (by decide), e0 7 i (by decide)]]
  rfl
theorem fh_Tue_102 (k : Nat) : zb_FL "SameTuesday" 102 (hcl k) 5 := by
  unfold hcl
  split
  · exact f_Tue_102_5
  · split
    · exact f_Tue_102_0
    · exact f_Tue_102_2
theorem fh_Tue_105 (k : Nat) : zb_FL "SameTuesday" 105 (hcl k) 1 := by
  unfold hcl
  split
  · exact f_Tue_105_5
  · split
    · exact f_Tue_105_0
    · exact f_Tue_105_2
theorem fh_Tue_108 (k : Nat) : zb_FL "SameTuesday" 108 (hcl k) 2 := by
  unfold hcl
  split
  · exact f_Tue_108_5
  · split
    · exact f_Tue_108_0
    · exact f_Tue_108_2
theorem fh_Hap_7 (k : Nat) : zb_FL "SameTuesday$Happening" 7 (hcl k) 0 := by
  unfold hcl
  split
  · exact f_Hap_7_5
  · split
    · exact f_Hap_7_0
    · exact f_Hap_7_2
theorem fh_Hap_13 (k : Nat) : zb_FL "SameTuesday$Happening" 13 (hcl k) 5 := by
  unfold hcl
  split
  · exact f_Hap_13_5
  · split
    · exact f_Hap_13_0
    · exact f_Hap_13_2
theorem ph_Hap_13 (k : Nat) : zb_PL "SameTuesday$Happening" 13 (hcl k) 5 .int := by
  unfold hcl
  split
  · exact p_Hap_13_5
  · split
    · exact p_Hap_13_0
    · exact p_Hap_13_2
theorem fh_Hap_19 (k : Nat) : zb_FL "SameTuesday$Happening" 19 (hcl k) 2 := by
  unfold hcl
  split
  · exact f_Hap_19_5
  · split
    · exact f_Hap_19_0
    · exact f_Hap_19_2
theorem fh_Hap_28 (k : Nat) : zb_FL "SameTuesday$Happening" 28 (hcl k) 3 := by
  unfold hcl
  split
  · exact f_Hap_28_5
  · split
    · exact f_Hap_28_0
    · exact f_Hap_28_2
theorem fh_Hap_32 (k : Nat) : zb_FL "SameTuesday$Happening" 32 (hcl k) 4 := by
  unfold hcl
  split
  · exact f_Hap_32_5
  · split
    · exact f_Hap_32_0
    · exact f_Hap_32_2
theorem fh_Twn_64 (k : Nat) : zb_FL "SameTuesday$Town" 64 (hcl k) 5 := by
  unfold hcl
  split
  · exact f_Twn_64_5
  · split
    · exact f_Twn_64_0
    · exact f_Twn_64_2
theorem ph_Twn_64 (k : Nat) : zb_PL "SameTuesday$Town" 64 (hcl k) 5 .int := by
  unfold hcl
  split
  · exact p_Twn_64_5
  · split
    · exact p_Twn_64_0
    · exact p_Twn_64_2
