theorem va_RA_inj {U : State} {c1 c2 : ClassId} {ty : FieldType} (h1 : va_RA U c1 ty) (h2 : va_RA U c2 ty) : c1 = c2 := by
  cases ty with
  | object C =>
    obtain ⟨-, -, -, -, -, h3⟩ := h1
    obtain ⟨-, -, -, -, -, h4⟩ := h2
    exact Option.some.inj (h3.symm.trans h4)
  | _ => exact Option.some.inj (h1.symm.trans h2)
theorem vD_iff {A : Nat → Prop} {w : va_W} : va_D A w ↔ (w.map (fun q => q.1)).Nodup ∧ ∀ q ∈ w, A q.1 := by
  constructor
  · intro h
    refine ⟨List.pairwise_iff_getElem.mpr (fun i j hi hj hij e => ?_), fun q hq => ?_⟩
    · rw [List.length_map] at hi hj
      rw [List.getElem_map, List.getElem_map] at e
      have := h.1 i j w[i] w[j] (List.getElem?_eq_getElem hi) (List.getElem?_eq_getElem hj) e
      omega
    · obtain ⟨k, hk⟩ := List.getElem?_of_mem hq
      exact h.2 k q hk
  · intro h
    refine ⟨fun i j p q hi hj e => ?_, fun k q hk => h.2 q (List.mem_of_getElem? hk)⟩
    obtain ⟨hi1, hi2⟩ := List.getElem?_eq_some_iff.mp hi
    obtain ⟨hj1, hj2⟩ := List.getElem?_eq_some_iff.mp hj
    have hp := List.pairwise_iff_getElem.mp h.1
    rcases Nat.lt_trichotomy i j with z | z | z
    · exact absurd (by rw [List.getElem_map, List.getElem_map, hi2, hj2]; exact e) (hp i j (by rw [List.length_map]; exact hi1) (by rw [List.length_map]; exact hj1) z)
    · exact z
    · exact absurd (by rw [List.getElem_map, List.getElem_map, hi2, hj2]; exact e.symm) (hp j i (by rw [List.length_map]; exact hj1) (by rw [List.length_map]; exact hi1) z)
theorem zx_perm {G : ZG} {Y : ZY} {kc ks pc : Nat} {lv : List (Nat × Value)} {st : List Value} {w w1 : va_W} (h : w1.Perm w) (kk : ZV G Y kc ks pc lv st w1) : ZV G Y kc ks pc lv st w :=
  zx_world (fun k q hk => List.getElem?_of_mem (h.mem_iff.mp (List.mem_of_getElem? hk))) (fun A hD => by
    rw [vD_iff] at hD ⊢
    exact ⟨(h.map _).nodup_iff.mpr hD.1, fun q hq => hD.2 q (h.mem_iff.mp hq)⟩) kk
theorem zx_drop {G : ZG} {Y : ZY} {kc ks pc : Nat} {lv : List (Nat × Value)} {st : List Value} {w w1 : va_W} (h : w1.Sublist w) (kk : ZV G Y kc ks pc lv st w1) : ZV G Y kc ks pc lv st w :=
  zx_world (fun k q hk => List.getElem?_of_mem (h.mem (List.mem_of_getElem? hk))) (fun A hD => by
    rw [vD_iff] at hD ⊢
    exact ⟨(h.map _).nodup hD.1, fun q hq => hD.2 q (h.mem hq)⟩) kk
theorem zx_obj {G : ZG} {Y : ZY} {cc : ByteArray} {own nm : String} {ret : Option FieldType} {rm : Room} {nl : Nat} {kc ks pc pc1 : Nat} {lv : List (Nat × Value)} {st : List Value} {w : va_W} (C : ZC G Y cc own nm ret rm nl) {idx : Nat} (h1 : Cond.methodLink own idx Lib.objectInit ∈ zb_tb) (h2 : Cond.instanceMethod Lib.objectInit ∈ zb_tb) (h3 : Cond.code Lib.objectInit ⟨#[0xb1]⟩ 1 none ∈ zb_tb) (hd : zd cc pc (.invokespecial idx) 3 pc1) {a : Nat} (hf : 1 ≤ rm.frames) (hlo : (st.map fun v => v.category).sum + 12 ≤ rm.locals) (kk : ZV G Y kc ks pc1 lv st w) : ZV G Y kc ks pc lv (.ref a :: st) w := by
  obtain ⟨l, D, cA, B, t⟩ := G
  obtain ⟨p, e, R, s, m, args, below, meth, c, Q, nL⟩ := Y
  obtain ⟨hx, hb, hml, hnl, hown, hts, hK, hlk, hr, hnm, rfl, hB, hZ, hN, hO, hCa⟩ := C
  obtain ⟨hd, rfl⟩ := hd
  intro H locs ls hP hD hS hl
  refine W.objInit hx hb hown (hts _ h1) (hts _ h2) (hts _ h3) rfl (by rw [hml]; exact hl.1.trans hnl) rfl hd hf ?_ (kk H locs ls hP hD hS hl)
  show 2 * 0 + (st.map fun v => v.category).sum + 12 ≤ _
  omega
def zb_NW (own : String) (idx ci N : Nat) (fs : List Value) : Prop := ∃ (Cn : String) (T : u_T) (ty : Nat → FieldType), zb_cl[ci]? = some (Cn, T, N) ∧ (∀ w ∈ u_ws Cn T N, w ∈ zb_tb) ∧ (∀ k, k < N → parseFieldDescriptor (T k).2.2.1 = some (ty k)) ∧ Cond.classLink own idx Cn ∈ zb_tb ∧ Cond.instantiable Cn N ∈ zb_tb ∧ Cond.initialized Cn ∈ zb_tb ∧ ∀ j, j < N → defaultValue (ty j) = vp_V fs j
theorem zx_new {G : ZG} {Y : ZY} {cc : ByteArray} {own nm : String} {ret : Option FieldType} {rm : Room} {nl : Nat} {kc ks pc pc1 : Nat} {lv : List (Nat × Value)} {st : List Value} {w : va_W} (C : ZC G Y cc own nm ret rm nl) {idx ci N : Nat} {fs : List Value} (hw : zb_NW own idx ci N fs) (hd : zd cc pc (.new idx) 3 pc1) (hc : kc + 1 ≤ rm.cells) (hs : ks + N ≤ rm.slots) (kk : ∀ q, ZV G Y (kc + 1) (ks + N) pc1 lv (.ref q :: st) (w ++ [(q, .inr (ci, fs))])) : ZV G Y kc ks pc lv st w := by
  obtain ⟨l, D, cA, B, t⟩ := G
  obtain ⟨p, e, R, s, m, args, below, meth, c, Q, nL⟩ := Y
  obtain ⟨hx, hb, hml, hnl, hown, hts, hK, hlk, hr, hnm, rfl, hB, hZ, hN, hO, hCa⟩ := C
  obtain ⟨hd, rfl⟩ := hd
  obtain ⟨Cn, T, ty, k1, k2, k3, k4, k5, k6, k7⟩ := hw
  intro H locs ls hP hD hS hl
  exact va_new hx hb hts k2 ty k3 hown (hts _ k4) (hts _ k5) (hts _ k6) hK hP hD hS (fun q hq => Nat.le_trans hB hq) k1 k7 hc hs hd (fun q H1 hP1 hD1 hS1 => kk q H1 locs ls hP1 hD1 hS1 hl)
theorem zx_newa {G : ZG} {Y : ZY} {cc : ByteArray} {own nm : String} {ret : Option FieldType} {rm : Room} {nl : Nat} {kc ks pc pc1 : Nat} {lv : List (Nat × Value)} {st : List Value} {w : va_W} (C : ZC G Y cc own nm ret rm nl) {atype : ArrayType} {ty : FieldType} (harr : Cond.arrayClass (newarray.typeOf atype) ∈ zb_tb) (hty : newarray.typeOf atype = ty) (tix : Nat) (ht : (zb_tys (zc G))[tix]? = some (zc G tix, ty)) {n : Int32} {N : Nat} {a0 : vp_A} (ha : ∀ cA, vp_cell cA a0 = arrV cA N (fun _ => defaultValue ty)) (hn : ¬ n < 0) (hN2 : n.toNatClampNeg = N) (hby : N * componentBytes ty ≤ 536870912) (hd : zd cc pc (.newarray atype) 2 pc1) (hc : kc + 1 ≤ rm.cells) (hs : ks + N ≤ rm.slots) (kk : ∀ q, ZV G Y (kc + 1) (ks + N) pc1 lv (.ref q :: st) (w ++ [(q, .inl (zc G tix, a0))])) : ZV G Y kc ks pc lv (.int n :: st) w := by
  obtain ⟨l, D, cA, B, t⟩ := G
  obtain ⟨p, e, R, s, m, args, below, meth, c, Q, nL⟩ := Y
  obtain ⟨hx, hb, hml, hnl, hown, hts, hK, hlk, hr, hnm, rfl, hB, hZ, hN, hO, hCa⟩ := C
  obtain ⟨hd, rfl⟩ := hd
  intro H locs ls hP hD hS hl
  refine va_newa hx hb (hts _ harr) hty hK hP hD hS (fun q hq => Nat.le_trans hB hq) ha hn hN2 hby hc hs hd (fun q c2 H1 hK1 hP1 hD1 hS1 => ?_)
  have e1 : c2 = cA tix := va_RA_inj (hK1.2 (zb_tys cA).length (c2, ty) (by rw [List.getElem?_append_right (Nat.le_refl _), Nat.sub_self]; rfl)).2 (hK.2 tix _ ht).2
  subst e1
  exact kk q H1 locs ls hP1 hD1 hS1 hl
theorem zx_newq {G : ZG} {Y : ZY} {cc : ByteArray} {own nm : String} {ret : Option FieldType} {rm : Room} {nl : Nat} {kc ks pc pc1 : Nat} {lv : List (Nat × Value)} {st : List Value} {w : va_W} (C : ZC G Y cc own nm ret rm nl) {Cn : String} {idx : Nat} (h1 : Cond.classLink own idx Cn ∈ zb_tb) (h2 : Cn ∈ zb_ao) (tix : Nat) (ht : (zb_tys (zc G))[tix]? = some (zc G tix, .object Cn)) {n : Int32} {N : Nat} (hn : ¬ n < 0) (hN2 : n.toNatClampNeg = N) (hby : N * 4 ≤ 536870912) (hd : zd cc pc (.anewarray idx) 3 pc1) (hc : kc + 1 ≤ rm.cells) (hs : ks + N ≤ rm.slots) (kk : ∀ q, ZV G Y (kc + 1) (ks + N) pc1 lv (.ref q :: st) (w ++ [(q, .inl (zc G tix, N, .inr (.inr (.inr (.inr (fun _ => none))))))])) : ZV G Y kc ks pc lv (.int n :: st) w := by
  obtain ⟨l, D, cA, B, t⟩ := G
  obtain ⟨p, e, R, s, m, args, below, meth, c, Q, nL⟩ := Y
  obtain ⟨hx, hb, hml, hnl, hown, hts, hK, hlk, hr, hnm, rfl, hB, hZ, hN, hO, hCa⟩ := C
  obtain ⟨hd, rfl⟩ := hd
  intro H locs ls hP hD hS hl
  refine va_newq hx hb hown (hts _ h1) (hO _ h2) hK hP hD hS (fun q hq => Nat.le_trans hB hq) hn hN2 hby hc hs hd (fun q c2 H1 hK1 hP1 hD1 hS1 => ?_)
  have e1 : c2 = cA tix := va_RA_inj (hK1.2 (zb_tys cA).length (c2, .object Cn) (by rw [List.getElem?_append_right (Nat.le_refl _), Nat.sub_self]; rfl)).2 (hK.2 tix _ ht).2
  subst e1
  exact kk q H1 locs ls hP1 hD1 hS1 hl
theorem zx_aast {G : ZG} {Y : ZY} {cc : ByteArray} {own nm : String} {ret : Option FieldType} {rm : Room} {nl : Nat} {kc ks pc pc1 : Nat} {lv : List (Nat × Value)} {st : List Value} {w : va_W} (C : ZC G Y cc own nm ret rm nl) (hd : zd cc pc .aastore 1 pc1) (q0 tix : Nat) {a n v : Nat} {f : Nat → Option Nat} {vs : List Value} {i : Int32} {w1 : va_W} (hw : w[q0]? = some (a, .inl (zc G tix, n, .inr (.inr (.inr (.inr f)))))) {E : String} (ht : (zb_tys (zc G))[tix]? = some (zc G tix, .object E)) (qk ci : Nat) (hv : w[qk]? = some (v, .inr (ci, vs))) {r : vw_C} (hc : zb_cl[ci]? = some r) (hE : r.1 = E ∨ (r.1, E) ∈ zb_ca) (j : Nat) (hi : i = nI j) (hj : j < n) (hn : n < 2 ^ 31) (hs : w.set q0 (a, .inl (zc G tix, n, .inr (.inr (.inr (.inr (va_up f j (some v))))))) = w1) (kk : ZV G Y kc ks pc1 lv st w1) : ZV G Y kc ks pc lv (.ref v :: .int i :: .ref a :: st) w := by
  obtain ⟨l, D, cA, B, t⟩ := G
  obtain ⟨p, e, R, s, m, args, below, meth, c, Q, nL⟩ := Y
  obtain ⟨hx, hb, hml, hnl, hown, hts, hK, hlk, hr, hnm, rfl, hB, hZ, hN, hO, hCa⟩ := C
  obtain ⟨hd, rfl⟩ := hd
  subst hi
  subst hs
  intro H locs ls hP hD hS hl
  rcases hE with hE | hE
  · subst hE
    refine va_astq hx hb hK hP hD hS q0 tix qk ci hw ht hv hc (vp_in_nI hj hn) hd ?_
    rw [nI_clamp (Nat.lt_trans hj hn)]
    exact fun H1 locs1 hP1 hD1 hS1 => kk H1 locs1 ls hP1 hD1 hS1 hl
  · refine va_astqO hx hb hK hP hD hS q0 tix qk ci hw ht (hCa _ hE) hv hc (vp_in_nI hj hn) hd ?_
    rw [nI_clamp (Nat.lt_trans hj hn)]
    exact fun H1 locs1 hP1 hD1 hS1 => kk H1 locs1 ls hP1 hD1 hS1 hl
theorem sg_at {w : va_W} {p : Nat} {c : Nat × va_E} (h : p < w.length) : (w.set p c)[p]? = some c := List.getElem?_set_self h
theorem sg_ss {w : va_W} {p : Nat} {a b : Nat × va_E} : (w.set p a).set p b = w.set p b := List.set_set a
theorem sg_id {w : va_W} {p : Nat} {c : Nat × va_E} (h : w[p]? = some c) : w.set p c = w := by
  apply List.ext_getElem?
  intro i
  rw [List.getElem?_set]
  by_cases e : p = i
  · subst e
    rw [if_pos rfl, if_pos (List.getElem?_eq_some_iff.mp h).1, h]
  · rw [if_neg e]
theorem sg_len {w : va_W} {p : Nat} {c : Nat × va_E} (h : w[p]? = some c) : p < w.length := (List.getElem?_eq_some_iff.mp h).1
theorem sg_last {w : va_W} {c : Nat × va_E} : (w ++ [c])[w.length]? = some c := by rw [List.getElem?_append_right (Nat.le_refl _), Nat.sub_self]; rfl
theorem sg_set {w : va_W} {c c2 : Nat × va_E} : (w ++ [c]).set w.length c2 = w ++ [c2] := by
  have := set_app w [c] 0 c2
  rw [Nat.add_zero] at this
  exact this
theorem pm_mid {A B : va_W} {t : Nat × va_E} : (A ++ (t :: B)).Perm ((A ++ B) ++ [t]) := List.perm_middle.trans (List.perm_append_singleton t (A ++ B)).symm
set_option maxRecDepth 20000 in
theorem nw_Tue_11 : zb_NW "SameTuesday" 11 7 3 [.null, .int 0, .int 0] := ⟨"SameTuesday$Sheet", zF_Sht, zt_Sht, rfl, zi_Sht, zk_Sht, zb_mem 75 rfl rfl, zb_mem 77 rfl rfl, zb_mem 51 rfl rfl, by decide⟩
set_option maxRecDepth 20000 in
theorem nw_Tue_18 : zb_NW "SameTuesday" 18 9 6 [.null, .null, .int 0, .int 0, .int 0, .long 0] := ⟨"SameTuesday$Town", zF_Twn, zt_Twn, rfl, zi_Twn, zk_Twn, zb_mem 93 rfl rfl, zb_mem 94 rfl rfl, zb_mem 52 rfl rfl, by decide⟩
set_option maxRecDepth 20000 in
theorem nw_Tue_25 : zb_NW "SameTuesday" 25 4 12 [.null, .null, .null, .int 0, .null, .long 0, .null, .int 0, .int 0, .int 0, .null, .int 0] := ⟨"SameTuesday$Life", zF_Life, zt_Life, rfl, zi_Life, zk_Life, zb_mem 122 rfl rfl, zb_mem 123 rfl rfl, zb_mem 53 rfl rfl, by decide⟩
set_option maxRecDepth 20000 in
theorem nw_Tue_34 : zb_NW "SameTuesday" 34 6 5 [.null, .null, .null, .long 0, .int 0] := ⟨"SameTuesday$Reach", zF_Rch, zt_Rch, rfl, zi_Rch, zk_Rch, zb_mem 166 rfl rfl, zb_mem 167 rfl rfl, zb_mem 54 rfl rfl, by decide⟩
set_option maxRecDepth 20000 in
theorem nw_Tue_41 : zb_NW "SameTuesday" 41 3 2 [.null, .int 0] := ⟨"SameTuesday$Law", zF_Law, zt_Law, rfl, zi_Law, zk_Law, zb_mem 188 rfl rfl, zb_mem 189 rfl rfl, zb_mem 55 rfl rfl, by decide⟩
set_option maxRecDepth 20000 in
theorem nw_Tue_48 : zb_NW "SameTuesday" 48 10 1 [.int 0] := ⟨"SameTuesday$Trace", zF_Trc, zt_Trc, rfl, zi_Trc, zk_Trc, zb_mem 201 rfl rfl, zb_mem 202 rfl rfl, zb_mem 56 rfl rfl, by decide⟩
set_option maxRecDepth 20000 in
theorem nw_Tue_67 : zb_NW "SameTuesday" 67 8 6 [.null, .int 0, .int 0, .int 0, .int 0, .int 0] := ⟨"SameTuesday$Text", zF_Txt, zt_Txt, rfl, zi_Txt, zk_Txt, zb_mem 264 rfl rfl, zb_mem 265 rfl rfl, zb_mem 58 rfl rfl, by decide⟩
set_option maxRecDepth 20000 in
theorem nw_Txt_61 : zb_NW "SameTuesday$Text" 61 5 6 [.int 0, .int 0, .int 0, .long 0, .long 0, .int 0] := ⟨"SameTuesday$Mishap", zF_Mis, zt_Mis, rfl, zi_Mis, zk_Mis, zb_mem 336 rfl rfl, zb_mem 337 rfl rfl, zb_mem 61 rfl rfl, by decide⟩
set_option maxRecDepth 20000 in
theorem nw_Txt_66 : zb_NW "SameTuesday$Text" 66 0 6 [.int 0, .int 0, .int 0, .long 0, .long 0, .int 0] := ⟨"SameTuesday$Caprice", zF_Cap, zt_Cap, rfl, zi_Cap, zk_Cap, zb_mem 386 rfl rfl, zb_mem 387 rfl rfl, zb_mem 62 rfl rfl, by decide⟩
set_option maxRecDepth 20000 in
theorem nw_Txt_69 : zb_NW "SameTuesday$Text" 69 2 6 [.int 0, .int 0, .int 0, .long 0, .long 0, .int 0] := ⟨"SameTuesday$Happening", zF_Hap, zt_Hap, rfl, zi_Hap, zk_Hap, zb_mem 399 rfl rfl, zb_mem 400 rfl rfl, zb_mem 60 rfl rfl, by decide⟩
set_option maxRecDepth 20000 in
theorem nw_Txt_72 : zb_NW "SameTuesday$Text" 72 1 5 [.int 0, .int 0, .int 0, .int 0, .long 0] := ⟨"SameTuesday$Deed", zF_Deed, zt_Deed, rfl, zi_Deed, zk_Deed, zb_mem 417 rfl rfl, zb_mem 418 rfl rfl, zb_mem 63 rfl rfl, by decide⟩
set_option maxRecDepth 20000 in
theorem nw_LawX_7 : zb_NW "SameTuesdayLaw" 7 11 7 [.null, .null, .null, .null, .null, .null, .int 0] := ⟨"SameTuesday", zF_Tue, zt_Tue, rfl, zi_Tue, zk_Tue, zb_mem 67 rfl rfl, zb_mem 68 rfl rfl, zb_mem 50 rfl rfl, by decide⟩
set_option maxRecDepth 20000 in
theorem nw_LawX_10 : zb_NW "SameTuesdayLaw" 10 12 34 [.int 0, .int 0, .null, .null, .null, .int 0, .int 0, .int 0, .null, .null, .null, .null, .null, .null, .null, .null, .int 0, .int 0, .int 0, .null, .null, .int 0, .null, .null, .null, .int 0, .int 0, .int 0, .null, .null, .null, .null, .int 0, .null] := ⟨"SameTuesdayModel", zF_Mod, zt_Mod, rfl, zi_Mod, zk_Mod, zb_mem 899 rfl rfl, zb_mem 900 rfl rfl, zb_mem 57 rfl rfl, by decide⟩
set_option maxRecDepth 20000 in
theorem ob_Tue_5 : Cond.methodLink "SameTuesday" 5 Lib.objectInit ∈ zb_tb := zb_mem 72 rfl rfl
set_option maxRecDepth 20000 in
theorem ob_Deed_3 : Cond.methodLink "SameTuesday$Deed" 3 Lib.objectInit ∈ zb_tb := zb_mem 422 rfl rfl
set_option maxRecDepth 20000 in
theorem ob_Hap_1 : Cond.methodLink "SameTuesday$Happening" 1 Lib.objectInit ∈ zb_tb := zb_mem 344 rfl rfl
set_option maxRecDepth 20000 in
theorem ob_Law_3 : Cond.methodLink "SameTuesday$Law" 3 Lib.objectInit ∈ zb_tb := zb_mem 193 rfl rfl
set_option maxRecDepth 20000 in
theorem ob_Life_3 : Cond.methodLink "SameTuesday$Life" 3 Lib.objectInit ∈ zb_tb := zb_mem 127 rfl rfl
set_option maxRecDepth 20000 in
theorem ob_Rch_3 : Cond.methodLink "SameTuesday$Reach" 3 Lib.objectInit ∈ zb_tb := zb_mem 171 rfl rfl
set_option maxRecDepth 20000 in
theorem ob_Sht_3 : Cond.methodLink "SameTuesday$Sheet" 3 Lib.objectInit ∈ zb_tb := zb_mem 81 rfl rfl
set_option maxRecDepth 20000 in
theorem ob_Txt_3 : Cond.methodLink "SameTuesday$Text" 3 Lib.objectInit ∈ zb_tb := zb_mem 269 rfl rfl
set_option maxRecDepth 20000 in
theorem ob_Twn_3 : Cond.methodLink "SameTuesday$Town" 3 Lib.objectInit ∈ zb_tb := zb_mem 98 rfl rfl
set_option maxRecDepth 20000 in
theorem ob_Trc_1 : Cond.methodLink "SameTuesday$Trace" 1 Lib.objectInit ∈ zb_tb := zb_mem 206 rfl rfl
set_option maxRecDepth 20000 in
theorem ob_Mod_1 : Cond.methodLink "SameTuesdayModel" 1 Lib.objectInit ∈ zb_tb := zb_mem 904 rfl rfl
set_option maxRecDepth 20000 in
theorem ob_i : Cond.instanceMethod Lib.objectInit ∈ zb_tb := zb_mem 73 rfl rfl
set_option maxRecDepth 20000 in
theorem ob_c : Cond.code Lib.objectInit ⟨#[0xb1]⟩ 1 none ∈ zb_tb := zb_mem 74 rfl rfl
set_option maxRecDepth 20000 in
theorem ar_int : Cond.arrayClass (newarray.typeOf .int) ∈ zb_tb := zb_mem 92 rfl rfl
set_option maxRecDepth 20000 in
theorem ar_long : Cond.arrayClass (newarray.typeOf .long) ∈ zb_tb := zb_mem 165 rfl rfl
set_option maxRecDepth 20000 in
theorem ar_boolean : Cond.arrayClass (newarray.typeOf .boolean) ∈ zb_tb := zb_mem 1008 rfl rfl
