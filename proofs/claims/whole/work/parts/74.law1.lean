def R_law : String := "SameTuesdayLaw"
def lw_P (b : Addr) (xs : List Int32) (args : Array Value) (s : State) : Prop := args = #[.ref b] ∧ s.IntsAt b xs ∧ xs.length ≤ 448 ∧ (Jvm.Cond.and given_1 narrow_1).before args s = true
def lw_Q (_ : Array Value) (s : State) (o : Outcome) (t : State) : Prop := o = .returned (some (.int 1)) ∧ Framed s o t [] 600000 7302249
def lw_Z (below : List Frame) (a : Array Value) (s : State) : State → Prop := fun t => ∃ o, t.status = .running ∧ Ended t below o ∧ lw_Q a s o t
/-- the law's own end, with 1 on the stack, nothing written that was there before, its room as the claim has it -/
theorem lw_ret {p : Program} {l : Launch} {e : Env} {s : State} {m : MethodId} {below : List Frame} {meth : Method} {c : Code} {b : Nat} (hx : p.tables.exec = Jvm.exec) (hb : c.code = code) (hr : meth.sig.returnType = ret) (hlocks : meth.locks = false) {pc : Nat} {H : Heap} {ls : Array Slot} (hdg : decode code pc = .ok (.ireturn, 1)) : W p l e room_1 s m #[Value.ref b] below meth c H [] 600000 7302249 (lw_Z below #[Value.ref b] s) (F0 m pc ls [.int 1]) := by
  intro T hT X
  obtain ⟨fs, hret, hrun, hended, hW, hframe⟩ := X.leave (v := some (.int 1)) (hlocks := hlocks) (fun h => by rw [hr] at h; cases h)
  have hmeth' : T.vm.method? m = some meth := X.method'
  refine ⟨T.setFrames fs, ?_, .returned (some (.int 1)), hrun, hended, rfl, ⟨_, rfl⟩, hW, hframe⟩
  jvm_step X.here [X.here.top, hx, hb, hdg, hmeth', hr, ret, narrow_b1]
  (try refine ⟨rfl, ?_⟩); (try refine ⟨rfl, ?_⟩)
  first | (intro acts; rw [hret _ acts rfl rfl rfl]) | rw [hret _ _ rfl rfl rfl]
  exact Steps.refl _
/-- what holds at the law's entry: the machine, the code, the tables' words (any of lw_tbl by 'hts w (by decide +kernel)'), the script of L ints xs at the cell b, what the Statement gives of the start (any of its parts by flat_of_before) -/
def lw_At (p : Program) (s : State) (m : MethodId) (meth : Method) (c : Code) (b L : Nat) (xs : Nat → Int32) : Prop :=
  p.tables.exec = Jvm.exec ∧ c.code = code ∧ meth.sig.returnType = ret ∧ c.maxLocals = 4 ∧ s.vm.findClass R_law = some m.cls ∧ (∀ w ∈ lw_tbl, w.before #[Value.ref b] s = true) ∧ va_X b L xs s s.heap ∧ b < s.heap.size ∧ meth.locks = false ∧ (Jvm.Cond.and given_1 narrow_1).before #[Value.ref b] s = true
def ZX : ZG → ZY → Nat → Nat → (Nat → Int32) → Prop
  | (_, _, _, B, _), (_, _, _, s, _), b, L, xs => va_X b L xs s s.heap ∧ b < s.heap.size ∧ b < B
section ZScript
variable {G : ZG} {Y : ZY} {cc : ByteArray} {own nm : String} {ret : Option FieldType} {rm : Room} {nl : Nat} {kc ks pc pc1 : Nat} {lv : List (Nat × Value)} {st : List Value} {w : va_W} {b L : Nat} {xs : Nat → Int32}
theorem zx_sld (C : ZC G Y cc own nm ret rm nl) (hX : ZX G Y b L xs) {i : Int32} (hd : zd cc pc .iaload 1 pc1) (j : Nat) (hi : i = nI j) (hj : j < L) (hL : L < 2 ^ 31) (kk : ZV G Y kc ks pc1 lv (.int (xs j) :: st) w) : ZV G Y kc ks pc lv (.int i :: .ref b :: st) w := by
  obtain ⟨l, D, cA, B, t⟩ := G
  obtain ⟨p, e, R, s, m, args, below, meth, c, Q, nL⟩ := Y
  obtain ⟨hx, hb, hml, hnl, hown, hts, hK, hlk, hr, hnm, hR, hB, hZ, hN, hO, hCa⟩ := C
  obtain ⟨hd, rfl⟩ := hd
  obtain ⟨h1, h2, h3⟩ := hX
  subst hi
  intro H locs ls hP hD hS hl
  refine va_sld hx hb h1 h2 (Nat.not_le.mpr h3) hS (vp_in_nI hj hL) hd ?_
  rw [nI_clamp (Nat.lt_trans hj hL)]
  exact kk H locs ls hP hD hS hl
theorem zx_slen (C : ZC G Y cc own nm ret rm nl) (hX : ZX G Y b L xs) (hd : zd cc pc .arraylength 1 pc1) (kk : ZV G Y kc ks pc1 lv (.int (nI L) :: st) w) : ZV G Y kc ks pc lv (.ref b :: st) w := by
  obtain ⟨l, D, cA, B, t⟩ := G
  obtain ⟨p, e, R, s, m, args, below, meth, c, Q, nL⟩ := Y
  obtain ⟨hx, hb, hml, hnl, hown, hts, hK, hlk, hr, hnm, hR, hB, hZ, hN, hO, hCa⟩ := C
  obtain ⟨hd, rfl⟩ := hd
  obtain ⟨h1, h2, h3⟩ := hX
  intro H locs ls hP hD hS hl
  exact va_slen hx hb h1 h2 (Nat.not_le.mpr h3) hS hd (kk H locs ls hP hD hS hl)
end ZScript
theorem zx_end {p : Program} {l : Launch} {e : Env} {s : State} {m : MethodId} {below : List Frame} {meth : Method} {c : Code} {b : Nat} {D : va_G} {cA : Nat → ClassId} {t : Nat} {nm : String} (C : ZC (l, D, cA, s.heap.size, t) (p, e, room_1, s, m, #[Value.ref b], below, meth, c, lw_Z below #[Value.ref b] s, 4) code "SameTuesdayLaw" nm ret room_1 4) {kc ks pc pc1 : Nat} {lv : List (Nat × Value)} {w : va_W} (hd : zd code pc .ireturn 1 pc1) (hk : kc ≤ 600000) (hs : ks ≤ 7302249) : ZV (l, D, cA, s.heap.size, t) (p, e, room_1, s, m, #[Value.ref b], below, meth, c, lw_Z below #[Value.ref b] s, 4) kc ks pc lv [.int 1] w := by
  obtain ⟨hx, hb, hml, hnl, hown, hts, hK, hlk, hr, hnm, hR, hB, hZ, hN, hO, hCa⟩ := C
  obtain ⟨hd, rfl⟩ := hd
  intro H locs ls hP hD hS hl
  exact va_forget (fun q hq => hS.2.2 q hq) (W.widen hk hs (lw_ret hx hb hr hlk hd))
set_option maxRecDepth 20000 in
theorem lw_nest : ∀ q ∈ zb_nest, Cond.methodLinkNest q.1 q.2.1 q.2.2.1 q.2.2.2 ∈ lw_tbl := List.forall_mem_cons.mpr ⟨List.mem_of_getElem? (i := 345) rfl, List.forall_mem_cons.mpr ⟨List.mem_of_getElem? (i := 423) rfl, List.forall_mem_cons.mpr ⟨List.mem_of_getElem? (i := 539) rfl, List.forall_mem_cons.mpr ⟨List.mem_of_getElem? (i := 677) rfl, List.forall_mem_cons.mpr ⟨List.mem_of_getElem? (i := 715) rfl, List.forall_mem_cons.mpr ⟨List.mem_of_getElem? (i := 729) rfl, List.forall_mem_cons.mpr ⟨List.mem_of_getElem? (i := 752) rfl, fun _ h => absurd h List.not_mem_nil⟩⟩⟩⟩⟩⟩⟩
set_option maxRecDepth 20000 in
theorem lw_ao : ∀ C ∈ zb_ao, Cond.arrayOver (.object C) ∈ lw_tbl := List.forall_mem_cons.mpr ⟨List.mem_of_getElem? (i := 76) rfl, List.forall_mem_cons.mpr ⟨List.mem_of_getElem? (i := 100) rfl, List.forall_mem_cons.mpr ⟨List.mem_of_getElem? (i := 102) rfl, fun _ h => absurd h List.not_mem_nil⟩⟩⟩
set_option maxRecDepth 20000 in
theorem lw_ca : ∀ q ∈ zb_ca, Cond.castable q.1 q.2 ∈ lw_tbl := List.forall_mem_cons.mpr ⟨List.mem_of_getElem? (i := 1274) rfl, List.forall_mem_cons.mpr ⟨List.mem_of_getElem? (i := 1275) rfl, fun _ h => absurd h List.not_mem_nil⟩⟩
set_option maxRecDepth 20000 in
theorem lw_so1 : Cond.laysStatic "SameTuesday" "SO" "[J" ∈ lw_tbl := List.mem_of_getElem? (i := 349) rfl
set_option maxRecDepth 20000 in
theorem lw_so2 : Cond.initialized "SameTuesday" ∈ lw_tbl := List.mem_of_getElem? (i := 50) rfl
set_option maxRecDepth 20000 in
theorem lw_in_Cap : Cond.instantiable "SameTuesday$Caprice" 6 ∈ zb_tb := zb_mem 387 rfl rfl
set_option maxRecDepth 20000 in
theorem lw_in_Deed : Cond.instantiable "SameTuesday$Deed" 5 ∈ zb_tb := zb_mem 418 rfl rfl
set_option maxRecDepth 20000 in
theorem lw_in_Hap : Cond.instantiable "SameTuesday$Happening" 6 ∈ zb_tb := zb_mem 400 rfl rfl
set_option maxRecDepth 20000 in
theorem lw_in_Law : Cond.instantiable "SameTuesday$Law" 2 ∈ zb_tb := zb_mem 189 rfl rfl
set_option maxRecDepth 20000 in
theorem lw_in_Life : Cond.instantiable "SameTuesday$Life" 12 ∈ zb_tb := zb_mem 123 rfl rfl
set_option maxRecDepth 20000 in
theorem lw_in_Mis : Cond.instantiable "SameTuesday$Mishap" 6 ∈ zb_tb := zb_mem 337 rfl rfl
set_option maxRecDepth 20000 in
theorem lw_in_Rch : Cond.instantiable "SameTuesday$Reach" 5 ∈ zb_tb := zb_mem 167 rfl rfl
set_option maxRecDepth 20000 in
theorem lw_in_Sht : Cond.instantiable "SameTuesday$Sheet" 3 ∈ zb_tb := zb_mem 77 rfl rfl
set_option maxRecDepth 20000 in
theorem lw_in_Txt : Cond.instantiable "SameTuesday$Text" 6 ∈ zb_tb := zb_mem 265 rfl rfl
set_option maxRecDepth 20000 in
theorem lw_in_Twn : Cond.instantiable "SameTuesday$Town" 6 ∈ zb_tb := zb_mem 94 rfl rfl
set_option maxRecDepth 20000 in
theorem lw_in_Trc : Cond.instantiable "SameTuesday$Trace" 1 ∈ zb_tb := zb_mem 202 rfl rfl
set_option maxRecDepth 20000 in
theorem lw_in_Tue : Cond.instantiable "SameTuesday" 7 ∈ zb_tb := zb_mem 68 rfl rfl
set_option maxRecDepth 20000 in
theorem lw_in_Mod : Cond.instantiable "SameTuesdayModel" 34 ∈ zb_tb := zb_mem 900 rfl rfl
set_option maxHeartbeats 4000000 in
set_option maxRecDepth 20000 in
theorem lw_zc {p : Program} {e : Env} {s : State} {m : MethodId} {below : List Frame} {meth : Method} {c : Code} (l : Launch) {b L : Nat} {xs : Nat → Int32} (C0 : lw_At p s m meth c b L xs) : ∃ (D : va_G) (cA : Nat → ClassId) (t : Nat), ZC (l, D, cA, s.heap.size, t) (p, e, room_1, s, m, #[Value.ref b], below, meth, c, lw_Z below #[Value.ref b] s, 4) code "SameTuesdayLaw" meth.name ret room_1 4 := by
  obtain ⟨hx, hb, hr, hml, hown, hts, hX, hbl, hlk, hgv⟩ := C0
  have htb : ∀ w ∈ zb_tb, w.before #[Value.ref b] s = true := fun w hw => hts w (List.mem_filter.mp hw).1
  obtain ⟨c0, i0, k0⟩ := u_known htb zi_Cap (htb _ lw_in_Cap)
  obtain ⟨c1, i1, k1⟩ := u_known htb zi_Deed (htb _ lw_in_Deed)
  obtain ⟨c2, i2, k2⟩ := u_known htb zi_Hap (htb _ lw_in_Hap)
  obtain ⟨c3, i3, k3⟩ := u_known htb zi_Law (htb _ lw_in_Law)
  obtain ⟨c4, i4, k4⟩ := u_known htb zi_Life (htb _ lw_in_Life)
  obtain ⟨c5, i5, k5⟩ := u_known htb zi_Mis (htb _ lw_in_Mis)
  obtain ⟨c6, i6, k6⟩ := u_known htb zi_Rch (htb _ lw_in_Rch)
  obtain ⟨c7, i7, k7⟩ := u_known htb zi_Sht (htb _ lw_in_Sht)
  obtain ⟨c8, i8, k8⟩ := u_known htb zi_Txt (htb _ lw_in_Txt)
  obtain ⟨c9, i9, k9⟩ := u_known htb zi_Twn (htb _ lw_in_Twn)
  obtain ⟨c10, i10, k10⟩ := u_known htb zi_Trc (htb _ lw_in_Trc)
  obtain ⟨c11, i11, k11⟩ := u_known htb zi_Tue (htb _ lw_in_Tue)
  obtain ⟨c12, i12, k12⟩ := u_known htb zi_Mod (htb _ lw_in_Mod)
  obtain ⟨a0, ka0, co0, f0, g0, h0⟩ := Cond.arrayClass_spec (htb _ ar_int)
  obtain ⟨a1, ka1, co1, f1, g1, h1⟩ := Cond.arrayClass_spec (htb _ ar_boolean)
  obtain ⟨a2, ka2, co2, f2, g2, h2⟩ := Cond.arrayClass_spec (htb _ ar_long)
  have hAO : ∀ C ∈ zb_ao, va_AO C s := fun C hC => va_AO.of (hts _ (lw_ao C hC))
  obtain ⟨co3, a3, ka3, f3, -, g3, h3, n3⟩ := Cond.arrayOver_spec (hAO "SameTuesday$Sheet" (List.mem_of_getElem? (i := 0) rfl))
  obtain ⟨co4, a4, ka4, f4, -, g4, h4, n4⟩ := Cond.arrayOver_spec (hAO "SameTuesday$Happening" (List.mem_of_getElem? (i := 1) rfl))
  obtain ⟨co5, a5, ka5, f5, -, g5, h5, n5⟩ := Cond.arrayOver_spec (hAO "SameTuesday$Deed" (List.mem_of_getElem? (i := 2) rfl))
  have hs := flat_of_before _ hgv
  have harr : (Cond.arrayOf (Term.static "SameTuesday" "SO" "[J") .long).before #[Value.ref b] s = true := hs _ (by decide +kernel)
  have hlen : (Term.length (Term.static "SameTuesday" "SO" "[J")).eval #[Value.ref b] s none [] s = some (.int (Int32.ofNat 6)) := va_eqt (hs (Cond.eq (.length (Term.static "SameTuesday" "SO" "[J")) (.int 6)) (by decide +kernel))
  have e0 : (Term.elem (Term.static "SameTuesday" "SO" "[J") (.int (Int32.ofNat 0))).eval #[Value.ref b] s none [] s = some (.long (zb_so 0)) := va_eqtl (hs (Cond.eq (.elem (Term.static "SameTuesday" "SO" "[J") (.int 0)) (.long (-6148914691236517206))) (by decide +kernel))
  have e1 : (Term.elem (Term.static "SameTuesday" "SO" "[J") (.int (Int32.ofNat 1))).eval #[Value.ref b] s none [] s = some (.long (zb_so 1)) := va_eqtl (hs (Cond.eq (.elem (Term.static "SameTuesday" "SO" "[J") (.int 1)) (.long (-3689348814741910324))) (by decide +kernel))
  have e2 : (Term.elem (Term.static "SameTuesday" "SO" "[J") (.int (Int32.ofNat 2))).eval #[Value.ref b] s none [] s = some (.long (zb_so 2)) := va_eqtl (hs (Cond.eq (.elem (Term.static "SameTuesday" "SO" "[J") (.int 2)) (.long (-1085102592571150096))) (by decide +kernel))
  have e3 : (Term.elem (Term.static "SameTuesday" "SO" "[J") (.int (Int32.ofNat 3))).eval #[Value.ref b] s none [] s = some (.long (zb_so 3)) := va_eqtl (hs (Cond.eq (.elem (Term.static "SameTuesday" "SO" "[J") (.int 3)) (.long (-71777214294589696))) (by decide +kernel))
  have e4 : (Term.elem (Term.static "SameTuesday" "SO" "[J") (.int (Int32.ofNat 4))).eval #[Value.ref b] s none [] s = some (.long (zb_so 4)) := va_eqtl (hs (Cond.eq (.elem (Term.static "SameTuesday" "SO" "[J") (.int 4)) (.long (-281470681808896))) (by decide +kernel))
  have e5 : (Term.elem (Term.static "SameTuesday" "SO" "[J") (.int (Int32.ofNat 5))).eval #[Value.ref b] s none [] s = some (.long (zb_so 5)) := va_eqtl (hs (Cond.eq (.elem (Term.static "SameTuesday" "SO" "[J") (.int 5)) (.long (-4294967296))) (by decide +kernel))
  have hA : ∀ a : Nat, a < s.heap.size → ¬ zb_A s.heap.size a := fun a ha => Nat.not_le.mpr ha
  obtain ⟨t, ht, hT⟩ := va_Tof (N := 6) (f := fun j => .long (zb_so j)) (A := zb_A s.heap.size) (by decide) harr hlen (fun j hj => match j, hj with
    | 0, _ => e0
    | 1, _ => e1
    | 2, _ => e2
    | 3, _ => e3
    | 4, _ => e4
    | 5, _ => e5
    | n + 6, hj => absurd hj (by omega)) hA
  have hZ := va_Zref (hts _ lw_so1) (hts _ lw_so2) ht hA
  refine ⟨(fun c => match c with | 0 => c0 | 1 => c1 | 2 => c2 | 3 => c3 | 4 => c4 | 5 => c5 | 6 => c6 | 7 => c7 | 8 => c8 | 9 => c9 | 10 => c10 | 11 => c11 | _ => c12, fun c => match c with | 0 => i0 | 1 => i1 | 2 => i2 | 3 => i3 | 4 => i4 | 5 => i5 | 6 => i6 | 7 => i7 | 8 => i8 | 9 => i9 | 10 => i10 | 11 => i11 | _ => i12), fun k => match k with | 0 => a0 | 1 => a1 | 2 => a2 | 3 => a3 | 4 => a4 | _ => a5, t, hx, hb, hml, rfl, hown, htb, ⟨fun c q hq => ?_, fun k q hk => ?_⟩, hlk, hr, rfl, rfl, Nat.le_refl _, ⟨hZ, hT⟩, fun q hq => va_Nw.of rfl (hts _ (lw_nest q hq)), hAO, fun q hq => va_Nw.of rfl (hts _ (lw_ca q hq))⟩
  · match c, hq with
    | 0, hq => obtain rfl := Option.some.inj hq; exact k0
    | 1, hq => obtain rfl := Option.some.inj hq; exact k1
    | 2, hq => obtain rfl := Option.some.inj hq; exact k2
    | 3, hq => obtain rfl := Option.some.inj hq; exact k3
    | 4, hq => obtain rfl := Option.some.inj hq; exact k4
    | 5, hq => obtain rfl := Option.some.inj hq; exact k5
    | 6, hq => obtain rfl := Option.some.inj hq; exact k6
    | 7, hq => obtain rfl := Option.some.inj hq; exact k7
    | 8, hq => obtain rfl := Option.some.inj hq; exact k8
    | 9, hq => obtain rfl := Option.some.inj hq; exact k9
    | 10, hq => obtain rfl := Option.some.inj hq; exact k10
    | 11, hq => obtain rfl := Option.some.inj hq; exact k11
    | 12, hq => obtain rfl := Option.some.inj hq; exact k12
    | n + 13, hq => exact absurd (show (none : Option vw_C) = some q from hq) (by simp)
  · match k, hk with
    | 0, hk => obtain rfl := Option.some.inj hk; exact ⟨fun n z => ⟨fun k h => (by cases h), ka0, g0, co0, h0⟩, f0⟩
    | 1, hk => obtain rfl := Option.some.inj hk; exact ⟨fun n z => ⟨fun k h => (by cases h), ka1, g1, co1, h1⟩, f1⟩
    | 2, hk => obtain rfl := Option.some.inj hk; exact ⟨fun n z => ⟨fun k h => (by cases h), ka2, g2, co2, h2⟩, f2⟩
    | 3, hk => obtain rfl := Option.some.inj hk; exact ⟨fun n z => ⟨fun k h => (by cases h), ka3, g3, co3, h3⟩, ka3, co3, g3, h3, f3, n3⟩
    | 4, hk => obtain rfl := Option.some.inj hk; exact ⟨fun n z => ⟨fun k h => (by cases h), ka4, g4, co4, h4⟩, ka4, co4, g4, h4, f4, n4⟩
    | 5, hk => obtain rfl := Option.some.inj hk; exact ⟨fun n z => ⟨fun k h => (by cases h), ka5, g5, co5, h5⟩, ka5, co5, g5, h5, f5, n5⟩
    | n + 6, hk => exact absurd (show (none : Option (ClassId × FieldType)) = some q from hk) (by simp)
theorem pw_app {hA dA : Nat → Nat} {T : ZT} {X : va_W} : pw hA dA T X = pw hA dA T [] ++ X := by unfold pw; simp
theorem wc_perm {A M : va_W} {hA dA : Nat → Nat} {T : ZT} : (M ++ (A ++ pw hA dA T [])).Perm (A ++ pw hA dA T M) := by
  rw [pw_app (X := M), ← List.append_assoc A]
  exact List.perm_append_comm
theorem lp_in {L i : Nat} (hL : L ≤ 448) (hi : i ≤ 1000) (h : ¬ nI L - 7 < nI i) : i + 7 ≤ L := by
  have e : (nI L - 7).toInt = (L : Int) - 7 := by
    rw [Int32.toInt_sub, nI_toInt (by omega), show (7 : Int32).toInt = 7 by decide]
    exact Int.bmod_eq_of_le (by omega) (by omega)
  rw [Int32.lt_iff_toInt_lt, e, nI_toInt (by omega)] at h
  omega
theorem and31 (x : Int32) : 0 ≤ (x &&& 31).toInt ∧ (x &&& 31).toInt ≤ 31 := by
  have h : (x &&& 31).toBitVec.toNat ≤ 31 := by
    rw [Int32.toBitVec_and, BitVec.toNat_and]
    exact Nat.and_le_right
  have e : (x &&& 31).toInt = ((x &&& 31).toBitVec.toNat : Int) := BitVec.toInt_eq_toNat_of_lt (by omega)
  rw [e]
  omega
