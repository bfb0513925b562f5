theorem nand4 {a b c d : Prop} (h : ¬ ((¬ a ∧ ¬ b) ∧ (¬ c ∧ ¬ d))) : (a ∨ b) ∨ (c ∨ d) := Classical.byContradiction fun z => h ⟨⟨fun x => z (Or.inl (Or.inl x)), fun x => z (Or.inl (Or.inr x))⟩, ⟨fun x => z (Or.inr (Or.inl x)), fun x => z (Or.inr (Or.inr x))⟩⟩
theorem trow_1 {S : ZA} {sh l i n : Int32} {fits : Prop} [Decidable fits] (h : sh < 0 ∨ 3 < sh) : trow S sh l i n fits = (-1, 0) := if_pos h
theorem trow_2 {S : ZA} {sh l i n : Int32} {fits : Prop} [Decidable fits] (h0 : ¬ sh < 0 ∧ ¬ 3 < sh) (h : ((l < 0 ∨ 2 < l) ∨ (n < 0 ∨ 20 < n)) ∨ ¬ fits) : trow S sh l i n fits = (-2, 0) := by
  rw [trow, if_neg (nor_of h0), if_pos h]
theorem trow_3 {S : ZA} {l i : Int32} {k nn : Nat} {fits : Prop} [Decidable fits] (hk : k ≤ 3) (hn : nn ≤ 20) (h0 : ¬ nI k < 0 ∧ ¬ 3 < nI k) (h1 : (¬ l < 0 ∧ ¬ 2 < l) ∧ (¬ nI nn < 0 ∧ ¬ 20 < nI nn)) (h2 : fits) : trow S (nI k) l i (nI nn) fits = lrow (sf S 0) k l i nn := by
  rw [trow, if_neg (nor_of h0), if_neg (fun z => z.elim (fun z => z.elim (nor_of h1.1) (nor_of h1.2)) (fun z => z h2)), nI_cl (by omega), nI_cl (by omega)]
theorem apT_bad {S : ZA} {t : Int32 × Int32} {x : Int32 × ZA} {c f : Int32} (h : t = (c, f)) (hc : ¬ c = 0) : (if ¬ t.1 = 0 then (t.1, sf S t.2) else x) = (c, sf S f) := by rw [h]; exact if_pos hc
theorem apT_ne {S : ZA} {t u : Int32 × Int32} {x : Int32 × ZA} (h : t = u) (hc : ¬ u.1 = 0) : (if ¬ t.1 = 0 then (t.1, sf S t.2) else x) = (u.1, sf S u.2) := by rw [h]; exact if_pos hc
theorem apT_go {α : Type} {t u : Int32 × Int32} {y x : α} (h : t = u) (hc : u.1 = 0) : (if ¬ t.1 = 0 then y else x) = x := by rw [h]; exact if_neg (fun z => z hc)
theorem apR_n {S : ZA} {k nn : Nat} {i : Int32} (hk : k ≤ 3) (hn : nn ≤ 20) : apR S (nI k) i (nI nn) = rowP S k i.toNatClampNeg nn := by
  rw [apR, nI_cl (by omega), nI_cl (by omega)]
theorem wrow_at {n p : Nat} (h : p < n) (r : Nat → Bool) (r0 : Nat → Int32) : wrow n r r0 p = if r p = true then 0 else 1 := if_pos h
theorem lg_cmp0 {x y : Int64} : lg_cmp x y = 0 ↔ x = y := by
  unfold lg_cmp
  constructor
  · intro h
    split at h
    · exact absurd h (by decide)
    · split at h
      · next h2 => exact h2
      · exact absurd h (by decide)
  · intro h
    subst h
    rw [if_neg (Int64.lt_irrefl), if_pos rfl]
def oSt (F1 : Nat → Int32) (R1 : Nat → Nat → Int32) (F : Nat → Int32) (R : Nat → Nat → Int32) : Prop := (∀ k, k ≠ 25 → k ≠ 26 → k ≠ 27 → F k = F1 k) ∧ ∀ k, k ≠ 24 → R k = R1 k
theorem oSt_mrep {T : ZT} {F1 F : Nat → Int32} {R1 R : Nat → Nat → Int32} (h : oSt F1 R1 F R) (hr : mrep T F1 R1) : mrep T F R := by
  obtain ⟨h1, h2⟩ := h
  unfold mrep at hr ⊢
  rw [h1 5 (by decide) (by decide) (by decide), h1 6 (by decide) (by decide) (by decide), h1 7 (by decide) (by decide) (by decide), h2 8 (by decide), h2 9 (by decide), h2 10 (by decide), h2 11 (by decide), h2 12 (by decide), h2 13 (by decide), h2 14 (by decide), h2 15 (by decide)]
  exact hr
theorem oSt_prow {T : ZT} {P : ZP} {F1 F : Nat → Int32} {R1 R : Nat → Nat → Int32} (h : oSt F1 R1 F R) (hr : prow T P F1 R1) : prow T P F R := by
  obtain ⟨h1, h2⟩ := h
  unfold prow at hr ⊢
  rw [h1 21 (by decide) (by decide) (by decide), h2 22 (by decide), h2 23 (by decide)]
  exact hr
theorem oSt_F {F1 F : Nat → Int32} {R1 R : Nat → Nat → Int32} (h : oSt F1 R1 F R) (k : Nat) (x : Int32) (hk : k = 25 ∨ k = 26 ∨ k = 27) : oSt F1 R1 (upd F k x) R := ⟨fun j a b c => by
  rw [upd_ne _ _ (by rcases hk with rfl | rfl | rfl <;> assumption)]; exact h.1 j a b c, h.2⟩
theorem oSt_R {F1 F : Nat → Int32} {R1 R : Nat → Nat → Int32} (h : oSt F1 R1 F R) (r : Nat → Int32) : oSt F1 R1 F (ur R 24 r) := ⟨h.1, fun j a => by rw [ur_ne _ _ a]; exact h.2 j a⟩
theorem oSt_mrp {S : ZA} {F1 F : Nat → Int32} {R1 R : Nat → Nat → Int32} (h : oSt F1 R1 F R) (hm : mrp S F1 R1) : mrp S (upd F 25 (-9)) R := by
  have hr := oSt_mrep h hm.2.2.2.2.1
  obtain ⟨h1, h2⟩ := h
  obtain ⟨a, b, c, d, e, f, g, i⟩ := hm
  refine ⟨a, ?_, ?_, fun k hk => ?_, hr, rfl, ?_, fun j hj => ?_⟩
  · exact (h1 0 (by decide) (by decide) (by decide)).trans b
  · exact (h1 1 (by decide) (by decide) (by decide)).trans c
  · rw [h2 2 (by decide), h2 3 (by decide), h2 4 (by decide)]; exact d k hk
  · exact (h1 32 (by decide) (by decide) (by decide)).trans g
  · rw [h2 33 (by decide)]; exact i j hj
theorem olpD_le {T : ZT} {P : ZP} {set m : Nat} {k : Int32} {s : Nat × Int32} : ∀ {d : Nat}, (olpD T P set k m d s).1 ≤ s.1 + d
  | 0 => Nat.le_refl _
  | d + 1 => by
    have := olpD_le (T := T) (P := P) (set := set) (m := m) (k := k) (s := s) (d := d)
    show (ostp T P set k m d (olpD T P set k m d s)).1 ≤ _
    unfold ostp
    split
    · show _ + 1 ≤ _; omega
    · omega
theorem olpM_le {T : ZT} (hd : T.2.1 ≤ 5) {P : ZP} {set : Nat} {k : Int32} : ∀ {m : Nat}, (olpM T P set k m).1 ≤ 5 * m
  | 0 => Nat.le_refl _
  | m + 1 => by
    have h1 := olpM_le hd (P := P) (set := set) (k := k) (m := m)
    have h2 := olpD_le (T := T) (P := P) (set := set) (m := m) (k := k) (s := olpM T P set k m) (d := T.2.1)
    show (olpD T P set k m T.2.1 (olpM T P set k m)).1 ≤ _
    omega
theorem oth1_of {T : ZT} {P : ZP} {set m d : Nat} (hm : m < T.2.2.1) (h1 : (run T P 0 (oeF T P 0 (some (m, d))) T.2.2.1).1 = set) (h2 : ¬ gbg T P 0 (some (m, d)) T.2.2.1 = 0) : oth1 T P set m d = true := by
  have hb : m < T.2.2.1 ∧ may T d m (run T P 0 none (m + 1)).1 = true := Classical.byContradiction fun z => h2 (zB_e0.mpr z)
  rw [oeF_some hb.2] at h1
  rw [oth1, hb.2, h1]; simp
theorem oth1_no1 {T : ZT} {P : ZP} {set m d : Nat} (h1 : ¬ (run T P 0 (oeF T P 0 (some (m, d))) T.2.2.1).1 = set) : ¬ oth1 T P set m d = true := by
  intro z
  rw [oth1, Bool.and_eq_true] at z
  rw [oeF_some z.1] at h1
  exact h1 (beq_iff_eq.mp z.2)
theorem oth1_no2 {T : ZT} {P : ZP} {set m d : Nat} (hm : m < T.2.2.1) (h2 : gbg T P 0 (some (m, d)) T.2.2.1 = 0) : ¬ oth1 T P set m d = true := by
  intro z
  rw [oth1, Bool.and_eq_true] at z
  exact zB_e0.mp h2 ⟨hm, z.1⟩
theorem ostp_no {T : ZT} {P : ZP} {set m d : Nat} {k : Int32} {s : Nat × Int32} (h : ¬ oth1 T P set m d = true) : ostp T P set k m d s = s := if_neg h
theorem ostp_yes {T : ZT} {P : ZP} {set m d : Nat} {k : Int32} {s : Nat × Int32} (h : oth1 T P set m d = true) : ostp T P set k m d s = (s.1 + 1, if nI s.1 = k then nI (10 * m + d) else s.2) := if_pos h
