/-- a bit of a world -/
def bt (w : Int64) (s : Nat) : Bool := w.toBitVec.getLsbD s
def hcl (k : Nat) : Nat := if k = 1 then 5 else if k = 2 then 0 else 2
def hfs (T : ZT) (j : Nat) : List Value := [.int (nI j), .int (nI (tq T 2 j)), .int (nI (tq T 3 j)), .long (ww (tq T 2 j)), .long (ww (tq T 3 j)), .int (nI (tq T 1 j))]
def dfs (T : ZT) (j : Nat) : List Value := [.int (nI (tq T 4 j)), .int (nI (tq T 5 j)), .int (nI (tq T 6 j)), .int (nI (tq T 7 j)), .long (ww (tq T 4 j))]
def hcell (hA : Nat → Nat) (T : ZT) (j : Nat) : Nat × va_E := (hA j, .inr (hcl (tq T 0 j), hfs T j))
def dcell (dA : Nat → Nat) (T : ZT) (j : Nat) : Nat × va_E := (dA j, .inr (1, dfs T j))
def pw (hA dA : Nat → Nat) (T : ZT) (X : va_W) : va_W := (List.range T.1).map (hcell hA T) ++ ((List.range T.2.1).map (dcell dA T) ++ X)
def trp (T : ZT) (hA dA : Nat → Nat) (I : Nat → Int32) (L : Nat → Int64) (QH QD : Nat → Option Nat) : Prop := I 9 = nI T.1 ∧ I 10 = nI T.2.1 ∧ I 11 = nI T.2.2.1 ∧ (∀ m, m < 60 → (bt (L 0) m = true ↔ ∃ h, h < T.1 ∧ tq T 1 h = m)) ∧ (∀ j, j < T.1 → QH j = some (hA j)) ∧ (∀ j, j < T.2.1 → QD j = some (dA j))
def crc (T : ZT) (I : Nat → Int32) (RL : Nat → Nat → Int64) : Prop := (I 17 = 0 ∨ I 17 = 1) ∧ (I 17 = 0 → ∀ m, m < T.2.2.1 → ∀ s, s < 64 → bt (RL 1 m) s = cbe T (m + 1) s)
def srp (S : ZA) (I : Nat → Int32) (RI : Nat → Nat → Int32) : Prop := ∀ k, k < 4 → I (1 + k) = aln S k ∧ I (5 + k) = nI (asz S k) ∧ ∀ j, j < 60 → RI k j = ace S k j
def crp (S : ZA) (hA dA : Nat → Nat) (I : Nat → Int32) (L : Nat → Int64) (QH QD : Nat → Option Nat) (RI : Nat → Nat → Int32) (RL : Nat → Nat → Int64) : Prop := aok S ∧ I 0 = aft S ∧ I 19 = atr S ∧ srp S I RI ∧ I 18 = nI (and8 S) ∧ (∀ j, j < and8 S → RI 6 j = nI (ady S j)) ∧ trp (aT S) hA dA I L QH QD ∧ crc (aT S) I RL
def cpi (G : ZG) (ad : Nat → Nat) (X : va_W) (r0 : Int32) (S : ZA) : Option Value → va_W → Prop := zpi (fun r w => r = r0 ∧ ∃ (hA dA : Nat → Nat) (I : Nat → Int32) (L : Nat → Int64) (g : Option Nat) (QH QD : Nat → Option Nat) (RI : Nat → Nat → Int32) (RL : Nat → Nat → Int64), w = cw G ad I L g none QH QD RI RL ++ pw hA dA (aT S) X ∧ crp S hA dA I L QH QD RI RL)
def cpl (G : ZG) (ad : Nat → Nat) (X : va_W) (r0 : Int64) (S : ZA) : Option Value → va_W → Prop := zpl (fun r w => r = r0 ∧ ∃ (hA dA : Nat → Nat) (I : Nat → Int32) (L : Nat → Int64) (g : Option Nat) (QH QD : Nat → Option Nat) (RI : Nat → Nat → Int32) (RL : Nat → Nat → Int64), w = cw G ad I L g none QH QD RI RL ++ pw hA dA (aT S) X ∧ crp S hA dA I L QH QD RI RL)
section ZCrp
variable {G : ZG} {ad : Nat → Nat} {X : va_W} {S : ZA} {hA dA : Nat → Nat} {I : Nat → Int32} {L : Nat → Int64} {g : Option Nat} {QH QD : Nat → Option Nat} {RI : Nat → Nat → Int32} {RL : Nat → Nat → Int64}
theorem cpi_i {r r0 : Int32} (h : r = r0) (hm : crp S hA dA I L QH QD RI RL) : cpi G ad X r0 S (some (.int r)) (cw G ad I L g none QH QD RI RL ++ pw hA dA (aT S) X) := ⟨r, rfl, h, hA, dA, I, L, g, QH, QD, RI, RL, rfl, hm⟩
theorem cpl_l {r r0 : Int64} (h : r = r0) (hm : crp S hA dA I L QH QD RI RL) : cpl G ad X r0 S (some (.long r)) (cw G ad I L g none QH QD RI RL ++ pw hA dA (aT S) X) := ⟨r, rfl, h, hA, dA, I, L, g, QH, QD, RI, RL, rfl, hm⟩
theorem upd_far {f : Nat → Int32} {a b : Nat} {x : Int32} (h : b ≠ a) : upd f a x b = f b := if_neg h
theorem srp_u {a : Nat} {x : Int32} (h : srp S I RI) (ha : ∀ k, k < 4 → 1 + k ≠ a ∧ 5 + k ≠ a) : srp S (upd I a x) RI := fun k hk => ⟨(upd_far (ha k hk).1).trans (h k hk).1, (upd_far (ha k hk).2).trans (h k hk).2.1, (h k hk).2.2⟩
theorem crp_f (h : crp S hA dA I L QH QD RI RL) (v : Int32) : crp (sf S v) hA dA (upd I 0 v) L QH QD RI RL := ⟨h.1, rfl, h.2.2.1, srp_u h.2.2.2.1 (fun k _ => ⟨by omega, by omega⟩), h.2.2.2.2⟩
theorem crp_t (h : crp S hA dA I L QH QD RI RL) (v : Int32) : crp (st_ S v) hA dA (upd I 19 v) L QH QD RI RL := ⟨h.1, h.2.1, rfl, srp_u h.2.2.2.1 (fun k _ => ⟨by omega, by omega⟩), h.2.2.2.2⟩
theorem upd_at {f : Nat → Int32} {a b : Nat} {x : Int32} (h : b = a) : upd f a x b = x := if_pos h
/-- the sheets changed -/
theorem crp_s {a s : Nat} {l : Int32} {ce : Nat → Int32} (h : crp S hA dA I L QH QD RI RL) (ha : a < 4) (hl : l = -1 ∨ l = 0 ∨ l = 1 ∨ l = 2) (hs : s ≤ 60) (hz : l = -1 → s = 0) {r : Nat → Int32} (hr : ∀ j, j < 60 → r j = ce j) : crp (sS S (iput (aln S) a l) (iput (asz S) a s) (iput (ace S) a ce)) hA dA (upd (upd I (1 + a) l) (5 + a) (nI s)) L QH QD (ur RI a r) RL := by
  have far : ∀ b, b = 0 ∨ 9 ≤ b → upd (upd I (1 + a) l) (5 + a) (nI s) b = I b := fun b hb => (upd_far (by omega)).trans (upd_far (by omega))
  refine ⟨⟨fun k hk => ?_, h.1.2⟩, (far 0 (Or.inl rfl)).trans h.2.1, (far 19 (by omega)).trans h.2.2.1, fun k hk => ?_, (far 18 (by omega)).trans h.2.2.2.2.1, fun j hj => ?_, ?_, ?_⟩
  · by_cases e : k = a
    · subst e
      exact ⟨by show iput (aln S) k l k = -1 ∨ iput (aln S) k l k = 0 ∨ iput (aln S) k l k = 1 ∨ iput (aln S) k l k = 2; rw [show iput (aln S) k l k = l from if_pos rfl]; exact hl, by show iput (asz S) k s k ≤ 60; rw [show iput (asz S) k s k = s from if_pos rfl]; exact hs, by show iput (aln S) k l k = -1 → iput (asz S) k s k = 0; rw [show iput (aln S) k l k = l from if_pos rfl, show iput (asz S) k s k = s from if_pos rfl]; exact hz⟩
    · have z := h.1.1 k hk
      exact ⟨by show iput (aln S) a l k = -1 ∨ iput (aln S) a l k = 0 ∨ iput (aln S) a l k = 1 ∨ iput (aln S) a l k = 2; rw [show iput (aln S) a l k = aln S k from if_neg e]; exact z.1, by show iput (asz S) a s k ≤ 60; rw [show iput (asz S) a s k = asz S k from if_neg e]; exact z.2.1, by show iput (aln S) a l k = -1 → iput (asz S) a s k = 0; rw [show iput (aln S) a l k = aln S k from if_neg e, show iput (asz S) a s k = asz S k from if_neg e]; exact z.2.2⟩
  · by_cases e : k = a
    · subst e
      refine ⟨(upd_far (by omega)).trans ((upd_at rfl).trans (if_pos rfl).symm), (upd_at rfl).trans (congrArg nI (if_pos rfl).symm), fun j hj => ?_⟩
      show ur RI k r k j = iput (ace S) k ce k j
      rw [show ur RI k r k = r from if_pos rfl, show iput (ace S) k ce k = ce from if_pos rfl]
      exact hr j hj
    · obtain ⟨z1, z2, z3⟩ := h.2.2.2.1 k hk
      refine ⟨(upd_far (by omega)).trans ((upd_far (by omega)).trans (z1.trans (if_neg e).symm)), (upd_far (by omega)).trans ((upd_far (by omega)).trans (z2.trans (congrArg nI (if_neg e).symm))), fun j hj => ?_⟩
      show ur RI a r k j = iput (ace S) a ce k j
      rw [show ur RI a r k = RI k from if_neg e, show iput (ace S) a ce k = ace S k from if_neg e]
      exact z3 j hj
  · show ur RI a r 6 j = _
    rw [show ur RI a r 6 = RI 6 from if_neg (by omega)]
    exact h.2.2.2.2.2.1 j hj
  · obtain ⟨z1, z2, z3, z4⟩ := h.2.2.2.2.2.2.1
    exact ⟨(far 9 (by omega)).trans z1, (far 10 (by omega)).trans z2, (far 11 (by omega)).trans z3, z4⟩
  · obtain ⟨z1, z2⟩ := h.2.2.2.2.2.2.2
    exact ⟨by rw [far 17 (by omega)]; exact z1, by rw [far 17 (by omega)]; exact z2⟩
theorem iput_self {α : Type} (f : Nat → α) (k : Nat) : iput f k (f k) = f := by
  funext j
  by_cases e : j = k
  · subst e; exact if_pos rfl
  · exact if_neg e
/-- the cells of one sheet changed -/
theorem crp_c {a : Nat} {ce r : Nat → Int32} (h : crp S hA dA I L QH QD RI RL) (ha : a < 4) (hr : ∀ j, j < 60 → r j = ce j) : crp (sS S (aln S) (asz S) (iput (ace S) a ce)) hA dA I L QH QD (ur RI a r) RL := by
  have z := crp_s (s := asz S a) h ha (h.1.1 a ha).1 (h.1.1 a ha).2.1 (h.1.1 a ha).2.2 hr
  rw [iput_self, iput_self, ← (h.2.2.2.1 a ha).1, ← (h.2.2.2.1 a ha).2.1] at z
  rw [upd_self] at z
  rw [upd_self] at z
  exact z
end ZCrp
def shq (ad : Nat → Nat) (k : Int32) : Option Nat := if ¬ k < 0 ∧ ¬ 3 < k then some (ad (2 + k.toNatClampNeg)) else none
theorem shq_some {ad : Nat → Nat} {k : Int32} {a : Nat} (h : shq ad k = some a) : ∃ j, j < 4 ∧ k = nI j ∧ shq ad k = some (ad (2 + j)) ∧ ¬ (k < 0 ∨ 3 < k) := by
  unfold shq at h
  split at h
  · next h1 =>
    obtain ⟨j, hj, rfl⟩ := ix_le (n := 3) (by decide) h1.1 h1.2
    exact ⟨j, by omega, rfl, by rw [shq, if_pos h1, nI_cl (by omega)], nor_of h1⟩
  · exact absurd h (by simp)
theorem shq_none {ad : Nat → Nat} {k : Int32} (h : shq ad k = none) : k < 0 ∨ 3 < k := by
  unfold shq at h
  split at h
  · exact absurd h (by simp)
  · next h1 => exact nand_or h1
theorem holds_ok {v : Int32} {x m s : Nat} (e : v = nI s) (hs : s ≤ 60) (h : x + m ≤ s) : ¬ nI x < 0 ∧ ¬ nI m < 0 ∧ ¬ v < nI x ∧ ¬ v - nI x < nI m := by
  subst e
  refine ⟨nI_nn (by omega), nI_nn (by omega), fun z => ?_, fun z => ?_⟩
  · have := (nI_ltI (by omega) (by omega)).mp z; omega
  · rw [pk_sub (by omega), nI_ltI (by omega) (by omega)] at z; omega
theorem holds_get {v i n : Int32} {s : Nat} (e : v = nI s) (hs : s ≤ 60) (h : ¬ i < 0 ∧ ¬ n < 0 ∧ ¬ v < i ∧ ¬ v - i < n) : ∃ x m, i = nI x ∧ n = nI m ∧ x + m ≤ s := by
  subst e
  obtain ⟨x, hx, rfl⟩ := ix_le (n := s) (by omega) h.1 h.2.2.1
  obtain ⟨m, hm, rfl⟩ := nI_of h.2.1
  have z := h.2.2.2
  rw [pk_sub hx, nI_ltI (by omega) hm] at z
  exact ⟨x, m, rfl, rfl, by omega⟩
def rfv (ln : Int32) (s : Nat) (l i n : Int32) : Int32 := if l < 0 ∨ 2 < l then -2 else if ag ln s l i n = 0 then 0 else -10 - ag ln s l i n
def rfI (I : Nat → Int32) (ln : Int32) (s : Nat) (l i n : Int32) : Nat → Int32 := if l < 0 ∨ 2 < l then I else if ag ln s l i n = 0 then I else upd I 0 (ag ln s l i n)
theorem rf_0 {I : Nat → Int32} {ln l i n : Int32} {s : Nat} (h : ¬ (¬ l < 0 ∧ ¬ 2 < l)) : rfv ln s l i n = -2 ∧ rfI I ln s l i n = I := ⟨if_pos (nand_or h), if_pos (nand_or h)⟩
theorem rf_g {I : Nat → Int32} {ln l i n : Int32} {s : Nat} {v : Int32} (h : ¬ l < 0 ∧ ¬ 2 < l) (hv : ag ln s l i n = v) (h0 : ¬ v = 0) : rfv ln s l i n = -10 - v ∧ rfI I ln s l i n = upd I 0 v := by
  subst hv
  exact ⟨by rw [rfv, if_neg (nor_of h), if_neg h0], by rw [rfI, if_neg (nor_of h), if_neg h0]⟩
theorem rf_f {I : Nat → Int32} {ln l i n : Int32} {s : Nat} (h : ¬ l < 0 ∧ ¬ 2 < l) (hv : ag ln s l i n = 0) : rfv ln s l i n = 0 ∧ rfI I ln s l i n = I := ⟨by rw [rfv, if_neg (nor_of h), if_pos hv], by rw [rfI, if_neg (nor_of h), if_pos hv]⟩
theorem ag_1 {ln l i n : Int32} {s : Nat} (h : ln = -1) : ag ln s l i n = 1 := by rw [ag, if_neg (fun z => z.1 h), if_pos h]
theorem ag_2 {ln l i n : Int32} {s : Nat} (h : ¬ ln = -1) (h2 : ¬ ln = l) : ag ln s l i n = 2 := if_pos ⟨h, h2⟩
theorem ag_4 {ln l i n : Int32} {s : Nat} (h : ¬ ln = -1) (h2 : ln = l) (h3 : n < 0) : ag ln s l i n = 4 := by rw [ag, if_neg (fun z => z.2 h2), if_neg h, if_pos h3]
theorem ag_3 {ln l i n v : Int32} {s : Nat} (e : v = nI s) (h : ¬ ln = -1) (h2 : ln = l) (h3 : ¬ n < 0) (h4 : ¬ (¬ i < 0 ∧ ¬ n < 0 ∧ ¬ v < i ∧ ¬ v - i < n)) : ag ln s l i n = 3 := by
  subst e
  rw [ag, if_neg (fun z => z.2 h2), if_neg h, if_neg h3, if_pos]
  exact Classical.byContradiction fun z => h4 ⟨fun y => z (Or.inl y), h3, fun y => z (Or.inr (Or.inl y)), fun y => z (Or.inr (Or.inr y))⟩
theorem ag_0 {ln l i n v : Int32} {s : Nat} (e : v = nI s) (h : ¬ ln = -1) (h2 : ln = l) (h4 : ¬ i < 0 ∧ ¬ n < 0 ∧ ¬ v < i ∧ ¬ v - i < n) : ag ln s l i n = 0 := by
  subst e
  rw [ag, if_neg (fun z => z.2 h2), if_neg h, if_neg h4.2.1, if_neg]
  exact fun z => z.elim h4.1 (fun z => z.elim h4.2.2.1 h4.2.2.2)
theorem crp_0 {S : ZA} {hA dA : Nat → Nat} {I : Nat → Int32} {L : Nat → Int64} {QH QD : Nat → Option Nat} {RI : Nat → Nat → Int32} {RL : Nat → Nat → Int64} (h : crp S hA dA I L QH QD RI RL) (v : Int32) : crp (sf S v) hA dA (upd (upd I 0 0) 0 v) L QH QD RI RL := by rw [upd_upd]; exact crp_f h v
theorem crp_D {S : ZA} {hA dA : Nat → Nat} {I : Nat → Int32} {L : Nat → Int64} {QH QD : Nat → Option Nat} {RI : Nat → Nat → Int32} {RL : Nat → Nat → Int64} (h : crp S hA dA I L QH QD RI RL) {n : Nat} {d : Nat → Nat} {r : Nat → Int32} (hn : n ≤ 8) (hd : ∀ j, j < n → d j < 64 ∧ r j = nI (d j)) : crp (sD S n d) hA dA (upd I 18 (nI n)) L QH QD (ur RI 6 r) RL := by
  refine ⟨⟨h.1.1, h.1.2.1, h.1.2.2.1, hn, fun j hj => (hd j hj).1⟩, h.2.1, h.2.2.1, fun k hk => ?_, rfl, fun j hj => (hd j hj).2, h.2.2.2.2.2.2⟩
  obtain ⟨z1, z2, z3⟩ := h.2.2.2.1 k hk
  refine ⟨(upd_far (by omega)).trans z1, (upd_far (by omega)).trans z2, fun j hj => ?_⟩
  rw [show ur RI 6 r k = RI k from if_neg (by omega)]
  exact z3 j hj
