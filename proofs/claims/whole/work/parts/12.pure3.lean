theorem nand_or {a b : Prop} (h : ¬ (¬ a ∧ ¬ b)) : a ∨ b := Classical.byContradiction fun z => h ⟨fun x => z (Or.inl x), fun x => z (Or.inr x)⟩
theorem nor_of {a b : Prop} (h : ¬ a ∧ ¬ b) : ¬ (a ∨ b) := fun z => z.elim h.1 h.2
theorem mrp_tok {S : ZA} {F : Nat → Int32} {R : Nat → Nat → Int32} (h : mrp S F R) : tok (aT S) := h.1.2.1
theorem mrp_e5 {S : ZA} {F : Nat → Int32} {R : Nat → Nat → Int32} (h : mrp S F R) : F 5 = nI (aT S).1 := h.2.2.2.2.1.2.1
theorem mrp_e6 {S : ZA} {F : Nat → Int32} {R : Nat → Nat → Int32} (h : mrp S F R) : F 6 = nI (aT S).2.1 := h.2.2.2.2.1.2.2.1
theorem mrp_e7 {S : ZA} {F : Nat → Int32} {R : Nat → Nat → Int32} (h : mrp S F R) : F 7 = nI (aT S).2.2.1 := h.2.2.2.2.1.2.2.2.1
theorem mrp_e32 {S : ZA} {F : Nat → Int32} {R : Nat → Nat → Int32} (h : mrp S F R) : F 32 = nI (and8 S) := h.2.2.2.2.2.2.1
theorem mrp_H {S : ZA} {F : Nat → Int32} {R : Nat → Nat → Int32} (h : mrp S F R) {j : Nat} (hj : j < (aT S).1) : R 8 j = nI (tq (aT S) 0 j) ∧ R 9 j = nI (tq (aT S) 1 j) ∧ R 10 j = nI (tq (aT S) 2 j) ∧ R 11 j = nI (tq (aT S) 3 j) := h.2.2.2.2.1.2.2.2.2.1 j hj
theorem mrp_D {S : ZA} {F : Nat → Int32} {R : Nat → Nat → Int32} (h : mrp S F R) {j : Nat} (hj : j < (aT S).2.1) : R 12 j = nI (tq (aT S) 4 j) ∧ R 13 j = nI (tq (aT S) 5 j) ∧ R 14 j = nI (tq (aT S) 6 j) ∧ R 15 j = nI (tq (aT S) 7 j) := h.2.2.2.2.1.2.2.2.2.2 j hj
theorem mrp_0 {S : ZA} {F : Nat → Int32} {R : Nat → Nat → Int32} (h : mrp S F R) : F 5 = 0 ↔ (aT S).1 = 0 := by
  rw [mrp_e5 h]; exact nI_e0 (by have := (mrp_tok h).1; omega)
theorem mrp_min {S : ZA} {F : Nat → Int32} {R : Nat → Nat → Int32} (h : mrp S F R) {j : Nat} (h1 : 1 ≤ j) (h2 : j ≤ 60) : mrp (sT S ((aT S).1, (aT S).2.1, j, (aT S).2.2.2)) (upd F 7 (nI j)) R := by
  obtain ⟨⟨a1, a2, a3, a4⟩, b1, b2, b3, ⟨c1, c2, c3, c4, c5⟩, b5⟩ := h
  have t : tok ((aT S).1, (aT S).2.1, j, (aT S).2.2.2) := ⟨a2.1, a2.2.1, h2, a2.2.2.2⟩
  exact ⟨⟨a1, t, fun _ => h1, a4⟩, b1, b2, b3, ⟨t, c2, c3, rfl, c5⟩, b5⟩
theorem mrp_shift {S : ZA} {F : Nat → Int32} {R : Nat → Nat → Int32} (h : mrp S F R) {i v : Nat} (hi : i < (aT S).1) (hv : v ≤ 59) : mrp (sT S ((aT S).1, (aT S).2.1, (aT S).2.2.1, tmv (aT S).2.2.2 i v)) F (ur R 9 (upd (R 9) i (nI v))) := by
  obtain ⟨⟨a1, a2, a3, a4⟩, b1, b2, b3, ⟨c1, c2, c3, c4, c5, c6⟩, b5⟩ := h
  have t : tok ((aT S).1, (aT S).2.1, (aT S).2.2.1, tmv (aT S).2.2.2 i v) := by
    refine ⟨a2.1, a2.2.1, a2.2.2.1, fun h hh => ?_, fun d hd => a2.2.2.2.2 d hd⟩
    have e := a2.2.2.2.1 h hh
    refine ⟨e.1, ?_, e.2.2⟩
    show (if 1 = 1 ∧ h = i then v else tq (aT S) 1 h) ≤ 59
    split
    · exact hv
    · exact e.2.1
  refine ⟨⟨a1, t, a3, a4⟩, b1, b2, b3, ⟨t, c2, c3, c4, fun h hh => ?_, c6⟩, b5⟩
  have e := c5 h hh
  refine ⟨e.1, ?_, e.2.2⟩
  show upd (R 9) i (nI v) h = nI (if 1 = 1 ∧ h = i then v else tq (aT S) 1 h)
  unfold upd
  by_cases hz : h = i
  · rw [if_pos hz, if_pos ⟨rfl, hz⟩]
  · rw [if_neg hz, if_neg (fun z => hz z.2)]; exact e.2.1
theorem mrp_day {S : ZA} {F : Nat → Int32} {R : Nat → Nat → Int32} (h : mrp S F R) {v : Nat} (h8 : and8 S < 8) (hv : v < 64) : mrp (sD S (and8 S + 1) (dput (ady S) (and8 S) v)) (upd F 32 (F 32 + 1)) (ur R 33 (upd (R 33) (and8 S) (nI v))) := by
  obtain ⟨⟨a1, a2, a3, a4, a5⟩, b1, b2, b3, b4, b5, b6, b7⟩ := h
  refine ⟨⟨a1, a2, a3, (by omega : and8 S + 1 ≤ 8), fun j hj => ?_⟩, b1, b2, b3, b4, b5, ?_, fun j hj => ?_⟩
  · have hj2 : j < and8 S + 1 := hj
    show (if j = and8 S then v else ady S j) < 64
    split
    · exact hv
    · exact a5 j (by omega)
  · show F 32 + 1 = nI (and8 S + 1)
    rw [b6, nI_succ]
  · have hj2 : j < and8 S + 1 := hj
    show (if j = and8 S then nI v else R 33 j) = nI (if j = and8 S then v else ady S j)
    split
    · rfl
    · exact b7 j (by omega)
theorem mrp_forget {S : ZA} {F : Nat → Int32} {R : Nat → Nat → Int32} (h : mrp S F R) {k : Nat} (hk : k ≤ and8 S) : mrp (sD S (and8 S - k) (ady S)) (upd F 32 (F 32 - nI k)) R := by
  obtain ⟨⟨a1, a2, a3, a4, a5⟩, b1, b2, b3, b4, b5, b6, b7⟩ := h
  refine ⟨⟨a1, a2, a3, (by omega : and8 S - k ≤ 8), fun j hj => a5 j (Nat.lt_of_lt_of_le hj (Nat.sub_le _ _))⟩, b1, b2, b3, b4, b5, ?_, fun j hj => b7 j (Nat.lt_of_lt_of_le hj (Nat.sub_le _ _))⟩
  show F 32 - nI k = nI (and8 S - k)
  rw [b6, pk_sub hk]
def zrow (r : Nat → Int32) (k i : Nat) : Nat → Int32 := fun c => if 60 * k ≤ c ∧ c < 60 * k + i then 0 else r c
theorem zrow_0 (r : Nat → Int32) (k : Nat) : zrow r k 0 = r := by
  funext c; exact if_neg (by omega)
theorem zrow_s (r : Nat → Int32) (k i : Nat) : upd (zrow r k i) (60 * k + i) 0 = zrow r k (i + 1) := by
  funext c; unfold upd zrow
  by_cases h : c = 60 * k + i
  · rw [if_pos h, if_pos (by omega)]
  · rw [if_neg h]
    by_cases h2 : 60 * k ≤ c ∧ c < 60 * k + i
    · rw [if_pos h2, if_pos (by omega)]
    · rw [if_neg h2, if_neg (by omega)]
theorem zr_s (R : Nat → Nat → Int32) (r : Nat → Int32) (k i : Nat) : ur (ur R 4 (zrow r k i)) 4 (upd (ur R 4 (zrow r k i) 4) (60 * k + i) 0) = ur R 4 (zrow r k (i + 1)) := by
  rw [ur_ur, ur_eq, zrow_s]
theorem mlane_9 {x : Int32} (h : x = -1 ∨ x = 0 ∨ x = 1 ∨ x = 2) : mlane x = -9 ↔ x = -1 := by
  rcases h with rfl | rfl | rfl | rfl <;> decide
theorem mlane_n {x : Int32} (h : ¬ x = -1) : mlane x = x := if_neg h
theorem mrp_sheet {S : ZA} {F : Nat → Int32} {R : Nat → Nat → Int32} (h : mrp S F R) {k n : Nat} {l : Int32} (hk : k < 4) (hn : n ≤ 60) (hl : l = 0 ∨ l = 1 ∨ l = 2) : mrp (sS S (iput (aln S) k l) (iput (asz S) k n) (iput (ace S) k (fun _ => 0))) F (ur (ur (ur R 2 (upd (R 2) k l)) 3 (upd (R 3) k (nI n))) 4 (zrow (R 4) k 60)) := by
  obtain ⟨⟨a1, a2⟩, b1, b2, b3, b4⟩ := h
  have hl1 : ¬ l = -1 := by rcases hl with rfl | rfl | rfl <;> decide
  refine ⟨⟨fun j hj => ?_, a2⟩, b1, b2, fun j hj => ?_, b4⟩
  · show ((if j = k then l else aln S j) = -1 ∨ (if j = k then l else aln S j) = 0 ∨ (if j = k then l else aln S j) = 1 ∨ (if j = k then l else aln S j) = 2) ∧ (if j = k then n else asz S j) ≤ 60 ∧ ((if j = k then l else aln S j) = -1 → (if j = k then n else asz S j) = 0)
    by_cases e : j = k
    · simp only [if_pos e]; exact ⟨Or.inr hl, hn, fun z => absurd z hl1⟩
    · simp only [if_neg e]; exact a1 j hj
  · have e3 := b3 j hj
    show (if j = k then l else R 2 j) = mlane (if j = k then l else aln S j) ∧ (¬ (if j = k then l else aln S j) = -1 → (if j = k then nI n else R 3 j) = nI (if j = k then n else asz S j)) ∧ ∀ i, i < 60 → zrow (R 4) k 60 (60 * j + i) = (if j = k then (fun _ => 0) else ace S j) i
    by_cases e : j = k
    · simp only [if_pos e]
      refine ⟨(mlane_n hl1).symm, fun _ => trivial, fun i hi => ?_⟩
      exact if_pos (by omega)
    · simp only [if_neg e]
      refine ⟨e3.1, e3.2.1, fun i hi => ?_⟩
      rw [← e3.2.2 i hi]
      exact if_neg (by omega)
theorem mrp_lose {S : ZA} {F : Nat → Int32} {R : Nat → Nat → Int32} (h : mrp S F R) {k : Nat} (hk : k < 4) : mrp (sS S (iput (aln S) k (-1)) (iput (asz S) k 0) (ace S)) F (ur R 2 (upd (R 2) k (-9))) := by
  obtain ⟨⟨a1, a2⟩, b1, b2, b3, b4⟩ := h
  refine ⟨⟨fun j hj => ?_, a2⟩, b1, b2, fun j hj => ?_, b4⟩
  · show ((if j = k then (-1 : Int32) else aln S j) = -1 ∨ (if j = k then (-1 : Int32) else aln S j) = 0 ∨ (if j = k then (-1 : Int32) else aln S j) = 1 ∨ (if j = k then (-1 : Int32) else aln S j) = 2) ∧ (if j = k then 0 else asz S j) ≤ 60 ∧ ((if j = k then (-1 : Int32) else aln S j) = -1 → (if j = k then 0 else asz S j) = 0)
    by_cases e : j = k
    · simp only [if_pos e]; exact ⟨Or.inl trivial, by omega, fun _ => trivial⟩
    · simp only [if_neg e]; exact a1 j hj
  · have e3 := b3 j hj
    show (if j = k then (-9 : Int32) else R 2 j) = mlane (if j = k then (-1 : Int32) else aln S j) ∧ (¬ (if j = k then (-1 : Int32) else aln S j) = -1 → R 3 j = nI (if j = k then 0 else asz S j)) ∧ ∀ i, i < 60 → R 4 (60 * j + i) = ace S j i
    by_cases e : j = k
    · simp only [if_pos e]; exact ⟨rfl, fun z => absurd trivial z, e3.2.2⟩
    · simp only [if_neg e]; exact e3
theorem mrp_put {S : ZA} {F : Nat → Int32} {R : Nat → Nat → Int32} (h : mrp S F R) {k i : Nat} {v : Int32} (hk : k < 4) (hi : i < 60) : mrp (sS S (aln S) (asz S) (iput (ace S) k (iput (ace S k) i v))) F (ur R 4 (upd (R 4) (60 * k + i) v)) := by
  obtain ⟨a, b1, b2, b3, b4⟩ := h
  refine ⟨a, b1, b2, fun j hj => ?_, b4⟩
  have e3 := b3 j hj
  refine ⟨e3.1, e3.2.1, fun c hc => ?_⟩
  show (if 60 * j + c = 60 * k + i then v else R 4 (60 * j + c)) = (if j = k then iput (ace S k) i v else ace S j) c
  by_cases e : j = k
  · subst e
    rw [if_pos rfl]
    show _ = if c = i then v else ace S j c
    by_cases e2 : c = i
    · rw [if_pos e2, if_pos (by omega)]
    · rw [if_neg e2, if_neg (by omega)]; exact e3.2.2 c hc
  · rw [if_neg e, if_neg (by omega)]; exact e3.2.2 c hc
theorem sub1_lt {n : Nat} {i : Int32} (hn : n ≤ 60) : (nI n - 1 < i) ↔ nI n ≤ i := by
  rw [Int32.lt_iff_toInt_lt, Int32.le_iff_toInt_le, nI_toInt (by omega)]
  have h := pk_sub_toInt (a := n) (b := 1) (by omega) (by omega)
  have h1 : (nI 1 : Int32) = 1 := rfl
  rw [h1] at h
  rw [h]
  omega
theorem ag_ix {n : Nat} {i : Int32} (hn : n ≤ 60) : (i < 0 ∨ nI n < i ∨ nI n - i < 1) ↔ (i < 0 ∨ nI n ≤ i) := by
  by_cases h0 : i < 0
  · exact ⟨fun _ => Or.inl h0, fun _ => Or.inl h0⟩
  · have hi : 0 ≤ i.toInt := by
      have hh : ¬ i.toInt < (0 : Int32).toInt := fun z => h0 (Int32.lt_iff_toInt_lt.mpr z)
      rw [show (0 : Int32).toInt = 0 by decide] at hh
      omega
    have hs : (nI n - i).toInt = (n : Int) - i.toInt := by
      rw [Int32.toInt_sub, nI_toInt (by omega)]
      have h1 := i.toInt_lt
      exact Int.bmod_eq_of_le (by omega) (by omega)
    simp only [h0, false_or]
    rw [Int32.lt_iff_toInt_lt, Int32.lt_iff_toInt_lt, Int32.le_iff_toInt_le, hs, nI_toInt (by omega), show (1 : Int32).toInt = 1 by decide]
    omega
/-- a copy, so far: q cells, from the last or from the first -/
def crow (r : Nat → Int32) (s d n q : Nat) (ahead : Bool) : Nat → Int32 := fun c => if (if ahead = true then d + (n - q) ≤ c ∧ c < d + n else d ≤ c ∧ c < d + q) then r (s + (c - d)) else r c
theorem crow_0 (r : Nat → Int32) (s d n : Nat) (a : Bool) : crow r s d n 0 a = r := by
  funext c; unfold crow; exact if_neg (by cases a <;> simp <;> omega)
theorem crow_ahead {r : Nat → Int32} {s d n q : Nat} (hq : q < n) (hap : ∀ c c', c < n → c' < n → c < c' → s + c ≠ d + c') : upd (crow r s d n q true) (d + (n - 1 - q)) (crow r s d n q true (s + (n - 1 - q))) = crow r s d n (q + 1) true := by
  have e : crow r s d n q true (s + (n - 1 - q)) = r (s + (n - 1 - q)) := by
    unfold crow
    refine if_neg ?_
    simp only [if_true]
    rintro ⟨h1, h2⟩
    exact hap (n - 1 - q) (s + (n - 1 - q) - d) (by omega) (by omega) (by omega) (by omega)
  rw [e]
  funext c; unfold upd crow
  simp only [if_true]
  by_cases h : c = d + (n - 1 - q)
  · rw [if_pos h, if_pos (by omega), h]; congr 1; omega
  · rw [if_neg h]
    by_cases h2 : d + (n - q) ≤ c ∧ c < d + n
    · rw [if_pos h2, if_pos (by omega)]
    · rw [if_neg h2, if_neg (by omega)]
theorem crow_back {r : Nat → Int32} {s d n q : Nat} (hq : q < n) (hap : ∀ c c', c < n → c' < n → c' < c → s + c ≠ d + c') : upd (crow r s d n q false) (d + q) (crow r s d n q false (s + q)) = crow r s d n (q + 1) false := by
  have e : crow r s d n q false (s + q) = r (s + q) := by
    unfold crow
    refine if_neg ?_
    simp only [Bool.false_eq_true, if_false]
    rintro ⟨h1, h2⟩
    exact hap q (s + q - d) (by omega) (by omega) (by omega) (by omega)
  rw [e]
  funext c; unfold upd crow
  simp only [Bool.false_eq_true, if_false]
  by_cases h : c = d + q
  · rw [if_pos h, if_pos (by omega), h]; congr 1; omega
  · rw [if_neg h]
    by_cases h2 : d ≤ c ∧ c < d + q
    · rw [if_pos h2, if_pos (by omega)]
    · rw [if_neg h2, if_neg (by omega)]
theorem mrp_copy {S : ZA} {F : Nat → Int32} {R : Nat → Nat → Int32} (h : mrp S F R) {k i k2 j n : Nat} {a : Bool} (hk : k < 4) (hk2 : k2 < 4) (h1 : i + n ≤ 60) (h2 : j + n ≤ 60) : mrp (sS S (aln S) (asz S) (iput (ace S) k2 (ccpy (ace S k) (ace S k2) i j n))) F (ur R 4 (crow (R 4) (60 * k + i) (60 * k2 + j) n n a)) := by
  obtain ⟨aa, b1, b2, b3, b4⟩ := h
  refine ⟨aa, b1, b2, fun q hq => ?_, b4⟩
  have e3 := b3 q hq
  refine ⟨e3.1, e3.2.1, fun c hc => ?_⟩
  show crow (R 4) (60 * k + i) (60 * k2 + j) n n a (60 * q + c) = (if q = k2 then ccpy (ace S k) (ace S k2) i j n else ace S q) c
  have hcond : (if a = true then (60 * k2 + j) + (n - n) ≤ 60 * q + c ∧ 60 * q + c < (60 * k2 + j) + n else (60 * k2 + j) ≤ 60 * q + c ∧ 60 * q + c < (60 * k2 + j) + n) ↔ (q = k2 ∧ j ≤ c ∧ c < j + n) := by
    cases a <;> simp <;> omega
  unfold crow
  by_cases e : q = k2 ∧ j ≤ c ∧ c < j + n
  · rw [if_pos (hcond.mpr e), if_pos e.1, ccpy, if_pos e.2, ← (b3 k hk).2.2 _ (by omega)]
    congr 1; obtain ⟨rfl, e1, e2⟩ := e; omega
  · rw [if_neg (fun z => e (hcond.mp z)), e3.2.2 c hc]
    by_cases e2 : q = k2
    · rw [if_pos e2, ccpy, if_neg (fun z => e ⟨e2, z⟩), e2]
    · rw [if_neg e2]
