/-! the pair that comes up; the rows of a day -/
def ahd (P : ZP) (k : Nat) : Int32 := if pmax P k = 0 then -9 else nI (pmax P k - 1)
theorem pmax_le {P : ZP} (hp : ∀ k, k < P.1 → P.2.1 k ≤ 59) : ∀ {k : Nat}, k ≤ P.1 → pmax P k ≤ 60
  | 0, _ => Nat.zero_le _
  | k + 1, hk => by
    have h1 := pmax_le hp (by omega : k ≤ P.1)
    have h2 := hp k (by omega)
    show max (pmax P k) (P.2.1 k + 1) ≤ 60
    omega
theorem nI_le9 {m : Nat} (hm : m < 2 ^ 31) : ¬ nI m ≤ -9 := by
  intro h
  have h2 := Int32.le_iff_toInt_le.mp h
  rw [nI_toInt hm, show (-9 : Int32).toInt = -9 by decide] at h2
  omega
theorem ahd_le {P : ZP} {k m : Nat} (hk : pmax P k ≤ 60) (hm : m < 60) : (nI m ≤ ahd P k) ↔ ¬ (pmax P k ≤ m) := by
  unfold ahd
  split
  · next h => exact ⟨fun z => absurd z (nI_le9 (by omega)), fun z => absurd (by omega) z⟩
  · next h =>
    rw [nI_leI (by omega) (by omega)]
    omega
theorem ahd_s1 {P : ZP} {k : Nat} (hk : pmax P k ≤ 60) (hm : P.2.1 k ≤ 59) (h : ¬ nI (P.2.1 k) ≤ ahd P k) : nI (P.2.1 k) = ahd P (k + 1) := by
  have h1 : pmax P k ≤ P.2.1 k := Classical.byContradiction fun z => h ((ahd_le hk (by omega)).mpr z)
  have h2 : pmax P (k + 1) = P.2.1 k + 1 := by show max (pmax P k) (P.2.1 k + 1) = _; omega
  rw [ahd, h2, if_neg (by omega)]
  rfl
theorem ahd_s2 {P : ZP} {k : Nat} (hk : pmax P k ≤ 60) (hm : P.2.1 k ≤ 59) (h : nI (P.2.1 k) ≤ ahd P k) : ahd P k = ahd P (k + 1) := by
  have h1 := (ahd_le hk (by omega)).mp h
  have h2 : pmax P (k + 1) = pmax P k := by show max (pmax P k) (P.2.1 k + 1) = _; omega
  rw [ahd, ahd, h2]
def wrow (n : Nat) (r : Nat → Bool) (r0 : Nat → Int32) : Nat → Int32 := fun k => if k < n then (if r k = true then 0 else 1) else r0 k
theorem wrow_0 (r : Nat → Bool) (r0 : Nat → Int32) : wrow 0 r r0 = r0 := by
  funext k; exact if_neg (by omega)
theorem wrow_succ (n : Nat) (r0 : Nat → Int32) : upd (wrow n (fun _ => false) r0) n 1 = wrow (n + 1) (fun _ => false) r0 := by
  funext k; unfold upd wrow
  by_cases h : k = n
  · subst h; simp
  · by_cases h2 : k < n
    · simp [h, h2, show k < n + 1 by omega]
    · simp [h, h2, show ¬ k < n + 1 by omega]
theorem wrow_set {n k0 : Nat} (h0 : k0 < n) (r : Nat → Bool) (r0 : Nat → Int32) : upd (wrow n r r0) k0 0 = wrow n (rset r k0) r0 := by
  funext k; unfold upd wrow rset
  by_cases h : k = k0
  · subst h; rw [if_pos rfl, if_pos h0, if_pos rfl, if_pos rfl]
  · rw [if_neg h, if_neg h]
/-- the other one's DEED: which, and from when on it has its end -/
def oeF (T : ZT) (P : ZP) (wo : Nat) (oth : Option (Nat × Nat)) : Option (Nat × Nat) := match oth with
  | none => none
  | some q => if may T q.2 q.1 (run T P wo none (q.1 + 1)).1 = true then some (q.1 + tq T 7 q.2, q.2) else none
def gbg (T : ZT) (P : ZP) (wo : Nat) (oth : Option (Nat × Nat)) (m : Nat) : Int32 := match oth with
  | none => 0
  | some q => zB (q.1 < m ∧ may T q.2 q.1 (run T P wo none (q.1 + 1)).1 = true)
theorem oeF_lt {T : ZT} {P : ZP} {wo : Nat} {oth : Option (Nat × Nat)} (h : ∀ q, oth = some q → q.2 < T.2.1) : ∀ q, oeF T P wo oth = some q → q.2 < T.2.1 := by
  intro q hq
  unfold oeF at hq
  split at hq
  · cases hq
  · next q2 =>
    split at hq
    · cases hq; exact h q2 rfl
    · cases hq
theorem oeF_run {T : ZT} (ht : tok T) {P : ZP} {wo om od m : Nat} (hd : od < T.2.1) (hm : m ≤ om + 1) : run T P wo (oeF T P wo (some (om, od))) m = run T P wo none m := by
  unfold oeF
  show run T P wo (if may T od om (run T P wo none (om + 1)).1 = true then some (om + tq T 7 od, od) else none) m = _
  split
  · exact run_none (by have := ht.2.2.2.2 od hd; omega)
  · rfl
theorem gbg_0 {T : ZT} {P : ZP} {wo : Nat} {oth : Option (Nat × Nat)} : gbg T P wo oth 0 = 0 := by
  unfold gbg; split
  · rfl
  · exact zB_f (fun z => by omega)
theorem gbg_01 {T : ZT} {P : ZP} {wo : Nat} {oth : Option (Nat × Nat)} {m : Nat} : gbg T P wo oth m = 0 ∨ gbg T P wo oth m = 1 := by
  unfold gbg; split
  · exact Or.inl rfl
  · exact zB_01
theorem prow_pok {T : ZT} {P : ZP} {F : Nat → Int32} {R : Nat → Nat → Int32} (h : prow T P F R) : pok T P := ⟨h.1, fun k hk => ⟨(h.2.2 k hk).2.1, (h.2.2 k hk).2.2.2⟩⟩
theorem dend_none {T : ZT} {wo m : Nat} {s : ZD} (h : s.2.1 = none) : dend T wo m s = (hap T m wo T.1 s.1, none) := by
  unfold dend; rw [h]
theorem dend_on {T : ZT} {wo m d : Nat} {s : ZD} (h : s.2.1 = some d) (h2 : ¬ s.2.2.1 = m) : dend T wo m s = (hap T m wo T.1 s.1, some d) := by
  unfold dend; rw [h]; exact if_neg h2
theorem dend_off {T : ZT} {wo m d : Nat} {s : ZD} (h : s.2.1 = some d) (h2 : s.2.2.1 = m) : dend T wo m s = (den T d (hap T m wo T.1 s.1), none) := by
  unfold dend; rw [h]; exact if_pos h2
theorem dbeg_no {T : ZT} {P : ZP} {m f : Nat} {b : Option Nat} {till : Nat} {r : Nat → Bool} (h : pin P m = none) : dbeg T P m f b till r = (f, b, till, r) := by
  unfold dbeg; rw [h]
theorem dbeg_not {T : ZT} {P : ZP} {m f k : Nat} {b : Option Nat} {till : Nat} {r : Nat → Bool} (h : pin P m = some k) (h2 : ¬ (b = none ∧ may T (P.2.2 k) m f = true)) : dbeg T P m f b till r = (f, b, till, r) := by
  unfold dbeg; rw [h]; exact if_neg h2
theorem dbeg_yes {T : ZT} {P : ZP} {m f k : Nat} {till : Nat} {r : Nat → Bool} (h : pin P m = some k) (h2 : may T (P.2.2 k) m f = true) : dbeg T P m f none till r = (f, some (P.2.2 k), m + tq T 7 (P.2.2 k), rset r k) := by
  unfold dbeg; rw [h]; exact if_pos ⟨rfl, h2⟩
theorem wr_set {n k0 : Nat} (h0 : k0 < n) (R : Nat → Nat → Int32) (r : Nat → Bool) : ur (ur R 24 (wrow n r (R 24))) 24 (upd (ur R 24 (wrow n r (R 24)) 24) k0 0) = ur R 24 (wrow n (rset r k0) (R 24)) := by
  rw [ur_ur, ur_eq, wrow_set h0]
theorem wr_succ (n : Nat) (R : Nat → Nat → Int32) : ur (ur R 24 (wrow n (fun _ => false) (R 24))) 24 (upd (ur R 24 (wrow n (fun _ => false) (R 24)) 24) n 1) = ur R 24 (wrow (n + 1) (fun _ => false) (R 24)) := by
  rw [ur_ur, ur_eq, wrow_succ]
theorem doth_ne {T : ZT} {oe : Option (Nat × Nat)} {m f : Nat} (h : ∀ q, oe = some q → q.1 ≠ m) : doth T oe m f = f := by
  unfold doth; split
  · rfl
  · next q => exact if_neg (h q rfl)
theorem oeF_some {T : ZT} {P : ZP} {wo om od : Nat} (h : may T od om (run T P wo none (om + 1)).1 = true) : oeF T P wo (some (om, od)) = some (om + tq T 7 od, od) := if_pos h
theorem oeF_not {T : ZT} {P : ZP} {wo om od : Nat} (h : ¬ may T od om (run T P wo none (om + 1)).1 = true) : oeF T P wo (some (om, od)) = none := if_neg h
