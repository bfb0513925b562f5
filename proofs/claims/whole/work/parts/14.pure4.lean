/-! ROWS out of SHEETS, and what calls answer of them -/
def rowP (S : ZA) (k i n : Nat) : ZP := (n, fun p => (ace S k (i + 2 * p)).toNatClampNeg, fun p => (ace S k (i + 2 * p + 1)).toNatClampNeg)
def pchk (S : ZA) (k i : Nat) : Nat → Nat → Int32
  | 0, _ => 0
  | n + 1, p => if ace S k (i + 2 * p) < 0 ∨ 59 < ace S k (i + 2 * p) then -2 else if ace S k (i + 2 * p + 1) < 0 ∨ nI (aT S).2.1 ≤ ace S k (i + 2 * p + 1) then -1 else pchk S k i n (p + 1)
/-- what stands against a ROW behind the SHEET and the numbers: refusal, fault -/
def lrow (S : ZA) (k : Nat) (l i : Int32) (n : Nat) : Int32 × Int32 := if ¬ ag (aln S k) (asz S k) l i (nI (2 * n)) = 0 then (-10 - ag (aln S k) (asz S k) l i (nI (2 * n)), ag (aln S k) (asz S k) l i (nI (2 * n))) else if (aT S).1 = 0 then (-3, aft S) else (pchk S k i.toNatClampNeg n 0, aft S)
def trow (S : ZA) (sh l i n : Int32) (fits : Prop) [Decidable fits] : Int32 × Int32 := if sh < 0 ∨ 3 < sh then (-1, 0) else if ((l < 0 ∨ 2 < l) ∨ (n < 0 ∨ 20 < n)) ∨ ¬ fits then (-2, 0) else lrow (sf S 0) sh.toNatClampNeg l i n.toNatClampNeg
theorem ag_fine {ln : Int32} {sz : Nat} {l i : Int32} {m : Nat} (hsz : sz ≤ 60) (hm : m ≤ 1000) (h : ag ln sz l i (nI m) = 0) : ¬ ln = -1 ∧ ln = l ∧ ∃ ii, i = nI ii ∧ ii + m ≤ sz := by
  unfold ag at h
  split at h
  · exact absurd h (by decide)
  · next h1 =>
    split at h
    · exact absurd h (by decide)
    · next h2 =>
      split at h
      · exact absurd h (by decide)
      · next h3 =>
        split at h
        · exact absurd h (by decide)
        · next h4 =>
          refine ⟨h2, Classical.byContradiction fun z => h1 ⟨h2, z⟩, ?_⟩
          obtain ⟨ii, hii, rfl⟩ := ix_le (by omega) (fun z => h4 (Or.inl z)) (fun z => h4 (Or.inr (Or.inl z)))
          refine ⟨ii, rfl, ?_⟩
          have h5 : ¬ nI sz - nI ii < nI m := fun z => h4 (Or.inr (Or.inr z))
          rw [pk_sub hii, nI_ltI (by omega) (by omega)] at h5
          omega
theorem ag_ne9 {ln : Int32} {sz : Nat} {l i n : Int32} : ag ln sz l i n = 0 ∨ ag ln sz l i n = 1 ∨ ag ln sz l i n = 2 ∨ ag ln sz l i n = 3 ∨ ag ln sz l i n = 4 := by
  unfold ag
  split
  · exact Or.inr (Or.inr (Or.inl rfl))
  · split
    · exact Or.inr (Or.inl rfl)
    · split
      · exact Or.inr (Or.inr (Or.inr (Or.inr rfl)))
      · split
        · exact Or.inr (Or.inr (Or.inr (Or.inl rfl)))
        · exact Or.inl rfl
theorem lrow_0 {S : ZA} {k : Nat} {l i : Int32} {n : Nat} (h : (lrow S k l i n).1 = 0) : ag (aln S k) (asz S k) l i (nI (2 * n)) = 0 ∧ ¬ (aT S).1 = 0 ∧ (lrow S k l i n).2 = aft S ∧ pchk S k i.toNatClampNeg n 0 = 0 := by
  unfold lrow at h ⊢
  by_cases h1 : ag (aln S k) (asz S k) l i (nI (2 * n)) = 0
  · rw [if_neg (fun z => z h1)] at h ⊢
    by_cases h2 : (aT S).1 = 0
    · rw [if_pos h2] at h; exact absurd (show (-3 : Int32) = 0 from h) (by decide)
    · rw [if_neg h2] at h ⊢; exact ⟨h1, h2, rfl, h⟩
  · rw [if_pos h1] at h
    rcases ag_ne9 (ln := aln S k) (sz := asz S k) (l := l) (i := i) (n := nI (2 * n)) with e | e | e | e | e <;> rw [e] at h
    · exact absurd e h1
    all_goals exact absurd h (by decide)
theorem pchk_ok {S : ZA} {k i : Nat} : ∀ {n p : Nat}, pchk S k i n p = 0 → ∀ q, p ≤ q → q < p + n → (¬ ace S k (i + 2 * q) < 0 ∧ ¬ 59 < ace S k (i + 2 * q)) ∧ (¬ ace S k (i + 2 * q + 1) < 0 ∧ ¬ nI (aT S).2.1 ≤ ace S k (i + 2 * q + 1))
  | 0, p, _, q, h1, h2 => by omega
  | n + 1, p, h, q, h1, h2 => by
    unfold pchk at h
    split at h
    · exact absurd h (by decide)
    · next c1 =>
      split at h
      · exact absurd h (by decide)
      · next c2 =>
        by_cases e : q = p
        · subst e
          exact ⟨⟨fun z => c1 (Or.inl z), fun z => c1 (Or.inr z)⟩, ⟨fun z => c2 (Or.inl z), fun z => c2 (Or.inr z)⟩⟩
        · exact pchk_ok h q (by omega) (by omega)
/-- a ROW that is taken is one -/
theorem rowP_ok {S : ZA} (ht : tok (aT S)) {k i n : Nat} (hn : n ≤ 20) (h : pchk S k i n 0 = 0) : pok (aT S) (rowP S k i n) ∧ ∀ q, q < n → ace S k (i + 2 * q) = nI ((rowP S k i n).2.1 q) ∧ ace S k (i + 2 * q + 1) = nI ((rowP S k i n).2.2 q) := by
  have hd : (aT S).2.1 ≤ 5 := ht.2.1
  have key : ∀ q, q < n → (∃ a, a ≤ 59 ∧ ace S k (i + 2 * q) = nI a) ∧ ∃ b, b < (aT S).2.1 ∧ ace S k (i + 2 * q + 1) = nI b := fun q hq => by
    have := pchk_ok h q (by omega) (by omega)
    exact ⟨ix_le (by decide) this.1.1 this.1.2, ix_of (by omega) this.2.1 this.2.2⟩
  have val : ∀ q, q < n → ace S k (i + 2 * q) = nI ((rowP S k i n).2.1 q) ∧ ace S k (i + 2 * q + 1) = nI ((rowP S k i n).2.2 q) ∧ (rowP S k i n).2.1 q ≤ 59 ∧ (rowP S k i n).2.2 q < (aT S).2.1 := fun q hq => by
    obtain ⟨⟨a, ha, ea⟩, b, hb, eb⟩ := key q hq
    have e1 : (rowP S k i n).2.1 q = a := by show (ace S k (i + 2 * q)).toNatClampNeg = a; rw [ea, nI_cl (by omega)]
    have e2 : (rowP S k i n).2.2 q = b := by show (ace S k (i + 2 * q + 1)).toNatClampNeg = b; rw [eb, nI_cl (by omega)]
    rw [e1, e2]
    exact ⟨ea, eb, ha, hb⟩
  exact ⟨⟨hn, fun q hq => ⟨(val q hq).2.2.1, (val q hq).2.2.2⟩⟩, fun q hq => ⟨(val q hq).1, (val q hq).2.1⟩⟩
def endA (T : ZT) (P : ZP) (wo : Nat) : Nat := (run T P wo none T.2.2.1).1
def ffw (r : Nat → Bool) : Nat → Nat → Int32
  | 0, _ => -9
  | n + 1, k => if r k = true then ffw r n (k + 1) else nI k
def apR (S : ZA) (sh i n : Int32) : ZP := rowP S sh.toNatClampNeg i.toNatClampNeg n.toNatClampNeg
def ap_live (S : ZA) (sh l i n what : Int32) : Int32 × ZA := if ¬ (trow S sh l i n (¬ what < 0 ∧ ¬ 1 < what)).1 = 0 then ((trow S sh l i n (¬ what < 0 ∧ ¬ 1 < what)).1, sf S (trow S sh l i n (¬ what < 0 ∧ ¬ 1 < what)).2) else if what = 1 then (nI (endA (aT S) (apR S sh i n) 0), sf S 0) else (ffw (run (aT S) (apR S sh i n) 0 none (aT S).2.2.1).2.2.2 n.toNatClampNeg 0, sf S 0)
def ap_at (S : ZA) (m sh l i n : Int32) : Int32 × ZA := if ¬ (trow S sh l i n (¬ m < 0 ∧ ¬ 59 < m)).1 = 0 then ((trow S sh l i n (¬ m < 0 ∧ ¬ 59 < m)).1, sf S (trow S sh l i n (¬ m < 0 ∧ ¬ 59 < m)).2) else (nI (run (aT S) (apR S sh i n) 0 none (min (aT S).2.2.1 (m.toNatClampNeg + 1))).1, sf S 0)
def hgs (T : ZT) (P : ZP) : Nat → Nat
  | 0 => 0
  | h + 1 => hgs T P h ||| (if endA T P (2 ^ h) = endA T P 0 then 0 else 2 ^ h)
def ap_hangs (S : ZA) (sh l i n : Int32) : Int32 × ZA := if ¬ (trow S sh l i n True).1 = 0 then ((trow S sh l i n True).1, sf S (trow S sh l i n True).2) else (nI (hgs (aT S) (apR S sh i n) (aT S).1), sf S 0)
/-- the other one's DEED d, begun in MINUTE m: whether it is, and the ROW ENDS in the set -/
def oth1 (T : ZT) (P : ZP) (set m d : Nat) : Bool := may T d m (run T P 0 none (m + 1)).1 && (run T P 0 (some (m + tq T 7 d, d)) T.2.2.1).1 == set
def ostp (T : ZT) (P : ZP) (set : Nat) (k : Int32) (m d : Nat) (s : Nat × Int32) : Nat × Int32 := if oth1 T P set m d = true then (s.1 + 1, if nI s.1 = k then nI (10 * m + d) else s.2) else s
def olpD (T : ZT) (P : ZP) (set : Nat) (k : Int32) (m : Nat) : Nat → Nat × Int32 → Nat × Int32
  | 0, s => s
  | d + 1, s => ostp T P set k m d (olpD T P set k m d s)
def olpM (T : ZT) (P : ZP) (set : Nat) (k : Int32) : Nat → Nat × Int32
  | 0 => (0, -9)
  | m + 1 => olpD T P set k m T.2.1 (olpM T P set k m)
def ap_others (S : ZA) (set k sh l i n : Int32) : Int32 × ZA := if k < -1 then (-1, sf S 0) else if ¬ (trow S sh l i n (¬ set < 0 ∧ ¬ 63 < set)).1 = 0 then ((trow S sh l i n (¬ set < 0 ∧ ¬ 63 < set)).1, sf S (trow S sh l i n (¬ set < 0 ∧ ¬ 63 < set)).2) else (if k = -1 then nI (olpM (aT S) (apR S sh i n) set.toNatClampNeg k (aT S).2.2.1).1 else (olpM (aT S) (apR S sh i n) set.toNatClampNeg k (aT S).2.2.1).2, sf S 0)
def ctw (T : ZT) (P : ZP) (set : Nat) : Nat → Nat
  | 0 => 0
  | w + 1 => ctw T P set w + (if set &&& endA T P w = set then 1 else 0)
theorem ctw_le (T : ZT) (P : ZP) (set : Nat) : ∀ w, ctw T P set w ≤ w
  | 0 => Nat.le_refl _
  | w + 1 => by
    have := ctw_le T P set w
    show ctw T P set w + (if set &&& endA T P w = set then 1 else 0) ≤ w + 1
    split <;> omega
def ap_odds (S : ZA) (set sh l i n which : Int32) : Int64 × ZA := if ¬ (trow S sh l i n ((¬ set < 0 ∧ ¬ 63 < set) ∧ (¬ which < 0 ∧ ¬ 1 < which))).1 = 0 then (-9223372036854775808, sf S (trow S sh l i n ((¬ set < 0 ∧ ¬ 63 < set) ∧ (¬ which < 0 ∧ ¬ 1 < which))).2) else (if which = 0 then lN (ctw (aT S) (apR S sh i n) set.toNatClampNeg (2 ^ (aT S).1) / Nat.gcd (ctw (aT S) (apR S sh i n) set.toNatClampNeg (2 ^ (aT S).1)) (2 ^ (aT S).1)) else lN (2 ^ (aT S).1 / Nat.gcd (ctw (aT S) (apR S sh i n) set.toNatClampNeg (2 ^ (aT S).1)) (2 ^ (aT S).1)), sf S 0)
theorem q_shl1 : ∀ h, h < 7 → (1 : Int32) <<< (nI h &&& 31) = nI (2 ^ h) := by decide +kernel
theorem q_shl1L : ∀ h, h < 7 → (1 : Int64) <<< ((nI h).toInt64 &&& 63) = lN (2 ^ h) := by decide +kernel
theorem q_orN : ∀ a, a < 64 → ∀ b, b < 64 → nI a ||| nI b = nI (a ||| b) := by decide +kernel
theorem q_sub0 : ∀ a, a < 64 → ∀ b, b < 64 → (decide (nI a &&& (nI b ^^^ (-1)) = 0)) = (a &&& b == a) := by decide +kernel
theorem q_subI {a b : Nat} (ha : a < 64) (hb : b < 64) : nI a &&& (nI b ^^^ (-1)) = 0 ↔ a &&& b = a := by
  have h := q_sub0 a ha b hb
  constructor
  · intro z; rw [decide_eq_true z] at h; exact beq_iff_eq.mp h.symm
  · intro z; rw [beq_iff_eq.mpr z] at h; exact of_decide_eq_true h
theorem hgs64 {T : ZT} {P : ZP} : ∀ {h : Nat}, h ≤ 6 → hgs T P h < 2 ^ h
  | 0, _ => Nat.one_pos
  | h + 1, hh => by
    have h1 := hgs64 (T := T) (P := P) (by omega : h ≤ 6)
    show hgs T P h ||| (if endA T P (2 ^ h) = endA T P 0 then 0 else 2 ^ h) < 2 ^ (h + 1)
    have hp : 2 ^ h < 2 ^ (h + 1) := Nat.pow_lt_pow_right (by decide) (by omega)
    refine Nat.or_lt_two_pow (Nat.lt_trans h1 hp) ?_
    split
    · exact Nat.pow_pos (by decide)
    · exact hp
theorem run_end_lt {T : ZT} (ht : tok T) {P : ZP} (hp : pok T P) {wo : Nat} : endA T P wo < 64 := (run_ok ht hp (by intro q hq; cases hq) ht.2.2.1).1
