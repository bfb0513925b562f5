/-! the plain picture of an object: fault, trace; SHEETS: lane (-1: nothing), size, cells; the TUESDAY; DAYS lived -/
abbrev ZA : Type := Int32 × Int32 × (Nat → Int32) × (Nat → Nat) × (Nat → Nat → Int32) × ZT × Nat × (Nat → Nat)
def aft (S : ZA) : Int32 := S.1
def atr (S : ZA) : Int32 := S.2.1
def aln (S : ZA) : Nat → Int32 := S.2.2.1
def asz (S : ZA) : Nat → Nat := S.2.2.2.1
def ace (S : ZA) : Nat → Nat → Int32 := S.2.2.2.2.1
def aT (S : ZA) : ZT := S.2.2.2.2.2.1
def and8 (S : ZA) : Nat := S.2.2.2.2.2.2.1
def ady (S : ZA) : Nat → Nat := S.2.2.2.2.2.2.2
def aok (S : ZA) : Prop := (∀ k, k < 4 → (aln S k = -1 ∨ aln S k = 0 ∨ aln S k = 1 ∨ aln S k = 2) ∧ asz S k ≤ 60 ∧ (aln S k = -1 → asz S k = 0)) ∧ tok (aT S) ∧ (1 ≤ (aT S).1 → 1 ≤ (aT S).2.2.1) ∧ and8 S ≤ 8 ∧ ∀ j, j < and8 S → ady S j < 64
def mlane (x : Int32) : Int32 := if x = -1 then -9 else x
def mrp (S : ZA) (F : Nat → Int32) (R : Nat → Nat → Int32) : Prop := aok S ∧ F 0 = aft S ∧ F 1 = atr S ∧ (∀ k, k < 4 → R 2 k = mlane (aln S k) ∧ (¬ aln S k = -1 → R 3 k = nI (asz S k)) ∧ ∀ i, i < 60 → R 4 (60 * k + i) = ace S k i) ∧ mrep (aT S) F R ∧ F 25 = -9 ∧ F 32 = nI (and8 S) ∧ ∀ j, j < and8 S → R 33 j = nI (ady S j)
/-- with another fault, trace, TUESDAY, DAYS, SHEETS -/
def sf (S : ZA) (v : Int32) : ZA := (v, S.2)
def st_ (S : ZA) (v : Int32) : ZA := (aft S, v, S.2.2)
def sT (S : ZA) (T : ZT) : ZA := (aft S, atr S, aln S, asz S, ace S, T, and8 S, ady S)
def sD (S : ZA) (n : Nat) (d : Nat → Nat) : ZA := (aft S, atr S, aln S, asz S, ace S, aT S, n, d)
def sS (S : ZA) (ln : Nat → Int32) (sz : Nat → Nat) (ce : Nat → Nat → Int32) : ZA := (aft S, atr S, ln, sz, ce, aT S, and8 S, ady S)
theorem mrp_f {S : ZA} {F : Nat → Int32} {R : Nat → Nat → Int32} (h : mrp S F R) (v : Int32) : mrp (sf S v) (upd F 0 v) R := ⟨h.1, rfl, h.2.2⟩
theorem mrp_t {S : ZA} {F : Nat → Int32} {R : Nat → Nat → Int32} (h : mrp S F R) (v : Int32) : mrp (st_ S v) (upd F 1 v) R := ⟨h.1, h.2.1, rfl, h.2.2.2⟩
def mpost (G : ZG) (o : Nat) (ad : Nat → Nat) (X : va_W) (r0 : Int32) (S : ZA) : Option Value → va_W → Prop := zpi (fun r w => r = r0 ∧ ∃ (F : Nat → Int32) (R : Nat → Nat → Int32), w = mw G o ad F R ++ X ∧ mrp S F R)
def mpostL (G : ZG) (o : Nat) (ad : Nat → Nat) (X : va_W) (r0 : Int64) (S : ZA) : Option Value → va_W → Prop := zpl (fun r w => r = r0 ∧ ∃ (F : Nat → Int32) (R : Nat → Nat → Int32), w = mw G o ad F R ++ X ∧ mrp S F R)
theorem mpost_i {G : ZG} {o : Nat} {ad : Nat → Nat} {X : va_W} {r r0 : Int32} {S : ZA} {F : Nat → Int32} {R : Nat → Nat → Int32} (h : r = r0) (hm : mrp S F R) : mpost G o ad X r0 S (some (.int r)) (mw G o ad F R ++ X) := ⟨r, rfl, h, F, R, rfl, hm⟩
theorem mpost_l {G : ZG} {o : Nat} {ad : Nat → Nat} {X : va_W} {r r0 : Int64} {S : ZA} {F : Nat → Int32} {R : Nat → Nat → Int32} (h : r = r0) (hm : mrp S F R) : mpostL G o ad X r0 S (some (.long r)) (mw G o ad F R ++ X) := ⟨r, rfl, h, F, R, rfl, hm⟩
/-- an index between 0 and n - 1 -/
theorem ix_of {x : Int32} {n : Nat} (hn : n < 2 ^ 31) (h0 : ¬ x < 0) (h1 : ¬ nI n ≤ x) : ∃ j, j < n ∧ x = nI j := by
  rcases pk_ix x hn with h | h | h
  · exact absurd h h0
  · exact absurd h h1
  · exact h
theorem ix_le {x : Int32} {n : Nat} (hn : n + 1 < 2 ^ 31) (h0 : ¬ x < 0) (h1 : ¬ nI n < x) : ∃ j, j ≤ n ∧ x = nI j := by
  obtain ⟨j, hj, rfl⟩ := ix_of (n := n + 1) hn h0 (fun z => h1 (by
    rw [nI_succ] at z
    have z2 := Int32.le_iff_toInt_le.mp z
    rw [← nI_succ, nI_toInt hn] at z2
    rw [Int32.lt_iff_toInt_lt, nI_toInt (by omega)]
    omega))
  exact ⟨j, by omega, rfl⟩
theorem nI_cl {n : Nat} (h : n < 2 ^ 31) : (nI n).toNatClampNeg = n := nI_clamp h
/-! what the calls answer -/
def ap_ofH (S : ZA) (h what : Int32) : Int32 := if h < 0 ∨ nI (aT S).1 ≤ h then -1 else if what = 0 then nI (tq (aT S) 0 h.toNatClampNeg) else if what = 1 then nI (tq (aT S) 1 h.toNatClampNeg) else if what = 2 then nI (tq (aT S) 2 h.toNatClampNeg) else if what = 3 then nI (tq (aT S) 3 h.toNatClampNeg) else -2
def ap_ofD (S : ZA) (h what : Int32) : Int32 := if h < 0 ∨ nI (aT S).2.1 ≤ h then -1 else if what = 0 then nI (tq (aT S) 4 h.toNatClampNeg) else if what = 1 then nI (tq (aT S) 5 h.toNatClampNeg) else if what = 2 then nI (tq (aT S) 6 h.toNatClampNeg) else if what = 3 then nI (tq (aT S) 7 h.toNatClampNeg) else -2
def ap_min (S : ZA) (v : Int32) : Int32 × ZA := if v < 1 ∨ 60 < v then (-2, S) else if (aT S).1 = 0 then (-3, S) else (nI (aT S).2.2.1, sT S ((aT S).1, (aT S).2.1, v.toNatClampNeg, (aT S).2.2.2))
def tmv (q : Nat → Nat → Nat) (h v : Nat) : Nat → Nat → Nat := fun a j => if a = 1 ∧ j = h then v else q a j
def ap_shift (S : ZA) (h v : Int32) : Int32 × ZA := if h < 0 ∨ nI (aT S).1 ≤ h then (-1, S) else if v < 0 ∨ 59 < v then (-2, S) else (nI (tq (aT S) 1 h.toNatClampNeg), sT S ((aT S).1, (aT S).2.1, (aT S).2.2.1, tmv (aT S).2.2.2 h.toNatClampNeg v.toNatClampNeg))
def dput (d : Nat → Nat) (k v : Nat) : Nat → Nat := fun j => if j = k then v else d j
def ap_day (S : ZA) (v : Int32) : Int32 × ZA := if v < 0 ∨ 63 < v then (-2, S) else if (aT S).1 = 0 then (-3, S) else if and8 S = 8 then (-4, S) else (nI (and8 S), sD S (and8 S + 1) (dput (ady S) (and8 S) v.toNatClampNeg))
def ap_forget (S : ZA) (k : Int32) : Int32 × ZA := if k < 0 ∨ nI (and8 S) < k then (-2, S) else (nI (and8 S - k.toNatClampNeg), sD S (and8 S - k.toNatClampNeg) (ady S))
def iput {α : Type} (f : Nat → α) (k : Nat) (v : α) : Nat → α := fun j => if j = k then v else f j
def ap_sheet (S : ZA) (k l n : Int32) : Int32 × ZA := if k < 0 ∨ 3 < k then (-1, sf S 0) else if (l < 0 ∨ 2 < l) ∨ 60 < n then (-2, sf S 0) else if n < 0 then (-14, sf S 4) else (1, sS (sf S 0) (iput (aln S) k.toNatClampNeg l) (iput (asz S) k.toNatClampNeg n.toNatClampNeg) (iput (ace S) k.toNatClampNeg (fun _ => 0)))
def ap_lose (S : ZA) (k : Int32) : Int32 × ZA := if k < 0 ∨ 3 < k then (-1, S) else (if aln S k.toNatClampNeg = -1 then 0 else 1, sS S (iput (aln S) k.toNatClampNeg (-1)) (iput (asz S) k.toNatClampNeg 0) (ace S))
def cutv (l v : Int32) : Int32 := if l = 0 then v.toInt8.toInt32 else if l = 1 then v.toInt16.toInt32 else v
def ap_put (S : ZA) (k i v : Int32) : Int32 × ZA := if k < 0 ∨ 3 < k then (-1, sf S 0) else if aln S k.toNatClampNeg = -1 then (-11, sf S 1) else if i < 0 ∨ nI (asz S k.toNatClampNeg) ≤ i then (-13, sf S 3) else (1, sS (sf S 0) (aln S) (asz S) (iput (ace S) k.toNatClampNeg (iput (ace S k.toNatClampNeg) i.toNatClampNeg (cutv (aln S k.toNatClampNeg) v))))
/-- what stands against n cells from i on: 0 nothing -/
def ag (ln : Int32) (sz : Nat) (l i n : Int32) : Int32 := if ¬ ln = -1 ∧ ¬ ln = l then 2 else if ln = -1 then 1 else if n < 0 then 4 else if i < 0 ∨ nI sz < i ∨ nI sz - i < n then 3 else 0
def ap_cell (S : ZA) (k i l : Int32) : Int64 × ZA := if (k < 0 ∨ 3 < k) ∨ (l < 0 ∨ 2 < l) then (-9223372036854775808, sf S 0) else if ag (aln S k.toNatClampNeg) (asz S k.toNatClampNeg) l i 1 = 0 then ((ace S k.toNatClampNeg i.toNatClampNeg).toInt64, sf S 0) else (-9223372036854775808, sf S (ag (aln S k.toNatClampNeg) (asz S k.toNatClampNeg) l i 1))
def ap_tell (S : ZA) (h : Int32) : Int32 × ZA := if h < 0 ∨ nI (aT S).1 ≤ h then (-1, S) else if tq (aT S) 0 h.toNatClampNeg = 0 then (nI (tq (aT S) 1 h.toNatClampNeg), st_ S (31 * atr S + 1)) else if tq (aT S) 0 h.toNatClampNeg = 1 then (nI (tq (aT S) 1 h.toNatClampNeg) + 100, st_ S (31 * (31 * atr S + 2) + 1)) else (2 * nI (tq (aT S) 1 h.toNatClampNeg) + 100, st_ S (31 * (31 * (31 * (31 * atr S + 3) + 2) + 1) + 1))
def ap_rhyme (S : ZA) (h : Int32) : Int32 × ZA := if h < 0 ∨ nI (aT S).1 ≤ h then (-1, S) else if tq (aT S) 0 h.toNatClampNeg = 2 then (40, st_ S (31 * atr S + 5)) else (h, st_ S (31 * atr S + 4))
def ap_as (S : ZA) (h k : Int32) : Int32 × ZA := if h < 0 ∨ nI (aT S).1 ≤ h then (-1, sf S 0) else if k < 0 ∨ 2 < k then (-2, sf S 0) else if k ≤ nI (tq (aT S) 0 h.toNatClampNeg) then (1, sf S 0) else (-12, sf S 2)
def ap_many (S : ZA) (v : Int32) : Int32 := if v = 0 then nI (aT S).1 else if v = 1 then nI (aT S).2.1 else if v = 2 then nI (aT S).2.2.1 else if v = 3 then nI (and8 S) else -2
def ccpy (src dst : Nat → Int32) (i j n : Nat) : Nat → Int32 := fun c => if j ≤ c ∧ c < j + n then src (i + (c - j)) else dst c
def ap_copy (S : ZA) (k i k2 j n : Int32) : Int32 × ZA := if (k < 0 ∨ 3 < k) ∨ (k2 < 0 ∨ 3 < k2) then (-1, sf S 0) else if aln S k.toNatClampNeg = -1 ∨ aln S k2.toNatClampNeg = -1 then (-11, sf S 1) else if ¬ aln S k.toNatClampNeg = aln S k2.toNatClampNeg then (-12, sf S 2) else if (i < 0 ∨ n < 0 ∨ nI (asz S k.toNatClampNeg) < i ∨ nI (asz S k.toNatClampNeg) - i < n) ∨ (j < 0 ∨ nI (asz S k2.toNatClampNeg) < j ∨ nI (asz S k2.toNatClampNeg) - j < n) then (-13, sf S 3) else (n, sS (sf S 0) (aln S) (asz S) (iput (ace S) k2.toNatClampNeg (ccpy (ace S k.toNatClampNeg) (ace S k2.toNatClampNeg) i.toNatClampNeg j.toNatClampNeg n.toNatClampNeg)))
