/-! the LAW -/
def ilw (dy : Nat → Nat) : Nat → Nat → Bool
  | 0, _ => true
  | k + 1, z => ilw dy k z && !(z &&& dy k == z)
def lwA (S : ZA) (z : Nat) : Bool := ilw (ady S) (and8 S) z
def cntN (p : Nat → Bool) : Nat → Nat
  | 0 => 0
  | n + 1 => cntN p n + (if p n = true then 1 else 0)
theorem cntN_le (p : Nat → Bool) : ∀ n, cntN p n ≤ n
  | 0 => Nat.le_refl _
  | n + 1 => by
    have := cntN_le p n
    show cntN p n + (if p n = true then 1 else 0) ≤ n + 1
    split <;> omega
def lawsF (L : Nat → Bool) (k : Int32) : Nat → Nat → Nat → Int32
  | 0, _, c => if k = -1 then nI c else -9
  | n + 1, z, c => if L z = true then (if nI c = k then nI z else lawsF L k n (z + 1) (c + 1)) else lawsF L k n (z + 1) c
def ap_laws (S : ZA) (k : Int32) : Int32 := if k < -1 then -1 else if (aT S).1 = 0 then -3 else lawsF (lwA S) k 64 0 0
def popc : Nat → Nat → Nat
  | 0, _ => 0
  | n + 1, z => z % 2 + popc n (z / 2)
def fbet (z : Nat) (b : Option Nat) : Bool := match b with
  | none => true
  | some y => decide (popc 6 z < popc 6 y)
def fewF (L : Nat → Bool) : Nat → Nat → Option Nat → Option Nat
  | 0, _, b => b
  | n + 1, z, b => fewF L n (z + 1) (if L z = true ∧ fbet z b = true then some z else b)
def ap_few (S : ZA) : Int32 := if (aT S).1 = 0 then -3 else bzv (fewF (lwA S) 64 0 none)
def inC (L : Nat → Bool) (f n : Nat) : Nat := cntN (fun z => L z && (z &&& f == z)) n
def ouC (L : Nat → Bool) (f n : Nat) : Nat := cntN (fun z => L z && !(z &&& f == z)) n
def prt (L : Nat → Bool) (f : Nat) : Nat := if inC L f 64 < ouC L f 64 then inC L f 64 else ouC L f 64
def nxF (C : Nat → Bool) (g : Nat → Nat) : Nat → Nat → Option Nat × Nat → Option Nat × Nat
  | 0, _, s => s
  | n + 1, f, s => nxF C g n (f + 1) (if C f = true ∧ (s.1 = none ∨ s.2 < g f) then (some f, g f) else s)
def ap_next (S : ZA) (what : Int32) : Int32 := if what < 0 ∨ 1 < what then -2 else if (aT S).1 = 0 then -3 else if what = 0 then bzv (nxF (cbe (aT S) (aT S).2.2.1) (prt (lwA S)) 64 0 (none, 0)).1 else nI (nxF (cbe (aT S) (aT S).2.2.1) (prt (lwA S)) 64 0 (none, 0)).2
theorem ilw_mono {dy : Nat → Nat} {z : Nat} : ∀ {n k : Nat}, k < n → z &&& dy k = z → ilw dy n z = false
  | n + 1, k, hk, h => by
    show (ilw dy n z && !(z &&& dy n == z)) = false
    by_cases e : k = n
    · subst e; rw [h]; simp
    · rw [ilw_mono (by omega) h]; simp
theorem popc_le : ∀ {n z : Nat}, popc n z ≤ n
  | 0, _ => Nat.le_refl _
  | n + 1, z => by
    have := popc_le (n := n) (z := z / 2)
    show z % 2 + popc n (z / 2) ≤ n + 1
    omega
theorem prt_le (L : Nat → Bool) (f : Nat) : prt L f ≤ 64 := by
  have h1 := cntN_le (fun z => L z && (z &&& f == z)) 64
  have h2 := cntN_le (fun z => L z && !(z &&& f == z)) 64
  unfold prt inC ouC
  split <;> omega
theorem nI_np {n : Nat} (h : n < 2 ^ 31) : nI n ≤ 0 ↔ n = 0 := by
  rw [show (0 : Int32) = nI 0 from rfl, nI_leI h (by decide)]; omega
theorem nI_a1 {n : Nat} (h : n < 2 ^ 31) : nI n &&& 1 = nI (n % 2) := pk_andN (by omega) 1 (by decide)
theorem nI_s1 {n : Nat} (h : n < 2 ^ 31) : nI n >>> ((1 : Int32) &&& 31) = nI (n / 2) := pk_shrN h _ 1 (by decide)
