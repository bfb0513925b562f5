theorem bi_or (x y : Bool) : bi x ||| bi y = bi (x || y) := by cases x <;> cases y <;> decide
def ap_can (S : ZA) (m set : Int32) : Int32 := if (m < 0 ∨ 59 < m) ∨ (set < 0 ∨ 63 < set) then -2 else if (aT S).1 = 0 then -3 else bi (cbe (aT S) (min (aT S).2.2.1 (m.toNatClampNeg + 1)) set.toNatClampNeg)
def soonF (T : ZT) (z : Nat) : Nat → Nat → Int32
  | 0, _ => -9
  | n + 1, m => if wone (cbe T (m + 1)) z 64 = true then nI m else soonF T z n (m + 1)
def ap_soon (S : ZA) (set : Int32) : Int32 := if set < 0 ∨ 63 < set then -2 else if (aT S).1 = 0 then -3 else soonF (aT S) set.toNatClampNeg (aT S).2.2.1 0
def both2 (a b : Nat) : Nat := 2 ^ a ||| 2 ^ b
def barI (C : Nat → Bool) (z a : Nat) : Nat → Nat → Option Int32
  | 0, _ => none
  | n + 1, b => if z &&& both2 a b = both2 a b ∧ wone C (both2 a b) 64 = false then some (nI (10 * a + b)) else barI C z a n (b + 1)
def barO (C : Nat → Bool) (z : Nat) : Nat → Nat → Int32
  | 0, _ => -9
  | n + 1, a => match barI C z a (5 - a) (a + 1) with
    | some v => v
    | none => barO C z n (a + 1)
def ap_bar (S : ZA) (set : Int32) : Int32 := if set < 0 ∨ 63 < set then -2 else if (aT S).1 = 0 then -3 else barO (cbe (aT S) (aT S).2.2.1) set.toNatClampNeg 6 0
theorem anyN_true {B : Nat → Bool} : ∀ {n j : Nat}, j < n → B j = true → anyN B n = true
  | n + 1, j, hj, h => by
    show (anyN B n || B n) = true
    by_cases e : j = n
    · subst e; rw [h]; simp
    · rw [anyN_true (by omega) h]; simp
theorem q_both : ∀ a, a < 6 → ∀ b, b < 6 → ((1 : Int32) <<< (nI a &&& 31)) ||| ((1 : Int32) <<< (nI b &&& 31)) = nI (both2 a b) := by decide +kernel
theorem q_both64 : ∀ a, a < 6 → ∀ b, b < 6 → both2 a b < 64 := by decide +kernel
theorem q_andN : ∀ a, a < 64 → ∀ b, b < 64 → nI a &&& nI b = nI (a &&& b) := by decide +kernel
theorem hQ_at (T : ZT) (m : Nat) (Q : Nat → Nat → Bool) (n : Nat) : hQ T m Q n n = Q n := if_neg (by omega)
