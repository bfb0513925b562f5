/-! a TEXT: codes c, n of them -/
def dg (c : Nat → Int32) (n p lo hi : Nat) : Option Nat := if p < n ∧ ¬ c p < nI (48 + lo) ∧ ¬ nI (48 + hi) < c p then some ((c p).toNatClampNeg - 48) else none
def sgn (c : Nat → Int32) (n p : Nat) (k : Int32) : Prop := p < n ∧ c p = k
def kdO (c : Nat → Int32) (n p : Nat) : Option Nat := if p < n then (if c p = 104 then some 0 else if c p = 109 then some 1 else if c p = 99 then some 2 else none) else none
def rdH (c : Nat → Int32) (n p : Nat) : Nat × Option (Nat × Nat × Nat × Nat) := match kdO c n p with
  | none => (p, none)
  | some k => match dg c n (p + 1) 0 5 with
    | none => (p + 1, none)
    | some a => match dg c n (p + 2) 0 9 with
      | none => (p + 2, none)
      | some b => match dg c n (p + 3) 0 6 with
        | none => (p + 3, none)
        | some e => match dg c n (p + 4) 0 5 with
          | none => (p + 4, none)
          | some f => (p + 5, some (k, 10 * a + b, e, f))
def dlo (k : Nat) : Nat := if k = 3 then 1 else 0
def dhi (k : Nat) : Nat := if k = 1 then 5 else if k = 3 then 9 else 6
def rdD (c : Nat → Int32) (n p : Nat) : Nat × Option (Nat × Nat × Nat × Nat) := match dg c n p 0 6 with
  | none => (p, none)
  | some a => match dg c n (p + 1) 0 5 with
    | none => (p + 1, none)
    | some b => match dg c n (p + 2) 0 6 with
      | none => (p + 2, none)
      | some e => match dg c n (p + 3) 1 9 with
        | none => (p + 3, none)
        | some f => (p + 4, some (a, b, e, f))
def put4 (q : Nat → Nat → Nat) (a h : Nat) (x : Nat × Nat × Nat × Nat) : Nat → Nat → Nat := fun b j => if j = h then (if b = a then x.1 else if b = a + 1 then x.2.1 else if b = a + 2 then x.2.2.1 else if b = a + 3 then x.2.2.2 else q b j) else q b j
def pH (c : Nat → Int32) (n : Nat) : Nat → Nat → Nat → (Nat → Nat → Nat) → Nat × Option (Nat × (Nat → Nat → Nat))
  | 0, p, nh, q => (p, some (nh, q))
  | k + 1, p, nh, q => if p < n ∧ c p = 59 then (match rdH c n (p + 1) with
    | (p1, none) => (p1, none)
    | (p1, some x) => pH c n k p1 (nh + 1) (put4 q 0 nh x)) else (p, some (nh, q))
def pD (c : Nat → Int32) (n : Nat) : Nat → Nat → Nat → (Nat → Nat → Nat) → Nat × Option (Nat × (Nat → Nat → Nat))
  | 0, p, nd, q => (p, some (nd, q))
  | k + 1, p, nd, q => if p < n ∧ c p = 44 then (match rdD c n (p + 1) with
    | (p1, none) => (p1, none)
    | (p1, some x) => pD c n k p1 (nd + 1) (put4 q 4 nd x)) else (p, some (nd, q))
/-- behind the HAPPENINGS -/
def prD (c : Nat → Int32) (n : Nat) (r : Nat × Option (Nat × (Nat → Nat → Nat))) : Nat × Option (Nat × Nat × (Nat → Nat → Nat)) := match r with
  | (p, none) => (p, none)
  | (p, some (nh, q)) => match pD c n 5 p 0 q with
    | (p1, none) => (p1, none)
    | (p1, some (nd, q1)) => if p1 = n then (p1, some (nh, nd, q1)) else (p1, none)
def prs (c : Nat → Int32) (n : Nat) : Nat × Option (Nat × Nat × (Nat → Nat → Nat)) := if ¬ (0 < n ∧ c 0 = 115) then (0, none) else if ¬ (1 < n ∧ c 1 = 59) then (1, none) else match rdH c n 2 with
  | (p, none) => (p, none)
  | (p, some x) => prD c n (pH c n 5 p 1 (put4 (fun _ _ => 0) 0 0 x))
theorem dg_some {c : Nat → Int32} {n p lo hi x : Nat} (hl : lo ≤ 9) (hh : hi ≤ 9) (h : dg c n p lo hi = some x) : p < n ∧ c p = nI (48 + x) ∧ lo ≤ x ∧ x ≤ hi := by
  unfold dg at h
  split at h
  · next hc =>
    obtain ⟨h1, h2, h3⟩ := hc
    obtain ⟨j, hj, ej⟩ := ix_le (x := c p) (n := 48 + hi) (by omega) (fun z => h2 (by
      rw [Int32.lt_iff_toInt_lt] at z ⊢
      rw [show (0 : Int32).toInt = 0 by decide] at z
      rw [nI_toInt (by omega)]; omega)) h3
    cases h
    rw [ej] at h2 ⊢
    rw [nI_cl (by omega)]
    have h4 : ¬ j < 48 + lo := fun z => h2 (nI_lt z (by omega))
    exact ⟨h1, by congr 1; omega, by omega, by omega⟩
  · cases h
def adv (F : Nat → Int32) (q : Nat) (o : Option Nat) : Nat → Int32 := match o with
  | none => F
  | some _ => upd F 16 (nI (q + 1))
