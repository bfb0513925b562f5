/-! days lived by the class: what is kept, and complements -/
theorem trow_z {S : ZA} {sh l i n : Int32} {fits : Prop} [Decidable fits] (h : (trow S sh l i n fits).1 = 0) : (trow S sh l i n fits).2 = 0 ∧ ¬ (aT S).1 = 0 ∧ fits := by
  unfold trow at h ⊢
  split at h
  · exact absurd h (by decide)
  · next h1 =>
    rw [if_neg h1]
    split at h
    · exact absurd h (by decide)
    · next h2 =>
      rw [if_neg h2]
      have z := lrow_0 h
      exact ⟨z.2.2.1, z.2.1, Classical.byContradiction fun y => h2 (Or.inr y)⟩
/-- what a call of factsAt leaves, without another one -/
theorem fa_crp {G : ZG} {ad : Nat → Nat} {S : ZA} {hA dA : Nat → Nat} {I : Nat → Int32} {L : Nat → Int64} {QH QD : Nat → Option Nat} {RI : Nat → Nat → Int32} {RL : Nat → Nat → Int64} {X : va_W} {P : ZP} {wo M : Nat} {r : Int32} {w : va_W} (hm : crp S hA dA I L QH QD RI RL) (hp : cprow (aT S) P I RI)
  (h : r = nI (run (aT S) P wo ((none : Option Nat).map fun d => (0, d)) M).1 ∧ ∃ (v : Int32) (j : Nat) (a : Nat → Int64) (g2 : Option Nat), w = cw G ad (li I v j (ffw (run (aT S) P wo ((none : Option Nat).map fun d => (0, d)) M).2.2.2 P.1 0)) (vp_updL L 1 (one (run (aT S) P wo ((none : Option Nat).map fun d => (0, d)) M).1)) g2 ((none : Option Nat).map dA) QH QD RI (urL RL 0 a) ++ pw hA dA (aT S) X ∧ ((none : Option Nat) = none → ∀ q, q < M → a q = one (run (aT S) P wo ((none : Option Nat).map fun d => (0, d)) (q + 1)).1) ∧ (∀ d, (none : Option Nat) = some d → a = RL 0)) :
  r = nI (run (aT S) P wo none M).1 ∧ ∃ (I2 : Nat → Int32) (L2 : Nat → Int64) (g2 : Option Nat) (RL2 : Nat → Nat → Int64), w = cw G ad I2 L2 g2 none QH QD RI RL2 ++ pw hA dA (aT S) X ∧ crp S hA dA I2 L2 QH QD RI RL2 ∧ cprow (aT S) P I2 RI ∧ I2 15 = ffw (run (aT S) P wo none M).2.2.2 P.1 0 ∧ ∀ q, q < M → RL2 0 q = one (run (aT S) P wo none (q + 1)).1 := by
  obtain ⟨h1, v, j, a, g2, hw, ha, -⟩ := h
  exact ⟨h1, _, _, g2, _, hw, crp_any hm (fun b hb => li_far (by omega)) (fun k hk => rfl) rfl rfl, ⟨hp.1, (li_far (by omega)).trans hp.2.1, hp.2.2⟩, rfl, ha rfl⟩
theorem th_0 : ∀ h, h < 6 → (63 : Nat).testBit h = !(0 : Nat).testBit h := by decide +kernel
theorem q_out : ∀ h, h < 6 → (63 : Int32) &&& (((1 : Int32) <<< (nI h &&& 31)) ^^^ (-1)) = nI (63 - 2 ^ h) := by decide +kernel
theorem th_h : ∀ h, h < 6 → ∀ i, i < 6 → (63 - 2 ^ h).testBit i = !(2 ^ h).testBit i := by decide +kernel
theorem th_c : ∀ t, t < 64 → ∀ i, i < 6 → t.testBit i = !(63 - t).testBit i := by decide +kernel
theorem hap_bits {T : ZT} {m w1 w2 : Nat} : ∀ {n f : Nat}, (∀ h, h < n → w1.testBit h = w2.testBit h) → hap T m w1 n f = hap T m w2 n f
  | 0, _, _ => rfl
  | n + 1, f, h => by
    show hp1 T m w1 n (hap T m w1 n f) = hp1 T m w2 n (hap T m w2 n f)
    rw [hap_bits (fun i hi => h i (by omega)), hp1, hp1, h n (by omega)]
theorem run_bits {T : ZT} {P : ZP} {w1 w2 : Nat} {oe : Option (Nat × Nat)} (h : ∀ i, i < T.1 → w1.testBit i = w2.testBit i) : ∀ m, run T P w1 oe m = run T P w2 oe m
  | 0 => rfl
  | m + 1 => by
    show dstep T P w1 oe m (run T P w1 oe m) = dstep T P w2 oe m (run T P w2 oe m)
    rw [run_bits h m]
    have e : dend T w1 m (run T P w2 oe m) = dend T w2 m (run T P w2 oe m) := by
      unfold dend
      rw [hap_bits h]
    rw [dstep, dstep, e]
theorem endA_bits {T : ZT} {P : ZP} {w1 w2 : Nat} (h : ∀ i, i < T.1 → w1.testBit i = w2.testBit i) : endA T P w1 = endA T P w2 := by
  rw [endA, endA, run_bits h]
theorem cb_bits : ∀ n, n < 7 → ∀ t, t < 2 ^ n → ∀ i, i < n → (63 - t).testBit i = (2 ^ n - 1 - t).testBit i := by decide +kernel
theorem cntN_sh2 (p : Nat → Bool) : ∀ n, cntN p (n + 1) = (if p 0 = true then 1 else 0) + cntN (fun i => p (i + 1)) n
  | 0 => by
    show 0 + (if p 0 = true then 1 else 0) = (if p 0 = true then 1 else 0) + 0
    omega
  | n + 1 => by
    show cntN p (n + 1) + (if p (n + 1) = true then 1 else 0) = (if p 0 = true then 1 else 0) + (cntN (fun i => p (i + 1)) n + (if p (n + 1) = true then 1 else 0))
    rw [cntN_sh2 p n]; omega
theorem cntN_rev (p : Nat → Bool) : ∀ n, cntN (fun i => p (n - 1 - i)) n = cntN p n
  | 0 => rfl
  | n + 1 => by
    rw [cntN_sh2, show cntN p (n + 1) = cntN p n + (if p n = true then 1 else 0) from rfl, ← cntN_rev p n]
    rw [show (fun i => p (n + 1 - 1 - (i + 1))) = (fun i => p (n - 1 - i)) from funext fun i => by rw [show n + 1 - 1 - (i + 1) = n - 1 - i by omega]]
    show (if p (n + 1 - 1 - 0) = true then 1 else 0) + _ = _
    rw [show n + 1 - 1 - 0 = n by omega]; omega
def wyE (T : ZT) (P : ZP) (set t : Nat) : Bool := endA T P (63 - t) &&& set == set
theorem ctw_cnt {T : ZT} {P : ZP} {set : Nat} : ∀ n, ctw T P set n = cntN (fun w => endA T P w &&& set == set) n
  | 0 => rfl
  | n + 1 => by
    show ctw T P set n + (if set &&& endA T P n = set then 1 else 0) = cntN _ n + (if (endA T P n &&& set == set) = true then 1 else 0)
    rw [ctw_cnt n, Nat.and_comm]
    simp
theorem ctw_rev {T : ZT} {P : ZP} {set : Nat} (h6 : T.1 ≤ 6) : cntN (wyE T P set) (2 ^ T.1) = ctw T P set (2 ^ T.1) := by
  rw [ctw_cnt, ← cntN_rev (fun w => endA T P w &&& set == set)]
  refine cntN_congr (fun t ht => ?_)
  show (endA T P (63 - t) &&& set == set) = (endA T P (2 ^ T.1 - 1 - t) &&& set == set)
  rw [endA_bits (cb_bits T.1 (by omega) t ht)]
