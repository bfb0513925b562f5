/-! the ROW as the class lives it: the next pair, FIRST WRONG so far -/
def fst_ (P : ZP) (m : Nat) : Nat → Nat → Nat
  | 0, k => k
  | n + 1, k => if P.2.1 k < m then fst_ P m n (k + 1) else k
def npx (P : ZP) (m : Nat) : Nat := fst_ P m P.1 0
theorem fst_rng {P : ZP} {m : Nat} : ∀ {n k : Nat}, k ≤ fst_ P m n k ∧ fst_ P m n k ≤ k + n
  | 0, k => ⟨Nat.le_refl _, Nat.le_refl _⟩
  | n + 1, k => by
    have h := fst_rng (P := P) (m := m) (n := n) (k := k + 1)
    unfold fst_
    split
    · exact ⟨by omega, by omega⟩
    · exact ⟨Nat.le_refl _, by omega⟩
theorem fst_stop {P : ZP} {m : Nat} : ∀ {n k : Nat}, fst_ P m n k < k + n → m ≤ P.2.1 (fst_ P m n k)
  | 0, k, h => by have := (fst_rng (P := P) (m := m) (n := 0) (k := k)).1; omega
  | n + 1, k, h => by
    unfold fst_ at h ⊢
    split
    · next h1 => rw [if_pos h1] at h; exact fst_stop (by omega)
    · next h1 => omega
theorem fst_zero {P : ZP} : ∀ {n k : Nat}, fst_ P 0 n k = k
  | 0, k => rfl
  | n + 1, k => if_neg (Nat.not_lt_zero _)
theorem fst_next (P : ZP) (m : Nat) : ∀ n k, fst_ P (m + 1) n k = fst_ P (m + 1) (k + n - fst_ P m n k) (fst_ P m n k)
  | 0, k => by
    show k = fst_ P (m + 1) (k + 0 - k) k
    rw [show k + 0 - k = 0 by omega]; rfl
  | n + 1, k => by
    by_cases h : P.2.1 k < m
    · have e1 : fst_ P m (n + 1) k = fst_ P m n (k + 1) := if_pos h
      have e2 : fst_ P (m + 1) (n + 1) k = fst_ P (m + 1) n (k + 1) := if_pos (by omega)
      rw [e1, e2, fst_next P m n (k + 1), show k + 1 + n = k + (n + 1) by omega]
    · have e1 : fst_ P m (n + 1) k = k := if_neg h
      rw [e1, show k + (n + 1) - k = n + 1 by omega]
theorem npx_le {P : ZP} {m : Nat} : npx P m ≤ P.1 := by have := (fst_rng (P := P) (m := m) (n := P.1) (k := 0)).2; rw [npx]; omega
theorem npx_next (P : ZP) (m : Nat) : npx P (m + 1) = fst_ P (m + 1) (P.1 - npx P m) (npx P m) := by
  rw [npx, fst_next P m P.1 0, Nat.zero_add]; rfl
theorem npx_stop {P : ZP} {m : Nat} (h : npx P m < P.1) : m ≤ P.2.1 (npx P m) := fst_stop (by rw [Nat.zero_add]; exact h)
theorem npx_0 (P : ZP) : npx P 0 = 0 := fst_zero
theorem npx_mono {P : ZP} {m : Nat} : npx P m ≤ npx P (m + 1) := by rw [npx_next]; exact fst_rng.1
theorem np_end {P : ZP} {m : Nat} (h : npx P m = P.1) : npx P (m + 1) = P.1 := by have := npx_mono (P := P) (m := m); have := npx_le (P := P) (m := m + 1); omega
theorem np_stay {P : ZP} {m : Nat} (h : npx P m < P.1) (h2 : m < P.2.1 (npx P m)) : npx P (m + 1) = npx P m := by
  rw [npx_next, show P.1 - npx P m = (P.1 - (npx P m + 1)) + 1 by omega]
  exact if_neg (by omega)
theorem np_at {P : ZP} {m : Nat} (h : npx P m < P.1) (h2 : P.2.1 (npx P m) = m) : fst_ P (m + 1) (P.1 - (npx P m + 1)) (npx P m + 1) = npx P (m + 1) := by
  rw [npx_next P m, show P.1 - npx P m = (P.1 - (npx P m + 1)) + 1 by omega]
  exact (if_pos (by omega)).symm
theorem pinF_no {P : ZP} {m : Nat} : ∀ {n k : Nat}, m < pmax P k → pinF P m n k = none
  | 0, _, _ => rfl
  | n + 1, k, h => by
    unfold pinF
    rw [if_neg (fun z => by omega)]
    exact pinF_no (by show m < max (pmax P k) (P.2.1 k + 1); omega)
theorem pinF_eq {P : ZP} {m : Nat} : ∀ {n k : Nat}, pmax P k ≤ m → pinF P m n k = if fst_ P m n k < k + n ∧ P.2.1 (fst_ P m n k) = m then some (fst_ P m n k) else none
  | 0, k, h => (if_neg (fun z => by have := z.1; have := (fst_rng (P := P) (m := m) (n := 0) (k := k)).1; omega)).symm
  | n + 1, k, h => by
    unfold pinF fst_
    by_cases h1 : P.2.1 k < m
    · rw [if_neg (fun z => by omega), if_pos h1, pinF_eq (n := n) (k := k + 1) (by show max (pmax P k) (P.2.1 k + 1) ≤ m; omega), show k + 1 + n = k + (n + 1) by omega]
    · rw [if_neg h1]
      by_cases h2 : P.2.1 k = m
      · rw [if_pos ⟨h2, h⟩, if_pos ⟨by omega, h2⟩]
      · rw [if_neg (fun z => h2 z.1), if_neg (fun z => h2 z.2)]
        exact pinF_no (by show m < max (pmax P k) (P.2.1 k + 1); omega)
theorem pin_eq (P : ZP) (m : Nat) : pin P m = if npx P m < P.1 ∧ P.2.1 (npx P m) = m then some (npx P m) else none := by
  rw [pin, pinF_eq (Nat.zero_le _), Nat.zero_add]; rfl
theorem pin_no1 {P : ZP} {m : Nat} (h : npx P m = P.1) : pin P m = none := by rw [pin_eq, if_neg (fun z => by omega)]
theorem pin_no2 {P : ZP} {m : Nat} (h : m < P.2.1 (npx P m)) : pin P m = none := by rw [pin_eq, if_neg (fun z => by omega)]
theorem pin_yes {P : ZP} {m : Nat} (h : npx P m < P.1) (h2 : P.2.1 (npx P m) = m) : pin P m = some (npx P m) := by rw [pin_eq, if_pos ⟨h, h2⟩]
theorem nI_n9b {k : Nat} (h : k < 2 ^ 31) : ¬ nI k = -9 := fun z => nI_nn h (by rw [z]; decide)
theorem ffw_s (r : Nat → Bool) : ∀ n k, k + n < 2 ^ 31 → ffw r (n + 1) k = if ffw r n k = -9 then (if r (k + n) = true then -9 else nI (k + n)) else ffw r n k
  | 0, k, _ => by
    show (if r k = true then (-9 : Int32) else nI k) = if (-9 : Int32) = -9 then (if r (k + 0) = true then -9 else nI (k + 0)) else -9
    rw [if_pos rfl]; rfl
  | n + 1, k, h => by
    show (if r k = true then ffw r (n + 1) (k + 1) else nI k) = if (if r k = true then ffw r n (k + 1) else nI k) = -9 then _ else (if r k = true then ffw r n (k + 1) else nI k)
    by_cases h1 : r k = true
    · rw [if_pos h1, if_pos h1, ffw_s r n (k + 1) (by omega), show k + 1 + n = k + (n + 1) by omega]
    · rw [if_neg h1, if_neg h1, if_neg (nI_n9b (by omega))]
theorem ffw_congr {r r2 : Nat → Bool} : ∀ {n k : Nat}, (∀ i, k ≤ i → i < k + n → r i = r2 i) → ffw r n k = ffw r2 n k
  | 0, _, _ => rfl
  | n + 1, k, h => by
    show (if r k = true then ffw r n (k + 1) else nI k) = (if r2 k = true then ffw r2 n (k + 1) else nI k)
    rw [h k (Nat.le_refl _) (by omega), ffw_congr (fun i h1 h2 => h i (by omega) (by omega))]
theorem ffw_bad {r : Nat → Bool} {j : Nat} (hj : j < 2 ^ 31) (h : r j = false) : (if ffw r j 0 = -9 then nI j else ffw r j 0) = ffw r (j + 1) 0 := by
  rw [ffw_s r j 0 (by omega), Nat.zero_add, h]
  rfl
theorem ffw_good {r : Nat → Bool} {j : Nat} (hj : j < 2 ^ 31) : ffw (rset r j) (j + 1) 0 = ffw r j 0 := by
  rw [ffw_s _ j 0 (by omega), Nat.zero_add, show rset r j j = true from if_pos rfl, if_pos rfl, ffw_congr (r := rset r j) (r2 := r) (n := j) (k := 0) (fun i _ hi => if_neg (by omega))]
  split
  · next h => exact h.symm
  · rfl
theorem ffw_far {r : Nat → Bool} {j : Nat} (h : r j = false) : ∀ c, j + 1 + c < 2 ^ 31 → ffw r (j + 1 + c) 0 = ffw r (j + 1) 0
  | 0, _ => rfl
  | c + 1, hc => by
    have hne : ¬ ffw r (j + 1) 0 = -9 := by
      rw [← ffw_bad (by omega) h]
      by_cases h3 : ffw r j 0 = -9
      · rw [if_pos h3]; exact nI_n9b (by omega)
      · rw [if_neg h3]; exact h3
    rw [show j + 1 + (c + 1) = (j + 1 + c) + 1 by omega, ffw_s r (j + 1 + c) 0 (by omega), ffw_far h c (by omega), if_neg hne]
theorem run_r {T : ZT} {P : ZP} {wo : Nat} {oe : Option (Nat × Nat)} : ∀ {m : Nat}, ∀ k, npx P m ≤ k → (run T P wo oe m).2.2.2 k = false
  | 0, _, _ => rfl
  | m + 1, k, hk => by
    have h0 := npx_mono (P := P) (m := m)
    have ih := run_r (T := T) (P := P) (wo := wo) (oe := oe) (m := m) k (by omega)
    show (dbeg T P m _ _ _ _).2.2.2 k = false
    unfold dbeg
    split
    · exact ih
    · next j hj =>
      split
      · rw [pin_eq] at hj
        split at hj
        · next hz =>
          cases hj
          have e1 := np_at hz.1 hz.2
          have e2 := (fst_rng (P := P) (m := m + 1) (n := P.1 - (npx P m + 1)) (k := npx P m + 1)).1
          show rset _ (npx P m) k = false
          rw [show rset (run T P wo oe m).2.2.2 (npx P m) k = (run T P wo oe m).2.2.2 k from if_neg (by omega)]
          exact ih
        · cases hj
      · exact ih
theorem ednd_dend {T : ZT} {wo m : Nat} {s : ZD} : ednd T m (hap T m wo T.1 s.1) s.2.2.1 s.2.1 = dend T wo m s := by
  unfold ednd dend
  cases s.2.1 <;> rfl
/-- the class's int fields of a LIFE: goingEnds, nextPair, firstWrong -/
def li (I : Nat → Int32) (t : Int32) (j : Nat) (v : Int32) : Nat → Int32 := upd (upd (upd I 13 t) 14 (nI j)) 15 v
theorem li_13 (I : Nat → Int32) (t t2 : Int32) (j : Nat) (v : Int32) : upd (li I t j v) 13 t2 = li I t2 j v := by
  funext b; unfold li upd
  by_cases h : b = 13
  · subst h; rfl
  · simp only [if_neg h]
theorem li_14 (I : Nat → Int32) (t : Int32) (j : Nat) (v : Int32) : upd (li I t j v) 14 (nI j + 1) = li I t (j + 1) v := by
  rw [← nI_succ]
  funext b; unfold li upd
  by_cases h : b = 14
  · subst h; rfl
  · simp only [if_neg h]
theorem li_nw {I : Nat → Int32} {t : Int32} {j : Nat} {r : Nat → Bool} (hj : j < 2 ^ 31) (h : r j = false) : upd (li I t j (ffw r j 0)) 15 (if li I t j (ffw r j 0) 15 = -9 then li I t j (ffw r j 0) 14 else li I t j (ffw r j 0) 15) = li I t j (ffw r (j + 1) 0) := by
  rw [← ffw_bad hj h]
  exact upd_upd _ 15 _ _
theorem li_far {I : Nat → Int32} {t : Int32} {j : Nat} {v : Int32} {b : Nat} (h : b ≤ 12 ∨ 16 ≤ b) : li I t j v b = I b := (if_neg (by omega)).trans ((if_neg (by omega)).trans (if_neg (by omega)))
