theorem kdO_le {c : Nat → Int32} {n p k : Nat} (h : kdO c n p = some k) : k ≤ 2 := by
  unfold kdO at h
  split at h
  · split at h
    · cases h; decide
    · split at h
      · cases h; decide
      · split at h
        · cases h; decide
        · cases h
  · cases h
theorem rdH_ok {c : Nat → Int32} {n p p1 : Nat} {x : Nat × Nat × Nat × Nat} (h : rdH c n p = (p1, some x)) : x.1 ≤ 2 ∧ x.2.1 ≤ 59 ∧ x.2.2.1 ≤ 6 ∧ x.2.2.2 ≤ 5 := by
  unfold rdH at h
  split at h
  · cases h
  · next k hk =>
    split at h
    · cases h
    · next a ha =>
      split at h
      · cases h
      · next b hb =>
        split at h
        · cases h
        · next e he =>
          split at h
          · cases h
          · next f hf =>
            cases h
            have h1 := kdO_le hk
            have h2 := (dg_some (by decide) (by decide) ha).2.2
            have h3 := (dg_some (by decide) (by decide) hb).2.2
            have h4 := (dg_some (by decide) (by decide) he).2.2
            have h5 := (dg_some (by decide) (by decide) hf).2.2
            exact ⟨h1, by show 10 * a + b ≤ 59; omega, h4.2, h5.2⟩
theorem rdD_ok {c : Nat → Int32} {n p p1 : Nat} {x : Nat × Nat × Nat × Nat} (h : rdD c n p = (p1, some x)) : x.1 ≤ 6 ∧ x.2.1 ≤ 5 ∧ x.2.2.1 ≤ 6 ∧ 1 ≤ x.2.2.2 ∧ x.2.2.2 ≤ 9 := by
  unfold rdD at h
  split at h
  · cases h
  · next a ha =>
    split at h
    · cases h
    · next b hb =>
      split at h
      · cases h
      · next e he =>
        split at h
        · cases h
        · next f hf =>
          cases h
          have h2 := (dg_some (by decide) (by decide) ha).2.2
          have h3 := (dg_some (by decide) (by decide) hb).2.2
          have h4 := (dg_some (by decide) (by decide) he).2.2
          have h5 := (dg_some (by decide) (by decide) hf).2.2
          exact ⟨h2.2, h3.2, h4.2, h5.1, h5.2⟩
def hokq (q : Nat → Nat → Nat) (nh : Nat) : Prop := ∀ h, h < nh → q 0 h ≤ 2 ∧ q 1 h ≤ 59 ∧ q 2 h ≤ 6 ∧ q 3 h ≤ 5
def dokq (q : Nat → Nat → Nat) (nd : Nat) : Prop := ∀ d, d < nd → q 4 d ≤ 6 ∧ q 5 d ≤ 5 ∧ q 6 d ≤ 6 ∧ 1 ≤ q 7 d ∧ q 7 d ≤ 9
theorem hokq_put {q : Nat → Nat → Nat} {nh : Nat} {x : Nat × Nat × Nat × Nat} (h : hokq q nh) (hx : x.1 ≤ 2 ∧ x.2.1 ≤ 59 ∧ x.2.2.1 ≤ 6 ∧ x.2.2.2 ≤ 5) : hokq (put4 q 0 nh x) (nh + 1) := fun j hj => by
  by_cases e : j = nh
  · subst e; simp only [put4, if_true]; exact hx
  · simp only [put4, if_neg e]; exact h j (by omega)
theorem hokq_put2 {q : Nat → Nat → Nat} {nh nd : Nat} {x : Nat × Nat × Nat × Nat} (h : hokq q nh) : hokq (put4 q 4 nd x) nh := fun j hj => by
  have := h j hj
  by_cases e : j = nd
  · simpa [put4, e] using (e ▸ this)
  · simpa [put4, e] using this
theorem dokq_put {q : Nat → Nat → Nat} {nd : Nat} {x : Nat × Nat × Nat × Nat} (h : dokq q nd) (hx : x.1 ≤ 6 ∧ x.2.1 ≤ 5 ∧ x.2.2.1 ≤ 6 ∧ 1 ≤ x.2.2.2 ∧ x.2.2.2 ≤ 9) : dokq (put4 q 4 nd x) (nd + 1) := fun j hj => by
  by_cases e : j = nd
  · subst e; simp only [put4, if_true]; exact hx
  · simp only [put4, if_neg e]; exact h j (by omega)
theorem pH_ok {c : Nat → Int32} {n : Nat} : ∀ {k p nh : Nat} {q : Nat → Nat → Nat} {p1 nh1 : Nat} {q1 : Nat → Nat → Nat}, hokq q nh → pH c n k p nh q = (p1, some (nh1, q1)) → hokq q1 nh1 ∧ nh ≤ nh1 ∧ nh1 ≤ nh + k
  | 0, p, nh, q, p1, nh1, q1, h, e => by cases e; exact ⟨h, Nat.le_refl _, Nat.le_refl _⟩
  | k + 1, p, nh, q, p1, nh1, q1, h, e => by
    unfold pH at e
    split at e
    · cases hr : rdH c n (p + 1) with
      | mk p2 ox =>
        rw [hr] at e
        cases ox with
        | none => cases e
        | some x =>
          have := pH_ok (hokq_put h (rdH_ok hr)) e
          exact ⟨this.1, by omega, by omega⟩
    · cases e; exact ⟨h, Nat.le_refl _, by omega⟩
theorem pD_ok {c : Nat → Int32} {n nh : Nat} : ∀ {k p nd : Nat} {q : Nat → Nat → Nat} {p1 nd1 : Nat} {q1 : Nat → Nat → Nat}, hokq q nh → dokq q nd → pD c n k p nd q = (p1, some (nd1, q1)) → hokq q1 nh ∧ dokq q1 nd1 ∧ nd1 ≤ nd + k
  | 0, p, nd, q, p1, nd1, q1, h, h2, e => by cases e; exact ⟨h, h2, Nat.le_refl _⟩
  | k + 1, p, nd, q, p1, nd1, q1, h, h2, e => by
    unfold pD at e
    split at e
    · cases hr : rdD c n (p + 1) with
      | mk p2 ox =>
        rw [hr] at e
        cases ox with
        | none => cases e
        | some x =>
          have := pD_ok (hokq_put2 h) (dokq_put h2 (rdD_ok hr)) e
          exact ⟨this.1, this.2.1, by omega⟩
    · cases e; exact ⟨h, h2, by omega⟩
theorem prs_ok {c : Nat → Int32} {n p nh nd : Nat} {q : Nat → Nat → Nat} (h : prs c n = (p, some (nh, nd, q))) : tok (nh, nd, 60, q) ∧ 1 ≤ nh := by
  unfold prs at h
  split at h
  · cases h
  · split at h
    · cases h
    · cases hr : rdH c n 2 with
      | mk p2 ox =>
        rw [hr] at h
        cases ox with
        | none => cases h
        | some x =>
          have h0 : hokq (put4 (fun _ _ => 0) 0 0 x) 1 := hokq_put (fun j hj => by omega) (rdH_ok hr)
          have h1 : prD c n (pH c n 5 p2 1 (put4 (fun _ _ => 0) 0 0 x)) = (p, some (nh, nd, q)) := h
          cases hh : pH c n 5 p2 1 (put4 (fun _ _ => 0) 0 0 x) with
          | mk p3 oy =>
            rw [hh] at h1
            cases oy with
            | none => cases h1
            | some y =>
              obtain ⟨nh1, q1⟩ := y
              have h2 := pH_ok h0 hh
              rw [prD] at h1
              cases hd : pD c n 5 p3 0 q1 with
              | mk p4 oz =>
                rw [hd] at h1
                cases oz with
                | none => cases h1
                | some z =>
                  obtain ⟨nd1, q2⟩ := z
                  have h3 := pD_ok h2.1 (fun d hd => by omega) hd
                  have h4 : (if p4 = n then (p4, some (nh1, nd1, q2)) else (p4, none)) = (p, some (nh, nd, q)) := h1
                  split at h4
                  · cases h4
                    exact ⟨⟨by show nh ≤ 6; omega, by show nd ≤ 5; omega, by show (60 : Nat) ≤ 60; omega, h3.1, h3.2.1⟩, h2.2.1⟩
                  · cases h4
def ap_tue (S : ZA) (sh l i n : Int32) : Int32 × ZA := if sh < 0 ∨ 3 < sh then (-1, sf S 0) else if l < 0 ∨ 2 < l then (-2, sf S 0) else if ¬ ag (aln S sh.toNatClampNeg) (asz S sh.toNatClampNeg) l i n = 0 then (-10 - ag (aln S sh.toNatClampNeg) (asz S sh.toNatClampNeg) l i n, sf S (ag (aln S sh.toNatClampNeg) (asz S sh.toNatClampNeg) l i n)) else match prs (fun j => ace S sh.toNatClampNeg (i.toNatClampNeg + j)) n.toNatClampNeg with
  | (p, none) => (-100 - nI p, sf S 0)
  | (_, some x) => (nI x.1, (0, atr S, aln S, asz S, ace S, (x.1, x.2.1, 60, x.2.2), 0, ady S))
def st4 (k : Nat) (R : Nat → Nat → Int32) (a b c d : Nat → Int32) : Nat → Nat → Int32 := ur (ur (ur (ur R k a) (k + 1) b) (k + 2) c) (k + 3) d
theorem st4_a (k : Nat) (R : Nat → Nat → Int32) (a b c d x : Nat → Int32) : ur (st4 k R a b c d) k x = st4 k R x b c d := by
  funext z; unfold st4 ur
  by_cases h1 : z = k
  · subst h1; simp only [if_true]; rw [if_neg (by omega), if_neg (by omega), if_neg (by omega)]
  · simp only [if_neg h1]
theorem st4_b (k : Nat) (R : Nat → Nat → Int32) (a b c d x : Nat → Int32) : ur (st4 k R a b c d) (k + 1) x = st4 k R a x c d := by
  funext z; unfold st4 ur
  by_cases h1 : z = k + 1
  · subst h1; simp only [if_true]; rw [if_neg (by omega), if_neg (by omega)]
  · simp only [if_neg h1]
theorem st4_c (k : Nat) (R : Nat → Nat → Int32) (a b c d x : Nat → Int32) : ur (st4 k R a b c d) (k + 2) x = st4 k R a b x d := by
  funext z; unfold st4 ur
  by_cases h1 : z = k + 2
  · subst h1; simp only [if_true]; rw [if_neg (by omega)]
  · simp only [if_neg h1]
theorem st4_d (k : Nat) (R : Nat → Nat → Int32) (a b c d x : Nat → Int32) : ur (st4 k R a b c d) (k + 3) x = st4 k R a b c x := by
  funext z; unfold st4 ur
  by_cases h1 : z = k + 3
  · subst h1; simp only [if_true]
  · simp only [if_neg h1]
theorem st4_self (k : Nat) (R : Nat → Nat → Int32) : st4 k R (R k) (R (k + 1)) (R (k + 2)) (R (k + 3)) = R := by
  unfold st4
  rw [ur_self, show ur R (k + 1) (R (k + 1)) = R from ur_self R _, show ur R (k + 2) (R (k + 2)) = R from ur_self R _, show ur R (k + 3) (R (k + 3)) = R from ur_self R _]
theorem s8_0 (R : Nat → Nat → Int32) (a b c d x : Nat → Int32) : ur (st4 8 R a b c d) 8 x = st4 8 R x b c d := st4_a 8 R a b c d x
theorem s8_1 (R : Nat → Nat → Int32) (a b c d x : Nat → Int32) : ur (st4 8 R a b c d) 9 x = st4 8 R a x c d := st4_b 8 R a b c d x
theorem s8_2 (R : Nat → Nat → Int32) (a b c d x : Nat → Int32) : ur (st4 8 R a b c d) 10 x = st4 8 R a b x d := st4_c 8 R a b c d x
theorem s8_3 (R : Nat → Nat → Int32) (a b c d x : Nat → Int32) : ur (st4 8 R a b c d) 11 x = st4 8 R a b c x := st4_d 8 R a b c d x
theorem s12_0 (R : Nat → Nat → Int32) (a b c d x : Nat → Int32) : ur (st4 12 R a b c d) 12 x = st4 12 R x b c d := st4_a 12 R a b c d x
theorem s12_1 (R : Nat → Nat → Int32) (a b c d x : Nat → Int32) : ur (st4 12 R a b c d) 13 x = st4 12 R a x c d := st4_b 12 R a b c d x
theorem s12_2 (R : Nat → Nat → Int32) (a b c d x : Nat → Int32) : ur (st4 12 R a b c d) 14 x = st4 12 R a b x d := st4_c 12 R a b c d x
theorem s12_3 (R : Nat → Nat → Int32) (a b c d x : Nat → Int32) : ur (st4 12 R a b c d) 15 x = st4 12 R a b c x := st4_d 12 R a b c d x
