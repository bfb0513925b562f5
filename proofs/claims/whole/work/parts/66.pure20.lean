/-! a TEXT as the class reads it: part by part -/
def pfin (n nh : Nat) (r : Nat × Option (Nat × (Nat → Nat → Nat))) : Nat × Option (Nat × Nat × (Nat → Nat → Nat)) := match r with
  | (p1, none) => (p1, none)
  | (p1, some (nd, q1)) => if p1 = n then (p1, some (nh, nd, q1)) else (p1, none)
theorem prD_some (c : Nat → Int32) (n p nh : Nat) (q : Nat → Nat → Nat) : prD c n (p, some (nh, q)) = pfin n nh (pD c n 5 p 0 q) := by
  show (match pD c n 5 p 0 q with | (p1, none) => (p1, none) | (p1, some (nd, q1)) => if p1 = n then (p1, some (nh, nd, q1)) else (p1, none)) = _
  rfl
def tpl (nh nd : Nat) : Nat := 1 + 6 * nh + 5 * nd
/-- what is still to be read, behind so many HAPPENINGS and DEEDS -/
def trem (c : Nat → Int32) (n nh nd : Nat) (q : Nat → Nat → Nat) : Nat × Option (Nat × Nat × (Nat → Nat → Nat)) := if nd = 0 then prD c n (pH c n (6 - nh) (tpl nh nd) nh q) else pfin n nh (pD c n (5 - nd) (tpl nh nd) nd q)
theorem pH_stop {c : Nat → Int32} {n p nh : Nat} {q : Nat → Nat → Nat} (h : ¬ (p < n ∧ c p = 59)) : ∀ k, pH c n k p nh q = (p, some (nh, q))
  | 0 => rfl
  | k + 1 => by unfold pH; exact if_neg h
theorem pD_stop {c : Nat → Int32} {n p nd : Nat} {q : Nat → Nat → Nat} (h : ¬ (p < n ∧ c p = 44)) : ∀ k, pD c n k p nd q = (p, some (nd, q))
  | 0 => rfl
  | k + 1 => by unfold pD; exact if_neg h
theorem pfin_some (n nh p nd : Nat) (q : Nat → Nat → Nat) : pfin n nh (p, some (nd, q)) = if p = n then (p, some (nh, nd, q)) else (p, none) := rfl
/-- where no part begins -/
theorem trem_stop {c : Nat → Int32} {n nh nd : Nat} {q : Nat → Nat → Nat} (h1 : ¬ ((tpl nh nd < n ∧ c (tpl nh nd) = 59) ∧ nd = 0 ∧ nh < 6)) (h2 : ¬ ((tpl nh nd < n ∧ c (tpl nh nd) = 44) ∧ nd < 5)) : trem c n nh nd q = if tpl nh nd = n then (tpl nh nd, some (nh, nd, q)) else (tpl nh nd, none) := by
  unfold trem
  by_cases hd : nd = 0
  · rw [if_pos hd]
    have e1 : pH c n (6 - nh) (tpl nh nd) nh q = (tpl nh nd, some (nh, q)) := by
      by_cases h6 : nh < 6
      · exact pH_stop (fun z => h1 ⟨z, hd, h6⟩) _
      · rw [show 6 - nh = 0 by omega]; rfl
    rw [e1, prD_some, pD_stop (fun z => h2 ⟨z, by omega⟩), pfin_some, hd]
  · rw [if_neg hd]
    have e1 : pD c n (5 - nd) (tpl nh nd) nd q = (tpl nh nd, some (nd, q)) := by
      by_cases h5 : nd < 5
      · exact pD_stop (fun z => h2 ⟨z, h5⟩) _
      · rw [show 5 - nd = 0 by omega]; rfl
    rw [e1, pfin_some]
theorem rdH_p {c : Nat → Int32} {n p p1 : Nat} {x : Nat × Nat × Nat × Nat} (h : rdH c n p = (p1, some x)) : p1 = p + 5 := by
  unfold rdH at h
  split at h
  · cases h
  · split at h
    · cases h
    · split at h
      · cases h
      · split at h
        · cases h
        · split at h
          · cases h
          · cases h; rfl
theorem rdD_p {c : Nat → Int32} {n p p1 : Nat} {x : Nat × Nat × Nat × Nat} (h : rdD c n p = (p1, some x)) : p1 = p + 4 := by
  unfold rdD at h
  split at h
  · cases h
  · split at h
    · cases h
    · split at h
      · cases h
      · split at h
        · cases h
        · cases h; rfl
theorem trem_H {c : Nat → Int32} {n nh : Nat} {q : Nat → Nat → Nat} (h : tpl nh 0 < n ∧ c (tpl nh 0) = 59) (h6 : nh < 6) : trem c n nh 0 q = match rdH c n (tpl nh 0 + 1) with
  | (p1, none) => (p1, none)
  | (_, some x) => trem c n (nh + 1) 0 (put4 q 0 nh x) := by
  rw [trem, if_pos rfl, show 6 - nh = (6 - (nh + 1)) + 1 by omega]
  show prD c n (if _ then _ else _) = _
  rw [if_pos h]
  cases hr : rdH c n (tpl nh 0 + 1) with
  | mk p1 ox =>
    cases ox with
    | none => rfl
    | some x =>
      have e := rdH_p hr
      show prD c n (pH c n (6 - (nh + 1)) p1 (nh + 1) (put4 q 0 nh x)) = trem c n (nh + 1) 0 (put4 q 0 nh x)
      rw [trem, if_pos rfl, e, show tpl nh 0 + 1 + 5 = tpl (nh + 1) 0 by unfold tpl; omega]
theorem trem_D {c : Nat → Int32} {n nh nd : Nat} {q : Nat → Nat → Nat} (h : tpl nh nd < n ∧ c (tpl nh nd) = 44) (h5 : nd < 5) : trem c n nh nd q = match rdD c n (tpl nh nd + 1) with
  | (p1, none) => (p1, none)
  | (_, some x) => trem c n nh (nd + 1) (put4 q 4 nd x) := by
  have e0 : trem c n nh nd q = pfin n nh (pD c n (5 - nd) (tpl nh nd) nd q) := by
    unfold trem
    by_cases hd : nd = 0
    · rw [if_pos hd, pH_stop (fun z => by rw [h.2] at z; exact absurd z.2 (by decide)), prD_some, hd]
    · rw [if_neg hd]
  rw [e0, show 5 - nd = (5 - (nd + 1)) + 1 by omega]
  show pfin n nh (if _ then _ else _) = _
  rw [if_pos h]
  cases hr : rdD c n (tpl nh nd + 1) with
  | mk p1 ox =>
    cases ox with
    | none => rfl
    | some x =>
      have e := rdD_p hr
      show pfin n nh (pD c n (5 - (nd + 1)) p1 (nd + 1) (put4 q 4 nd x)) = trem c n nh (nd + 1) (put4 q 4 nd x)
      rw [trem, if_neg (by omega), e, show tpl nh nd + 1 + 4 = tpl nh (nd + 1) by unfold tpl; omega]
theorem prs_trem {c : Nat → Int32} {n : Nat} (h0 : 0 < n ∧ c 0 = 115) : prs c n = if ¬ (1 < n ∧ c 1 = 59) then (1, none) else match rdH c n 2 with
  | (p1, none) => (p1, none)
  | (_, some x) => trem c n 1 0 (put4 (fun _ _ => 0) 0 0 x) := by
  rw [prs, if_neg (fun z => z h0)]
  split
  · rfl
  · cases hr : rdH c n 2 with
    | mk p1 ox =>
      cases ox with
      | none => rfl
      | some x =>
        have e := rdH_p hr
        show prD c n (pH c n 5 p1 1 (put4 (fun _ _ => 0) 0 0 x)) = trem c n 1 0 (put4 (fun _ _ => 0) 0 0 x)
        rw [trem, if_pos rfl, e]; rfl
/-- what has been read, by its places -/
def tsp (c : Nat → Int32) (n nh nd : Nat) (q : Nat → Nat → Nat) : Prop := (∀ h, h < nh → ∃ p, rdH c n (6 * h + 2) = (p, some (q 0 h, q 1 h, q 2 h, q 3 h))) ∧ ∀ d, d < nd → ∃ p, rdD c n (6 * nh + 5 * d + 2) = (p, some (q 4 d, q 5 d, q 6 d, q 7 d))
theorem tsp_H {c : Nat → Int32} {n nh p : Nat} {q : Nat → Nat → Nat} {x : Nat × Nat × Nat × Nat} (h : tsp c n nh 0 q) (hr : rdH c n (tpl nh 0 + 1) = (p, some x)) : tsp c n (nh + 1) 0 (put4 q 0 nh x) := by
  refine ⟨fun i hi => ?_, fun d hd => absurd hd (Nat.not_lt_zero d)⟩
  by_cases e : i = nh
  · subst e
    refine ⟨p, ?_⟩
    rw [show 6 * i + 2 = tpl i 0 + 1 by unfold tpl; omega, hr]
    obtain ⟨x0, x1, x2, x3⟩ := x
    simp [put4]
  · obtain ⟨p2, h2⟩ := h.1 i (by omega)
    refine ⟨p2, ?_⟩
    rw [h2]
    simp [put4, e]
theorem tsp_D {c : Nat → Int32} {n nh nd p : Nat} {q : Nat → Nat → Nat} {x : Nat × Nat × Nat × Nat} (h : tsp c n nh nd q) (hr : rdD c n (tpl nh nd + 1) = (p, some x)) : tsp c n nh (nd + 1) (put4 q 4 nd x) := by
  refine ⟨fun i hi => ?_, fun d hd => ?_⟩
  · obtain ⟨p2, h2⟩ := h.1 i hi
    refine ⟨p2, ?_⟩
    rw [h2]
    by_cases e : i = nd <;> simp [put4, e]
  · by_cases e : d = nd
    · subst e
      refine ⟨p, ?_⟩
      rw [show 6 * nh + 5 * d + 2 = tpl nh d + 1 by unfold tpl; omega, hr]
      obtain ⟨x0, x1, x2, x3⟩ := x
      simp [put4]
    · obtain ⟨p2, h2⟩ := h.2 d (by omega)
      refine ⟨p2, ?_⟩
      rw [h2]
      simp [put4, e]
/-- a code, or none -/
def cdA (c : Nat → Int32) (n j : Nat) : Int32 := if j < n then c j else -1
def kdc (x : Int32) : Int32 := if x = 104 then 0 else if x = 109 then 1 else if x = 99 then 2 else -9
def isd (x : Int32) (lo hi : Nat) : Prop := ¬ x < nI (48 + lo) ∧ ¬ nI (48 + hi) < x
theorem cd_kd {c : Nat → Int32} {n p : Nat} : kdO c n p = none ↔ kdc (cdA c n p) = -9 := by
  unfold kdO cdA kdc
  by_cases h : p < n
  · rw [if_pos h, if_pos h]
    by_cases h1 : c p = 104
    · rw [if_pos h1, if_pos h1]; simp
    · rw [if_neg h1, if_neg h1]
      by_cases h2 : c p = 109
      · rw [if_pos h2, if_pos h2]; simp
      · rw [if_neg h2, if_neg h2]
        by_cases h3 : c p = 99
        · rw [if_pos h3, if_pos h3]; simp
        · rw [if_neg h3, if_neg h3]; simp
  · rw [if_neg h, if_neg h]; simp
theorem kd_some {c : Nat → Int32} {n p k : Nat} (h : kdO c n p = some k) : p < n ∧ kdc (cdA c n p) = nI k := by
  unfold kdO at h
  split at h
  · next h0 =>
    refine ⟨h0, ?_⟩
    unfold cdA kdc
    rw [if_pos h0]
    split at h
    · next h1 => cases h; rw [if_pos h1]; rfl
    · next h1 =>
      rw [if_neg h1]
      split at h
      · next h2 => cases h; rw [if_pos h2]; rfl
      · next h2 =>
        rw [if_neg h2]
        split at h
        · next h3 => cases h; rw [if_pos h3]; rfl
        · cases h
  · cases h
theorem cd_dg {c : Nat → Int32} {n p lo hi : Nat} (hl : lo ≤ 9) : dg c n p lo hi = none ↔ ¬ isd (cdA c n p) lo hi := by
  unfold dg isd cdA
  by_cases h : p < n
  · rw [if_pos h]
    by_cases h1 : ¬ c p < nI (48 + lo) ∧ ¬ nI (48 + hi) < c p
    · rw [if_pos ⟨h, h1⟩]
      exact ⟨fun z => by simp at z, fun z => absurd h1 z⟩
    · rw [if_neg (fun z => h1 z.2)]
      exact ⟨fun _ => h1, fun _ => rfl⟩
  · rw [if_neg h, if_neg (fun z => h z.1)]
    refine ⟨fun _ z => z.1 ?_, fun _ => rfl⟩
    rw [Int32.lt_iff_toInt_lt, nI_toInt (by omega), show (-1 : Int32).toInt = -1 by decide]
    omega
/-- one part more -/
def ppS (c : Nat → Int32) (n p nh nd : Nat) : Bool × Nat × Nat × Nat :=
  if (p < n ∧ c p = 59) ∧ nd = 0 ∧ nh < 6 then (match rdH c n (p + 1) with
    | (p1, none) => (false, p1, nh, nd)
    | (p1, some _) => (true, p1, nh + 1, nd))
  else if (p < n ∧ c p = 44) ∧ 0 < nh ∧ nd < 5 then (match rdD c n (p + 1) with
    | (p1, none) => (false, p1, nh, nd)
    | (p1, some _) => (true, p1, nh, nd + 1))
  else (false, p, nh, nd)
