/-! what becomes of worlds, by what becomes of states -/
def one (s : Nat) : Int64 := (1 : Int64) <<< ((nI s).toInt64 &&& 63)
def wlin (φ : Int64 → Int64) : Prop := φ 0 = 0 ∧ ∀ a b, φ (a ||| b) = φ a ||| φ b
def sumw (A : Nat → Bool) : Nat → Int64
  | 0 => 0
  | n + 1 => sumw A n ||| (if A n = true then one n else 0)
theorem bt_sumw (A : Nat → Bool) : ∀ n, n ≤ 64 → ∀ t, t < 64 → bt (sumw A n) t = (decide (t < n) && A t)
  | 0, _, t, _ => by rw [sumw, bt_0]; simp
  | n + 1, hn, t, ht => by
    rw [sumw, bt_or, bt_sumw A n (by omega) t ht]
    by_cases e : t = n
    · subst e
      cases h : A t
      · rw [if_neg (by simp), bt_0]; simp
      · rw [if_pos rfl, one, bt_one t ht t ht]; simp
    · have h0 : bt (if A n = true then one n else 0) t = false := by
        split
        · rw [one, bt_one n (by omega) t ht]; exact decide_eq_false e
        · exact bt_0 t
      rw [h0, Bool.or_false]
      congr 1
      exact decide_eq_decide.mpr ⟨fun z => by omega, fun z => by omega⟩
def wrep (w : Int64) (A : Nat → Bool) : Prop := ∀ s, s < 64 → bt w s = A s
theorem wrep_sum {w : Int64} {A : Nat → Bool} (h : wrep w A) : w = sumw A 64 := bt_ext (fun s hs => by rw [bt_sumw A 64 (by omega) s hs, h s hs, decide_eq_true hs]; rfl)
theorem wlin_img {φ : Int64 → Int64} {f : Nat → Nat} (hl : wlin φ) (hf : ∀ s, s < 64 → f s < 64 ∧ φ (one s) = one (f s)) (A : Nat → Bool) : ∀ n, n ≤ 64 → ∀ t, t < 64 → (bt (φ (sumw A n)) t = true ↔ ∃ s, s < n ∧ A s = true ∧ f s = t)
  | 0, _, t, _ => by rw [sumw, hl.1, bt_0]; exact ⟨fun z => absurd z (by decide), fun ⟨s, hs, _⟩ => absurd hs (by omega)⟩
  | n + 1, hn, t, ht => by
    rw [sumw, hl.2, bt_or, Bool.or_eq_true, wlin_img hl hf A n (by omega) t ht]
    obtain ⟨g1, g2⟩ := hf n (by omega)
    have h0 : bt (φ (if A n = true then one n else 0)) t = true ↔ A n = true ∧ f n = t := by
      split
      · next h => rw [g2, one, bt_one (f n) g1 t ht, decide_eq_true_eq]; exact ⟨fun z => ⟨h, z.symm⟩, fun z => z.2.symm⟩
      · next h => rw [hl.1, bt_0]; exact ⟨fun z => absurd z (by decide), fun z => absurd z.1 h⟩
    rw [h0]
    constructor
    · rintro (⟨s, hs, e⟩ | e)
      · exact ⟨s, by omega, e⟩
      · exact ⟨n, by omega, e⟩
    · rintro ⟨s, hs, e⟩
      by_cases z : s = n
      · subst z; exact Or.inr e
      · exact Or.inl ⟨s, by omega, e⟩
def ushK (x : Int64) (k : Int32) : Int64 := (x.toUInt64 >>> (k.toInt64.toUInt64 &&& Int64.toUInt64 63)).toInt64
def shlK (x : Int64) (k : Int32) : Int64 := x <<< (k.toInt64 &&& 63)
def afH (me so : Int64) (k : Int32) (x : Int64) : Int64 := (x &&& ((x &&& me &&& (so ^^^ (-1))) ^^^ (-1))) ||| shlK (x &&& me &&& (so ^^^ (-1))) k
def afM (me so : Int64) (k : Int32) (x : Int64) : Int64 := (x &&& ((x &&& me &&& so) ^^^ (-1))) ||| ushK (x &&& me &&& so) k
def afC (me so : Int64) (k : Int32) (x : Int64) : Int64 := (x &&& (me ^^^ (-1))) ||| shlK (x &&& me &&& (so ^^^ (-1))) k ||| ushK (x &&& me &&& so) k
theorem bt_ushK (x : Int64) {k : Nat} (hk : k < 64) (t : Nat) : bt (ushK x (nI k)) t = bt x (k + t) := bt_ushr x hk t
theorem bt_shlK (x : Int64) {k : Nat} (hk : k < 64) {t : Nat} (ht : t < 64) : bt (shlK x (nI k)) t = (!decide (t < k) && bt x (t - k)) := bt_shl x hk t ht
theorem bz8 : ∀ a b m s c a2 b2 m2 s2 : Bool, (((a || b) && !((a || b) && m && !s)) || (c && ((a2 || b2) && m2 && !s2))) = (((a && !(a && m && !s)) || (c && (a2 && m2 && !s2))) || ((b && !(b && m && !s)) || (c && (b2 && m2 && !s2)))) := by decide
theorem afH_lin {me so : Int64} {k : Nat} (hk : k < 64) : wlin (afH me so (nI k)) := by
  refine ⟨bt_ext fun t ht => ?_, fun a b => bt_ext fun t ht => ?_⟩
  · simp only [afH, bt_or, bt_and, bt_not _ ht, bt_shlK _ hk ht, bt_0]; simp
  · have hn : ∀ y, bt (so ^^^ (-1)) (t - k) = y → y = !bt so (t - k) := fun y hy => by rw [← hy, bt_not _ (by omega)]
    simp only [afH, bt_or, bt_and, bt_not _ ht, bt_shlK _ hk ht, bt_not so (show t - k < 64 by omega)]
    exact bz8 _ _ _ _ _ _ _ _ _
theorem bz9 : ∀ a b m s a2 b2 m2 s2 : Bool, (((a || b) && !((a || b) && m && s)) || ((a2 || b2) && m2 && s2)) = (((a && !(a && m && s)) || (a2 && m2 && s2)) || ((b && !(b && m && s)) || (b2 && m2 && s2))) := by decide
theorem afM_lin {me so : Int64} {k : Nat} (hk : k < 64) : wlin (afM me so (nI k)) := by
  refine ⟨bt_ext fun t ht => ?_, fun a b => bt_ext fun t ht => ?_⟩
  · simp only [afM, bt_or, bt_and, bt_not _ ht, bt_ushK _ hk, bt_0]; simp
  · simp only [afM, bt_or, bt_and, bt_not _ ht, bt_ushK _ hk]
    exact bz9 _ _ _ _ _ _ _ _
theorem bz10 : ∀ a b m c a2 b2 m2 s2 a3 b3 m3 s3 : Bool, ((((a || b) && !m) || (c && ((a2 || b2) && m2 && !s2))) || ((a3 || b3) && m3 && s3)) = ((((a && !m) || (c && (a2 && m2 && !s2))) || (a3 && m3 && s3)) || (((b && !m) || (c && (b2 && m2 && !s2))) || (b3 && m3 && s3))) := by decide
theorem afC_lin {me so : Int64} {k : Nat} (hk : k < 64) : wlin (afC me so (nI k)) := by
  refine ⟨bt_ext fun t ht => ?_, fun a b => bt_ext fun t ht => ?_⟩
  · simp only [afC, bt_or, bt_and, bt_not _ ht, bt_shlK _ hk ht, bt_ushK _ hk, bt_0]; simp
  · simp only [afC, bt_or, bt_and, bt_not _ ht, bt_shlK _ hk ht, bt_ushK _ hk, bt_not so (show t - k < 64 by omega)]
    exact bz10 _ _ _ _ _ _ _ _ _ _ _ _
/-- a HAPPENING's, by its kind -/
def afX (k : Nat) (me so : Int64) (v : Int32) (x : Int64) : Int64 := if k = 0 then afH me so v x else if k = 1 then afM me so v x else afC me so v x
theorem afX_lin (k : Nat) {me so : Int64} {v : Nat} (hv : v < 64) : wlin (afX k me so (nI v)) := by
  unfold afX
  by_cases h0 : k = 0
  · simp only [h0, if_true]; exact afH_lin hv
  · by_cases h1 : k = 1
    · subst h1; exact afM_lin hv
    · simp only [if_neg h0, if_neg h1]; exact afC_lin hv
def hst (k n b s : Nat) : Nat := if fmet n s = true then fkind k b s else s
theorem afX_one : ∀ k, k < 3 → ∀ n, n < 7 → ∀ b, b < 6 → ∀ s, s < 64 → afX k (ww n) (ww b) (nI (2 ^ b)) (one s) = one (hst k n b s) := by decide +kernel
/-- a DEED's -/
def dH (so : Int64) (k : Int32) (x : Int64) : Int64 := (x &&& ((x &&& (so ^^^ (-1))) ^^^ (-1))) ||| shlK (x &&& (so ^^^ (-1))) k
def dM (so : Int64) (k : Int32) (x : Int64) : Int64 := (x &&& ((x &&& so) ^^^ (-1))) ||| ushK (x &&& so) k
def afD (f u : Nat) (x : Int64) : Int64 := if u = 6 then dH (ww f) ((1 : Int32) <<< (nI f &&& 31)) x else dM (ww u) ((1 : Int32) <<< (nI u &&& 31)) (dH (ww f) ((1 : Int32) <<< (nI f &&& 31)) x)
theorem and_m1 (x : Int64) : x &&& (-1) = x := bt_ext fun s hs => by rw [bt_and, bt_m1 s hs, Bool.and_true]
theorem dH_eq (so : Int64) (k : Int32) : dH so k = afH (-1) so k := funext fun x => by rw [dH, afH, and_m1]
theorem dM_eq (so : Int64) (k : Int32) : dM so k = afM (-1) so k := funext fun x => by rw [dM, afM, and_m1]
theorem afD_lin {f u : Nat} (hf : f < 6) (hu : u < 7) : wlin (afD f u) := by
  have l1 : wlin (dH (ww f) ((1 : Int32) <<< (nI f &&& 31))) := by
    rw [dH_eq, q_shl1 f (by omega)]
    exact afH_lin (Nat.lt_of_le_of_lt (Nat.pow_le_pow_right (by decide) (show f ≤ 5 by omega)) (by decide))
  by_cases h : u = 6
  · rw [show afD f u = dH (ww f) ((1 : Int32) <<< (nI f &&& 31)) from funext fun x => if_pos h]; exact l1
  · have l2 : wlin (dM (ww u) ((1 : Int32) <<< (nI u &&& 31))) := by
      rw [dM_eq, q_shl1 u hu]
      exact afM_lin (Nat.lt_of_le_of_lt (Nat.pow_le_pow_right (by decide) (show u ≤ 5 by omega)) (by decide))
    rw [show afD f u = fun x => dM (ww u) ((1 : Int32) <<< (nI u &&& 31)) (dH (ww f) ((1 : Int32) <<< (nI f &&& 31)) x) from funext fun x => if_neg h]
    exact ⟨(congrArg _ l1.1).trans l2.1, fun a b => (congrArg _ (l1.2 a b)).trans (l2.2 _ _)⟩
def dst (f u s : Nat) : Nat := if u = 6 then s ||| 2 ^ f else fclr u (s ||| 2 ^ f)
theorem afD_one : ∀ f, f < 6 → ∀ u, u < 7 → ∀ s, s < 64 → afD f u (one s) = one (dst f u s) := by decide +kernel
/-- the HAPPENINGS of a MINUTE that are there -/
def hwl (T : ZT) (m th : Nat) : Nat → Int64 → Int64
  | 0, x => x
  | h + 1, x => if tq T 1 h = m ∧ th.testBit h = true then afX (tq T 0 h) (ww (tq T 2 h)) (ww (tq T 3 h)) ((1 : Int32) <<< (nI (tq T 3 h) &&& 31)) (hwl T m th h x) else hwl T m th h x
theorem hwl_no {T : ZT} {m th : Nat} {x : Int64} : ∀ {n : Nat}, (∀ h, h < n → ¬ tq T 1 h = m) → hwl T m th n x = x
  | 0, _ => rfl
  | n + 1, h => by rw [hwl, if_neg (fun z => h n (by omega) z.1)]; exact hwl_no (fun i hi => h i (by omega))
theorem shr_h : ∀ z, z < 64 → ∀ f, f < 6 → ((nI z >>> (nI f &&& 31)) &&& 1 = 1) = (z.testBit f = true) := by
  intro z hz f hf
  rw [shr_b z hz f hf]
  cases z.testBit f <;> simp
theorem ev_bit (w : Int64) {s : Nat} (hs : s < 64) : (w.toUInt64 >>> ((nI s).toInt64.toUInt64 &&& Int64.toUInt64 63)).toInt64 &&& 1 = 0 ↔ bt w s = false := by
  constructor
  · intro h
    cases hb : bt w s with
    | false => rfl
    | true => rw [(hs_bt w hs).mpr hb] at h; exact absurd h (by decide)
  · intro h
    apply bt_ext
    intro t ht
    rw [bt_and, bt_1 t ht, bt_0]
    by_cases e : t = 0
    · subst e; rw [bt_ushr w hs 0, Nat.add_zero, h]; rfl
    · rw [decide_eq_false e, Bool.and_false]
