/-! what becomes of worlds, by what becomes of states -/
def one (s : Nat) : Int64 := (1 : Int64) <<< ((nI s).toInt64 &&& 63)
def wlin (φ : Int64 → Int64) : Prop := φ 0 = 0 ∧ ∀ a b, φ (a ||| b) = φ a ||| φ b
def sumw (A : Nat → Bool) : Nat → Int64
  | 0 => 0
  | n + 1 => sumw A n ||| (if A n = true then one n else 0)
theorem bt_sumw (A : Nat → Bool) : ∀ n, n ≤ 64 → ∀ t, t < 64 → bt (sumw A n) t = (decide (t < n) && A t)
  | 0, _, t, _ => by rw [sumw, bt_0]; simp
  | n + 1, hn, t, ht => by
    rw [sumw, bt_or, bt_sumw A n (by omega) t ht]
    by_cases e : t = n
    · subst e
      cases h : A t
      · rw [if_neg (by simp), bt_0]; simp
      · rw [if_pos rfl, one, bt_one t ht t ht]; simp
    · have h0 : bt (if A n = true then one n else 0) t = false := by
        split
        · rw [one, bt_one n (by omega) t ht]; exact decide_eq_false e
        · exact bt_0 t
      rw [h0, Bool.or_false]
      congr 1
      exact decide_eq_decide.mpr ⟨fun z => by omega, fun z => by omega⟩
def wrep (w : Int64) (A : Nat → Bool) : Prop := ∀ s, s < 64 → bt w s = A s
theorem wrep_sum {w : Int64} {A : Nat → Bool} (h : wrep w A) : w = sumw A 64 := bt_ext (fun s hs => by rw [bt_sumw A 64 (by omega) s hs, h s hs, decide_eq_true hs]; rfl)
theorem wlin_img {φ : Int64 → Int64} {f : Nat → Nat} (hl : wlin φ) (hf : ∀ s, s < 64 → f s < 64 ∧ φ (one s) = one (f s)) (A : Nat → Bool) : ∀ n, n ≤ 64 → ∀ t, t < 64 → (bt (φ (sumw A n)) t = true ↔ ∃ s, s < n ∧ A s = true ∧ f s = t)
  | 0, _, t, _ => by rw [sumw, hl.1, bt_0]; exact ⟨fun z => absurd z (by decide), fun ⟨s, hs, _⟩ => absurd hs (by omega)⟩
  | n + 1, hn, t, ht => by
    rw [sumw, hl.2, bt_or, Bool.or_eq_true, wlin_img hl hf A n (by omega) t ht]
    obtain ⟨g1, g2⟩ := hf n (by omega)
    have h0 : bt (φ (if A n = true then one n else 0)) t = true ↔ A n = true ∧ f n = t := by
      split
      · next h => rw [g2, one, bt_one (f n) g1 t ht, decide_eq_true_eq]; exact ⟨fun z => ⟨h, z.symm⟩, fun z => z.2.symm⟩
      · next h => rw [hl.1, bt_0]; exact ⟨fun z => absurd z (by decide), fun z => absurd z.1 h⟩
    rw [h0]
    constructor
    · rintro (⟨s, hs, e⟩ | e)
      · exact ⟨s, by omega, e⟩
      · exact ⟨n, by omega, e⟩
    · rintro ⟨s, hs, e⟩
      by_cases z : s = n
      · subst z; exact Or.inr e
      · exact Or.inl ⟨s, by omega, e⟩
def ushK (x : Int64) (k : Int32) : Int64 := (x.toUInt64 >>> (k.toInt64.toUInt64 &&& Int64.toUInt64 63)).toInt64
def shlK (x : Int64) (k : Int32) : Int64 := x <<< (k.toInt64 &&& 63)
def afH (me so : Int64) (k : Int32) (x : Int64) : Int64 := (x &&& ((x &&& me &&& (so ^^^ (-1))) ^^^ (-1))) ||| shlK (x &&& me &&& (so ^^^ (-1))) k
def afM (me so : Int64) (k : Int32) (x : Int64) : Int64 := (x &&& ((x &&& me &&& so) ^^^ (-1))) ||| ushK (x &&& me &&& so) k
def afC (me so : Int64) (k : Int32) (x : Int64) : Int64 := (x &&& (me ^^^ (-1))) ||| shlK (x &&& me &&& (so ^^^ (-1))) k ||| ushK (x &&& me &&& so) k
theorem bt_ushK (x : Int64) {k : Nat} (hk : k < 64) (t : Nat) : bt (ushK x (nI k)) t = bt x (k + t) := bt_ushr x hk t
theorem bt_shlK (x : Int64) {k : Nat} (hk : k < 64) {t : Nat} (ht : t < 64) : bt (shlK x (nI k)) t = (!decide (t < k) && bt x (t - k)) := bt_shl x hk t ht
theorem bz8 : ∀ a b m s c a2 b2 m2 s2 : Bool, (((a || b) && !((a || b) && m && !s)) || (c && ((a2 || b2) && m2 && !s2))) = (((a && !(a && m && !s)) || (c && (a2 && m2 && !s2))) || ((b && !(b && m && !s)) || (c && (b2 && m2 && !s2)))) := by decide
theorem afH_lin {me so : Int64} {k : Nat} (hk : k < 64) : wlin (afH me so (nI k)) := by
  refine ⟨bt_ext fun t ht => ?_, fun a b => bt_ext fun t ht => ?_⟩
  · simp only [afH, bt_or, bt_and, bt_not _ ht, bt_shlK _ hk ht, bt_0]; simp
  · have hn : ∀ y, bt (so ^^^ (-1)) (t - k) = y → y = !bt so (t - k) := fun y hy => by rw [← hy, bt_not _ (by omega)]
    simp only [afH, bt_or, bt_and, bt_not _ ht, bt_shlK _ hk ht, bt_not so (show t - k < 64 by omega)]
    exact bz8 _ _ _ _ _ _ _ _ _
theorem bz9 : ∀ a b m s a2 b2 m2 s2 : Bool, (((a || b) && !((a || b) && m && s)) || ((a2 || b2) && m2 && s2)) = (((a && !(a && m && s)) || (a2 && m2 && s2)) || ((b && !(b && m && s)) || (b2 && m2 && s2))) := by decide
theorem afM_lin {me so : Int64} {k : Nat} (hk : k < 64) : wlin (afM me so (nI k)) := by
  refine ⟨bt_ext fun t ht => ?_, fun a b => bt_ext fun t ht => ?_⟩
  · simp only [afM, bt_or, bt_and, bt_not _ ht, bt_ushK _ hk, bt_0]; simp
  · simp only [afM, bt_or, bt_and, bt_not _ ht, bt_ushK _ hk]
    exact bz9 _ _ _ _ _ _ _ _
theorem bz10 : ∀ a b m c a2 b2 m2 s2 a3 b3 m3 s3 : Bool, ((((a || b) && !m) || (c && ((a2 || b2) && m2 && !s2))) || ((a3 || b3) && m3 && s3)) = ((((a && !m) || (c && (a2 && m2 && !s2))) || (a3 && m3 && s3)) || (((b && !m) || (c && (b2 && m2 && !s2))) || (b3 && m3 && s3))) := by decide
theorem afC_lin {me so : Int64} {k : Nat} (hk : k < 64) : wlin (afC me so (nI k)) := by
  refine ⟨bt_ext fun t ht => ?_, fun a b => bt_ext fun t ht => ?_⟩
  · simp only [afC, bt_or, bt_and, bt_not _ ht, bt_shlK _ hk ht, bt_ushK _ hk, bt_0]; simp
  · simp only [afC, bt_or, bt_and, bt_not _ ht, bt_shlK _ hk ht, bt_ushK _ hk, bt_not so (show t - k < 64 by omega)]
    exact bz10 _ _ _ _ _ _ _ _ _ _ _ _
/-- a HAPPENING's, by its kind -/
def afX (k : Nat) (me so : Int64) (v : Int32) (x : Int64) : Int64 := if k = 0 then afH me so v x else if k = 1 then afM me so v x else afC me so v x
theorem afX_lin (k : Nat) {me so : Int64} {v : Nat} (hv : v < 64) : wlin (afX k me so (nI v)) := by
  unfold afX
  by_cases h0 : k = 0
  · simp only [h0, if_true]; exact afH_lin hv
  · by_cases h1 : k = 1
    · subst h1; exact afM_lin hv
    · simp only [if_neg h0, if_neg h1]; exact afC_lin hv
def hst (k n b s : Nat) : Nat := if fmet n s = true then fkind k b s else s
theorem afX_one : ∀ k, k < 3 → ∀ n, n < 7 → ∀ b, b < 6 → ∀ s, s < 64 → afX k (ww n) (ww b) (nI (2 ^ b)) (one s) = one (hst k n b s) := by decide +kernel
/-- a DEED's -/
def afD (f u : Nat) (x : Int64) : Int64 := if u = 6 then afH (-1) (ww f) (nI (2 ^ f)) x else afM (-1) (ww u) (nI (2 ^ u)) (afH (-1) (ww f) (nI (2 ^ f)) x)
