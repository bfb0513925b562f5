/-! what CAN BE: sets of states as functions to Bool; idle ones, and those with a DEED that goes on (row 10 times the DEED and its end's last digit) -/
def bi (b : Bool) : Int32 := if b = true then 1 else 0
theorem bi_01 {b : Bool} : bi b = 0 ∨ bi b = 1 := by cases b <;> simp [bi]
theorem bi_0 {b : Bool} : bi b = 0 ↔ b = false := by cases b <;> simp [bi]
theorem bi_1 {b : Bool} : ¬ bi b = 0 ↔ b = true := by cases b <;> simp [bi]
def brep (r : Nat → Int32) (B : Nat → Bool) : Prop := ∀ f, f < 64 → r f = bi (B f)
def qrep (r : Nat → Int32) (Q : Nat → Nat → Bool) : Prop := ∀ w, w < 50 → ∀ f, f < 64 → r (64 * w + f) = bi (Q w f)
def imgN (g : Nat → Nat) (S : Nat → Bool) : Nat → Nat → Bool
  | 0, _ => false
  | n + 1, s => imgN g S n s || (S n && g n == s)
def stR (R : Nat → Nat → Int32) (a b c d : Nat → Int32) : Nat → Nat → Int32 := ur (ur (ur (ur R 28 a) 29 b) 30 c) 31 d
theorem stR_a (R : Nat → Nat → Int32) (a b c d x : Nat → Int32) : ur (stR R a b c d) 28 x = stR R x b c d := by
  funext z; unfold stR ur
  by_cases h1 : z = 28
  · subst h1; rfl
  · simp only [if_neg h1]
theorem stR_b (R : Nat → Nat → Int32) (a b c d x : Nat → Int32) : ur (stR R a b c d) 29 x = stR R a x c d := by
  funext z; unfold stR ur
  by_cases h1 : z = 29
  · subst h1; rfl
  · simp only [if_neg h1]
theorem stR_c (R : Nat → Nat → Int32) (a b c d x : Nat → Int32) : ur (stR R a b c d) 30 x = stR R a b x d := by
  funext z; unfold stR ur
  by_cases h1 : z = 30
  · subst h1; rfl
  · simp only [if_neg h1]
theorem stR_d (R : Nat → Nat → Int32) (a b c d x : Nat → Int32) : ur (stR R a b c d) 31 x = stR R a b c x := by
  funext z; unfold stR ur
  by_cases h1 : z = 31
  · subst h1; rfl
  · simp only [if_neg h1]
theorem stR_self (R : Nat → Nat → Int32) : stR R (R 28) (R 29) (R 30) (R 31) = R := by
  unfold stR
  rw [ur_self, show ur R 29 (R 29) = R from ur_self R 29, show ur R 30 (R 30) = R from ur_self R 30, show ur R 31 (R 31) = R from ur_self R 31]
theorem imgN_set {g : Nat → Nat} {S : Nat → Bool} {n : Nat} {r : Nat → Int32} (h : brep r (imgN g S n)) (hs : S n = true) : brep (upd r (g n) 1) (imgN g S (n + 1)) := fun f hf => by
  show (if f = g n then 1 else r f) = bi (imgN g S n f || (S n && g n == f))
  by_cases e : f = g n
  · rw [if_pos e, hs, e]; simp [bi]
  · rw [if_neg e, h f hf, hs]
    have : (g n == f) = false := by simp; exact fun z => e z.symm
    rw [this]; simp
theorem imgN_not {g : Nat → Nat} {S : Nat → Bool} {n : Nat} {r : Nat → Int32} (h : brep r (imgN g S n)) (hs : S n = false) : brep r (imgN g S (n + 1)) := fun f hf => by
  show r f = bi (imgN g S n f || (S n && g n == f))
  rw [h f hf, hs]; simp
def edn (T : ZT) (m : Nat) (Q : Nat → Nat → Bool) : Nat → Nat → Bool
  | 0, _ => false
  | d + 1, s => edn T m Q d s || imgN (den T d) (Q (10 * d + m % 10)) 64 s
/-- the idle states behind the ends of a MINUTE, as far as DEEDS below d, and states below n of DEED d -/
def eI (T : ZT) (m : Nat) (I : Nat → Bool) (Q : Nat → Nat → Bool) (d n : Nat) : Nat → Bool := fun s => (I s || edn T m Q d s) || imgN (den T d) (Q (10 * d + m % 10)) n s
def eQ (m : Nat) (Q : Nat → Nat → Bool) (d n : Nat) : Nat → Nat → Bool := fun w f => if (w % 10 = m % 10 ∧ w < 10 * d) ∨ (w = 10 * d + m % 10 ∧ f < n) then false else Q w f
def bQ (T : ZT) (m : Nat) (I : Nat → Bool) (Q : Nat → Nat → Bool) (d n : Nat) : Nat → Nat → Bool := fun w f => Q w f || ((decide (w % 10 = (m + tq T 7 (w / 10)) % 10) && (decide (w < 10 * d) || (decide (w / 10 = d) && decide (f < n)))) && (I f && may T (w / 10) m f))
def hQ (T : ZT) (m : Nat) (Q : Nat → Nat → Bool) (n : Nat) : Nat → Nat → Bool := fun w => if w < n then imgN (hap T m 0 T.1) (Q w) 64 else Q w
def gmin (T : ZT) (m : Nat) (s : (Nat → Bool) × (Nat → Nat → Bool)) : (Nat → Bool) × (Nat → Nat → Bool) :=
  (eI T m (imgN (hap T m 0 T.1) s.1 64) (hQ T m s.2 (10 * T.2.1)) T.2.1 0, bQ T m (eI T m (imgN (hap T m 0 T.1) s.1 64) (hQ T m s.2 (10 * T.2.1)) T.2.1 0) (eQ m (hQ T m s.2 (10 * T.2.1)) T.2.1 0) T.2.1 0)
def gst (T : ZT) : Nat → (Nat → Bool) × (Nat → Nat → Bool)
  | 0 => (fun f => f == 0, fun _ _ => false)
  | m + 1 => gmin T m (gst T m)
def anyN (B : Nat → Bool) : Nat → Bool
  | 0 => false
  | n + 1 => anyN B n || B n
def cbe (T : ZT) (M f : Nat) : Bool := (gst T M).1 f || anyN (fun w => (gst T M).2 w f) (10 * T.2.1)
def wone (C : Nat → Bool) (set : Nat) (n : Nat) : Bool := anyN (fun f => C f && (set &&& f == set)) n
theorem eI_set {T : ZT} {m : Nat} {I : Nat → Bool} {Q : Nat → Nat → Bool} {d n : Nat} {r : Nat → Int32} (h : brep r (eI T m I Q d n)) (hs : Q (10 * d + m % 10) n = true) : brep (upd r (den T d n) 1) (eI T m I Q d (n + 1)) := fun f hf => by
  show (if f = den T d n then 1 else r f) = bi ((I f || edn T m Q d f) || (imgN (den T d) (Q (10 * d + m % 10)) n f || (Q (10 * d + m % 10) n && den T d n == f)))
  by_cases e : f = den T d n
  · rw [if_pos e, hs, e]; simp [bi]
  · rw [if_neg e, h f hf, hs]
    have : (den T d n == f) = false := by simp; exact fun z => e z.symm
    rw [this]; simp [eI]
theorem eI_not {T : ZT} {m : Nat} {I : Nat → Bool} {Q : Nat → Nat → Bool} {d n : Nat} {r : Nat → Int32} (h : brep r (eI T m I Q d n)) (hs : Q (10 * d + m % 10) n = false) : brep r (eI T m I Q d (n + 1)) := fun f hf => by
  show r f = bi ((I f || edn T m Q d f) || (imgN (den T d) (Q (10 * d + m % 10)) n f || (Q (10 * d + m % 10) n && den T d n == f)))
  rw [h f hf, hs]; simp [eI]
theorem eI_next (T : ZT) (m : Nat) (I : Nat → Bool) (Q : Nat → Nat → Bool) (d : Nat) : eI T m I Q d 64 = eI T m I Q (d + 1) 0 := by
  funext s
  show ((I s || edn T m Q d s) || imgN (den T d) (Q (10 * d + m % 10)) 64 s) = ((I s || (edn T m Q d s || imgN (den T d) (Q (10 * d + m % 10)) 64 s)) || false)
  rw [Bool.or_false, Bool.or_assoc]
theorem eQ_set {m : Nat} {Q : Nat → Nat → Bool} {d n : Nat} {r : Nat → Int32} (h : qrep r (eQ m Q d n)) (hd : d < 5) (hn : n < 64) : qrep (upd r (64 * (10 * d + m % 10) + n) 0) (eQ m Q d (n + 1)) := fun w hw f hf => by
  show (if 64 * w + f = 64 * (10 * d + m % 10) + n then 0 else r (64 * w + f)) = bi (if (w % 10 = m % 10 ∧ w < 10 * d) ∨ (w = 10 * d + m % 10 ∧ f < n + 1) then false else Q w f)
  by_cases e : 64 * w + f = 64 * (10 * d + m % 10) + n
  · rw [if_pos e, if_pos (Or.inr (by omega))]; rfl
  · rw [if_neg e, h w hw f hf]
    show bi (if (w % 10 = m % 10 ∧ w < 10 * d) ∨ (w = 10 * d + m % 10 ∧ f < n) then false else Q w f) = _
    by_cases c : (w % 10 = m % 10 ∧ w < 10 * d) ∨ (w = 10 * d + m % 10 ∧ f < n)
    · rw [if_pos c, if_pos (c.imp id (fun z => ⟨z.1, by omega⟩))]
    · rw [if_neg c, if_neg (fun z => c (z.imp id (fun z => ⟨z.1, by omega⟩)))]
theorem eQ_not {m : Nat} {Q : Nat → Nat → Bool} {d n : Nat} {r : Nat → Int32} (h : qrep r (eQ m Q d n)) (hs : Q (10 * d + m % 10) n = false) : qrep r (eQ m Q d (n + 1)) := fun w hw f hf => by
  rw [h w hw f hf]
  show bi (if (w % 10 = m % 10 ∧ w < 10 * d) ∨ (w = 10 * d + m % 10 ∧ f < n) then false else Q w f) = bi (if (w % 10 = m % 10 ∧ w < 10 * d) ∨ (w = 10 * d + m % 10 ∧ f < n + 1) then false else Q w f)
  by_cases c : (w % 10 = m % 10 ∧ w < 10 * d) ∨ (w = 10 * d + m % 10 ∧ f < n)
  · rw [if_pos c, if_pos (c.imp id (fun z => ⟨z.1, by omega⟩))]
  · rw [if_neg c]
    by_cases c2 : w = 10 * d + m % 10 ∧ f = n
    · rw [if_pos (Or.inr ⟨c2.1, by omega⟩), c2.1, c2.2, hs]
    · rw [if_neg (fun z => c (z.imp id (fun z => ⟨z.1, by omega⟩)))]
theorem eQ_next (m : Nat) (Q : Nat → Nat → Bool) (d : Nat) {r : Nat → Int32} (h : qrep r (eQ m Q d 64)) : qrep r (eQ m Q (d + 1) 0) := fun w hw f hf => by
  rw [h w hw f hf]
  show bi (if (w % 10 = m % 10 ∧ w < 10 * d) ∨ (w = 10 * d + m % 10 ∧ f < 64) then false else Q w f) = bi (if (w % 10 = m % 10 ∧ w < 10 * (d + 1)) ∨ (w = 10 * (d + 1) + m % 10 ∧ f < 0) then false else Q w f)
  by_cases c : (w % 10 = m % 10 ∧ w < 10 * d) ∨ (w = 10 * d + m % 10 ∧ f < 64)
  · rw [if_pos c, if_pos (Or.inl (by omega))]
  · rw [if_neg c, if_neg (by omega)]
theorem eQ_at {m : Nat} {Q : Nat → Nat → Bool} {d n : Nat} : eQ m Q d n (10 * d + m % 10) n = Q (10 * d + m % 10) n := if_neg (by omega)
theorem eQ_0 (m : Nat) (Q : Nat → Nat → Bool) : eQ m Q 0 0 = Q := by
  funext w f; exact if_neg (by omega)
theorem eI_0 (T : ZT) (m : Nat) (I : Nat → Bool) (Q : Nat → Nat → Bool) : eI T m I Q 0 0 = I := by
  funext s; simp [eI, edn, imgN]
theorem bQ_0 (T : ZT) (m : Nat) (I : Nat → Bool) (Q : Nat → Nat → Bool) : bQ T m I Q 0 0 = Q := by
  funext w f; simp [bQ]
theorem bQ_set {T : ZT} {m : Nat} {I : Nat → Bool} {Q : Nat → Nat → Bool} {d n : Nat} {r : Nat → Int32} (h : qrep r (bQ T m I Q d n)) (hd : d < 5) (hn : n < 64) (hI : I n = true) (hM : may T d m n = true) : qrep (upd r (64 * (10 * d + (m + tq T 7 d) % 10) + n) 1) (bQ T m I Q d (n + 1)) := fun w hw f hf => by
  show (if 64 * w + f = 64 * (10 * d + (m + tq T 7 d) % 10) + n then 1 else r (64 * w + f)) = bi (Q w f || ((decide (w % 10 = (m + tq T 7 (w / 10)) % 10) && (decide (w < 10 * d) || (decide (w / 10 = d) && decide (f < n + 1)))) && (I f && may T (w / 10) m f)))
  by_cases e : 64 * w + f = 64 * (10 * d + (m + tq T 7 d) % 10) + n
  · have e1 : w / 10 = d := by omega
    have e2 : f = n := by omega
    have e3 : w % 10 = (m + tq T 7 d) % 10 := by omega
    rw [if_pos e, e1, e2, hI, hM]
    simp [e3, bi]
  · rw [if_neg e, h w hw f hf]
    show bi (Q w f || ((decide (w % 10 = (m + tq T 7 (w / 10)) % 10) && (decide (w < 10 * d) || (decide (w / 10 = d) && decide (f < n)))) && (I f && may T (w / 10) m f))) = _
    by_cases c : w % 10 = (m + tq T 7 (w / 10)) % 10
    · by_cases c2 : w / 10 = d
      · rw [c2] at c
        have c3 : ¬ f = n := by omega
        have c4 : decide (f < n + 1) = decide (f < n) := by
          by_cases z : f < n
          · simp [z, Nat.lt_succ_of_lt z]
          · simp [z, show ¬ f < n + 1 by omega]
        rw [c4]
      · simp [c2]
    · simp [c]
theorem bQ_not {T : ZT} {m : Nat} {I : Nat → Bool} {Q : Nat → Nat → Bool} {d n : Nat} {r : Nat → Int32} (h : qrep r (bQ T m I Q d n)) (hI : (I n && may T d m n) = false) : qrep r (bQ T m I Q d (n + 1)) := fun w hw f hf => by
  rw [h w hw f hf]
  show bi (Q w f || ((decide (w % 10 = (m + tq T 7 (w / 10)) % 10) && (decide (w < 10 * d) || (decide (w / 10 = d) && decide (f < n)))) && (I f && may T (w / 10) m f))) = bi (Q w f || ((decide (w % 10 = (m + tq T 7 (w / 10)) % 10) && (decide (w < 10 * d) || (decide (w / 10 = d) && decide (f < n + 1)))) && (I f && may T (w / 10) m f)))
  by_cases c2 : w / 10 = d ∧ f = n
  · rw [c2.1, c2.2, hI]; simp
  · have c4 : (decide (w / 10 = d) && decide (f < n + 1)) = (decide (w / 10 = d) && decide (f < n)) := by
      by_cases z0 : w / 10 = d
      · have : ¬ f = n := fun z => c2 ⟨z0, z⟩
        by_cases z : f < n
        · simp [z, Nat.lt_succ_of_lt z]
        · simp [z, show ¬ f < n + 1 by omega]
      · simp [z0]
    rw [c4]
theorem bQ_next (T : ZT) (m : Nat) (I : Nat → Bool) (Q : Nat → Nat → Bool) (d : Nat) {r : Nat → Int32} (h : qrep r (bQ T m I Q d 64)) : qrep r (bQ T m I Q (d + 1) 0) := fun w hw f hf => by
  rw [h w hw f hf]
  show bi (Q w f || ((decide (w % 10 = (m + tq T 7 (w / 10)) % 10) && (decide (w < 10 * d) || (decide (w / 10 = d) && decide (f < 64)))) && (I f && may T (w / 10) m f))) = bi (Q w f || ((decide (w % 10 = (m + tq T 7 (w / 10)) % 10) && (decide (w < 10 * (d + 1)) || (decide (w / 10 = d + 1) && decide (f < 0)))) && (I f && may T (w / 10) m f)))
  have c4 : (decide (w < 10 * d) || (decide (w / 10 = d) && decide (f < 64))) = (decide (w < 10 * (d + 1)) || (decide (w / 10 = d + 1) && decide (f < 0))) := by
    simp only [hf, decide_true, Bool.and_true, Nat.not_lt_zero, decide_false, Bool.and_false, Bool.or_false]
    rw [← Bool.decide_or]
    congr 1
    apply propext
    omega
  rw [c4]
theorem place_n {d m f : Nat} (hd : d < 5) (hm : m < 200) (hf : f < 64) : ((10 : Int32) * nI d + (nI m - nI m / 10 * 10)) * 64 + nI f = nI (64 * (10 * d + m % 10) + f) := by
  rw [show (10 : Int32) = nI 10 from rfl, show (64 : Int32) = nI 64 from rfl, pk_rem (by omega) (by decide) (by decide), pk_mul, nI_add, pk_mul, nI_add]
  congr 1; omega
theorem hQ_s (T : ZT) (m : Nat) (Q : Nat → Nat → Bool) {n : Nat} {r : Nat → Int32} (h : ∀ w, w < 50 → ∀ f, f < 64 → w ≠ n → r (64 * w + f) = bi (hQ T m Q n w f)) (h2 : ∀ f, f < 64 → r (64 * n + f) = bi (imgN (hap T m 0 T.1) (Q n) 64 f)) : qrep r (hQ T m Q (n + 1)) := fun w hw f hf => by
  by_cases e : w = n
  · subst e; rw [h2 f hf, hQ, if_pos (by omega)]
  · rw [h w hw f hf e]
    unfold hQ
    by_cases z : w < n
    · rw [if_pos z, if_pos (by omega)]
    · rw [if_neg z, if_neg (by omega)]
theorem hQ_0 (T : ZT) (m : Nat) (Q : Nat → Nat → Bool) : hQ T m Q 0 = Q := by
  funext w; exact if_neg (by omega)
