/-! the plain picture of a TUESDAY: how many HAPPENINGS, DEEDS, MINUTES; attributes: 0 kind, 1 MINUTE, 2 NEED, 3 FACT; of DEEDS: 4 NEED, 5 FACT, 6 UNDOES, 7 LONG -/
abbrev ZT : Type := Nat × Nat × Nat × (Nat → Nat → Nat)
def tq (T : ZT) (a h : Nat) : Nat := T.2.2.2 a h
def tok (T : ZT) : Prop := T.1 ≤ 6 ∧ T.2.1 ≤ 5 ∧ T.2.2.1 ≤ 60 ∧ (∀ h, h < T.1 → tq T 0 h ≤ 2 ∧ tq T 1 h ≤ 59 ∧ tq T 2 h ≤ 6 ∧ tq T 3 h ≤ 5) ∧ (∀ d, d < T.2.1 → tq T 4 d ≤ 6 ∧ tq T 5 d ≤ 5 ∧ tq T 6 d ≤ 6 ∧ 1 ≤ tq T 7 d ∧ tq T 7 d ≤ 9)
def mrep (T : ZT) (F : Nat → Int32) (R : Nat → Nat → Int32) : Prop := tok T ∧ F 5 = nI T.1 ∧ F 6 = nI T.2.1 ∧ F 7 = nI T.2.2.1 ∧ (∀ h, h < T.1 → R 8 h = nI (tq T 0 h) ∧ R 9 h = nI (tq T 1 h) ∧ R 10 h = nI (tq T 2 h) ∧ R 11 h = nI (tq T 3 h)) ∧ (∀ d, d < T.2.1 → R 12 d = nI (tq T 4 d) ∧ R 13 d = nI (tq T 5 d) ∧ R 14 d = nI (tq T 6 d) ∧ R 15 d = nI (tq T 7 d))
def fmet (n f : Nat) : Bool := n == 6 || f.testBit n
def fclr (b f : Nat) : Nat := (f ||| 2 ^ b) ^^^ 2 ^ b
def fkind (k b f : Nat) : Nat := if k = 0 then f ||| 2 ^ b else if k = 1 then fclr b f else f ^^^ 2 ^ b
def hp1 (T : ZT) (m wo h f : Nat) : Nat := if tq T 1 h = m ∧ wo.testBit h = false ∧ fmet (tq T 2 h) f = true then fkind (tq T 0 h) (tq T 3 h) f else f
/-- the HAPPENINGS below n, one after another -/
def hap (T : ZT) (m wo : Nat) : Nat → Nat → Nat
  | 0, f => f
  | h + 1, f => hp1 T m wo h (hap T m wo h f)
def den (T : ZT) (d f : Nat) : Nat := if tq T 6 d = 6 then f ||| 2 ^ tq T 5 d else fclr (tq T 6 d) (f ||| 2 ^ tq T 5 d)
def may (T : ZT) (d m f : Nat) : Bool := fmet (tq T 4 d) f && decide (m + tq T 7 d < T.2.2.1)
theorem q_met : ∀ n, n < 7 → ∀ f, f < 64 → (decide (nI n = 6 ∨ (nI f >>> (nI n &&& 31)) &&& 1 = 1)) = fmet n f := by decide +kernel
theorem q_metI {n f : Nat} (hn : n ≤ 6) (hf : f < 64) : (nI n = 6 ∨ (nI f >>> (nI n &&& 31)) &&& 1 = 1) ↔ fmet n f = true := by
  rw [← q_met n (by omega) f hf, decide_eq_true_iff]
theorem q_or : ∀ b, b < 6 → ∀ f, f < 64 → nI f ||| ((1 : Int32) <<< (nI b &&& 31)) = nI (f ||| 2 ^ b) := by decide +kernel
theorem q_clr : ∀ b, b < 6 → ∀ f, f < 64 → nI f &&& (((1 : Int32) <<< (nI b &&& 31)) ^^^ (-1)) = nI (fclr b f) := by decide +kernel
theorem q_xor : ∀ b, b < 6 → ∀ f, f < 64 → nI f ^^^ ((1 : Int32) <<< (nI b &&& 31)) = nI (f ^^^ 2 ^ b) := by decide +kernel
theorem q_bit : ∀ h, h < 6 → ∀ wo, wo < 64 → (decide ((nI wo >>> (nI h &&& 31)) &&& 1 = 0)) = !(wo.testBit h) := by decide +kernel
theorem q_bitI {h wo : Nat} (hh : h < 6) (hw : wo < 64) : ((nI wo >>> (nI h &&& 31)) &&& 1 = 0) ↔ wo.testBit h = false := by
  have := q_bit h hh wo hw
  cases hb : wo.testBit h <;> simp [hb] at this <;> simp [this]
theorem q_or64 : ∀ b, b < 6 → ∀ f, f < 64 → f ||| 2 ^ b < 64 := by decide +kernel
theorem q_clr64 : ∀ b, b < 6 → ∀ f, f < 64 → fclr b f < 64 := by decide +kernel
theorem q_xor64 : ∀ b, b < 6 → ∀ f, f < 64 → f ^^^ 2 ^ b < 64 := by decide +kernel
theorem fkind64 {k b f : Nat} (hb : b ≤ 5) (hf : f < 64) : fkind k b f < 64 := by
  unfold fkind
  split
  · exact q_or64 b (by omega) f hf
  · split
    · exact q_clr64 b (by omega) f hf
    · exact q_xor64 b (by omega) f hf
theorem hp1_64 {T : ZT} (ht : tok T) {m wo h f : Nat} (hh : h < T.1) (hf : f < 64) : hp1 T m wo h f < 64 := by
  unfold hp1
  split
  · exact fkind64 (ht.2.2.2.1 h hh).2.2.2 hf
  · exact hf
theorem hap_64 {T : ZT} (ht : tok T) {m wo : Nat} : ∀ {n f : Nat}, n ≤ T.1 → f < 64 → hap T m wo n f < 64
  | 0, f, _, hf => hf
  | n + 1, f, hn, hf => hp1_64 ht (by omega) (hap_64 ht (by omega) hf)
theorem den_64 {T : ZT} (ht : tok T) {d f : Nat} (hd : d < T.2.1) (hf : f < 64) : den T d f < 64 := by
  have h := ht.2.2.2.2 d hd
  have h1 := q_or64 (tq T 5 d) (by omega) f hf
  unfold den
  split
  · exact h1
  · exact q_clr64 _ (by omega) _ h1
/-- fields and rows, set again -/
theorem upd_upd (F : Nat → Int32) (k : Nat) (a b : Int32) : upd (upd F k a) k b = upd F k b := by
  funext j; unfold upd; split <;> rfl
theorem ur_ur (R : Nat → Nat → Int32) (k : Nat) (a b : Nat → Int32) : ur (ur R k a) k b = ur R k b := by
  funext j; unfold ur; split <;> rfl
theorem upd_self (F : Nat → Int32) (k : Nat) : upd F k (F k) = F := by
  funext j; unfold upd; split
  · next h => rw [h]
  · rfl
theorem ur_self (R : Nat → Nat → Int32) (k : Nat) : ur R k (R k) = R := by
  funext j; unfold ur; split
  · next h => rw [h]
  · rfl
theorem upd_eq (F : Nat → Int32) (k : Nat) (a : Int32) : upd F k a k = a := if_pos rfl
theorem upd_ne (F : Nat → Int32) {k j : Nat} (a : Int32) (h : j ≠ k) : upd F k a j = F j := if_neg h
theorem ur_eq (R : Nat → Nat → Int32) (k : Nat) (a : Nat → Int32) : ur R k a k = a := if_pos rfl
theorem ur_ne (R : Nat → Nat → Int32) {k j : Nat} (a : Nat → Int32) (h : j ≠ k) : ur R k a j = R j := if_neg h
def bzv (b : Option Nat) : Int32 := match b with
  | none => -9
  | some d => nI d
theorem bzv_none {b : Option Nat} (hb : ∀ d, b = some d → d < 2 ^ 31) : bzv b = -9 ↔ b = none := by
  cases b with
  | none => exact ⟨fun _ => rfl, fun _ => rfl⟩
  | some d =>
    refine ⟨fun h => ?_, fun h => by cases h⟩
    have h1 : (nI d).toInt = (-9 : Int32).toInt := congrArg Int32.toInt h
    rw [nI_toInt (hb d rfl), show (-9 : Int32).toInt = -9 by decide] at h1
    omega
/-- a ROW: how many pairs, MINUTES, DEEDS -/
abbrev ZP : Type := Nat × (Nat → Nat) × (Nat → Nat)
def prow (T : ZT) (P : ZP) (F : Nat → Int32) (R : Nat → Nat → Int32) : Prop := P.1 ≤ 20 ∧ F 21 = nI P.1 ∧ ∀ k, k < P.1 → R 22 k = nI (P.2.1 k) ∧ P.2.1 k ≤ 59 ∧ R 23 k = nI (P.2.2 k) ∧ P.2.2 k < T.2.1
/-- the greatest MINUTE of the pairs below k, plus one (0: none) -/
def pmax (P : ZP) : Nat → Nat
  | 0 => 0
  | k + 1 => max (pmax P k) (P.2.1 k + 1)
/-- the pair that comes up in a MINUTE, from place k on, n places -/
def pinF (P : ZP) (m : Nat) : Nat → Nat → Option Nat
  | 0, _ => none
  | n + 1, k => if P.2.1 k = m ∧ pmax P k ≤ m then some k else pinF P m n (k + 1)
def pin (P : ZP) (m : Nat) : Option Nat := pinF P m P.1 0
theorem pinF_lt {P : ZP} {m : Nat} : ∀ {n k j : Nat}, pinF P m n k = some j → k ≤ j ∧ j < k + n ∧ P.2.1 j = m ∧ pmax P j ≤ m
  | 0, k, j, h => by cases h
  | n + 1, k, j, h => by
    unfold pinF at h
    split at h
    · next hc => cases h; exact ⟨Nat.le_refl _, by omega, hc.1, hc.2⟩
    · obtain ⟨h1, h2, h3⟩ := pinF_lt h
      exact ⟨by omega, by omega, h3⟩
theorem pin_lt {P : ZP} {m j : Nat} (h : pin P m = some j) : j < P.1 ∧ P.2.1 j = m ∧ pmax P j ≤ m := by
  obtain ⟨-, h2, h3⟩ := pinF_lt h
  exact ⟨by omega, h3⟩
/-- a day: FACTS, the DEED that goes on, till when, which pairs were begun -/
abbrev ZD : Type := Nat × Option Nat × Nat × (Nat → Bool)
def rset (r : Nat → Bool) (k : Nat) : Nat → Bool := fun j => if j = k then true else r j
/-- behind the ends of a MINUTE: FACTS, and the DEED that goes on -/
def dend (T : ZT) (wo m : Nat) (s : ZD) : Nat × Option Nat := match s.2.1 with
  | none => (hap T m wo T.1 s.1, none)
  | some d => if s.2.2.1 = m then (den T d (hap T m wo T.1 s.1), none) else (hap T m wo T.1 s.1, some d)
def doth (T : ZT) (oe : Option (Nat × Nat)) (m f : Nat) : Nat := match oe with
  | none => f
  | some q => if q.1 = m then den T q.2 f else f
def dbeg (T : ZT) (P : ZP) (m f : Nat) (b : Option Nat) (till : Nat) (r : Nat → Bool) : ZD := match pin P m with
  | none => (f, b, till, r)
  | some k => if b = none ∧ may T (P.2.2 k) m f = true then (f, some (P.2.2 k), m + tq T 7 (P.2.2 k), rset r k) else (f, b, till, r)
def dstep (T : ZT) (P : ZP) (wo : Nat) (oe : Option (Nat × Nat)) (m : Nat) (s : ZD) : ZD := dbeg T P m (doth T oe m (dend T wo m s).1) (dend T wo m s).2 s.2.2.1 s.2.2.2
def run (T : ZT) (P : ZP) (wo : Nat) (oe : Option (Nat × Nat)) : Nat → ZD
  | 0 => (0, none, 0, fun _ => false)
  | m + 1 => dstep T P wo oe m (run T P wo oe m)
theorem dbeg_f {T : ZT} {P : ZP} {m f : Nat} {b : Option Nat} {till : Nat} {r : Nat → Bool} : (dbeg T P m f b till r).1 = f := by
  unfold dbeg; split
  · rfl
  · split <;> rfl
/-- what is kept of a day -/
def dok (T : ZT) (s : ZD) : Prop := s.1 < 64 ∧ (∀ d, s.2.1 = some d → d < T.2.1) ∧ s.2.2.1 ≤ 70
def pok (T : ZT) (P : ZP) : Prop := P.1 ≤ 20 ∧ ∀ k, k < P.1 → P.2.1 k ≤ 59 ∧ P.2.2 k < T.2.1
theorem dend_ok {T : ZT} (ht : tok T) {wo m : Nat} {s : ZD} (h : dok T s) : (dend T wo m s).1 < 64 ∧ ∀ d, (dend T wo m s).2 = some d → d < T.2.1 := by
  unfold dend
  have h1 := hap_64 ht (m := m) (wo := wo) (Nat.le_refl T.1) h.1
  split
  · exact ⟨h1, fun d hd => by cases hd⟩
  · next d hd =>
    split
    · exact ⟨den_64 ht (h.2.1 d hd) h1, fun d hd => by cases hd⟩
    · exact ⟨h1, fun d2 hd2 => by cases hd2; exact h.2.1 d hd⟩
theorem doth_ok {T : ZT} (ht : tok T) {oe : Option (Nat × Nat)} {m f : Nat} (ho : ∀ q, oe = some q → q.2 < T.2.1) (hf : f < 64) : doth T oe m f < 64 := by
  unfold doth
  split
  · exact hf
  · next q =>
    split
    · exact den_64 ht (ho q rfl) hf
    · exact hf
theorem dbeg_ok {T : ZT} (ht : tok T) {P : ZP} (hp : pok T P) {m f : Nat} {b : Option Nat} {till : Nat} {r : Nat → Bool} (hm : m < 60) (hf : f < 64) (hb : ∀ d, b = some d → d < T.2.1) (htl : till ≤ 70) : dok T (dbeg T P m f b till r) := by
  unfold dbeg
  split
  · exact ⟨hf, hb, htl⟩
  · next k hk =>
    have h1 := hp.2 k (pin_lt hk).1
    have h2 := ht.2.2.2.2 _ h1.2
    split
    · refine ⟨hf, fun d hd => ?_, ?_⟩
      · cases hd; exact h1.2
      · show m + tq T 7 (P.2.2 k) ≤ 70
        omega
    · exact ⟨hf, hb, htl⟩
theorem dstep_ok {T : ZT} (ht : tok T) {P : ZP} (hp : pok T P) {wo : Nat} {oe : Option (Nat × Nat)} {m : Nat} {s : ZD} (ho : ∀ q, oe = some q → q.2 < T.2.1) (hm : m < 60) (h : dok T s) : dok T (dstep T P wo oe m s) := by
  have h1 := dend_ok ht (wo := wo) (m := m) h
  exact dbeg_ok ht hp hm (doth_ok ht ho h1.1) h1.2 h.2.2
theorem run_ok {T : ZT} (ht : tok T) {P : ZP} (hp : pok T P) {wo : Nat} {oe : Option (Nat × Nat)} (ho : ∀ q, oe = some q → q.2 < T.2.1) : ∀ {m : Nat}, m ≤ 60 → dok T (run T P wo oe m)
  | 0, _ => ⟨by simp [run], fun d hd => by simp [run] at hd, by simp [run]⟩
  | m + 1, hm => dstep_ok ht hp ho (by omega) (run_ok ht hp ho (by omega))
theorem run_none {T : ZT} {P : ZP} {wo e d : Nat} : ∀ {m : Nat}, m ≤ e → run T P wo (some (e, d)) m = run T P wo none m
  | 0, _ => rfl
  | m + 1, hm => by
    show dstep T P wo (some (e, d)) m (run T P wo (some (e, d)) m) = dstep T P wo none m (run T P wo none m)
    rw [run_none (by omega : m ≤ e)]
    unfold dstep
    have : doth T (some (e, d)) m (dend T wo m (run T P wo none m)).1 = doth T none m (dend T wo m (run T P wo none m)).1 := by
      unfold doth
      exact if_neg (by show ¬ e = m; omega)
    rw [this]
theorem nI_eqz {a b : Nat} (ha : a < 2 ^ 31) (hb : b < 2 ^ 31) : nI a = nI b ↔ a = b := nI_eq ha hb
theorem nI_e0 {a : Nat} (ha : a < 2 ^ 31) : nI a = 0 ↔ a = 0 := nI_eq (b := 0) ha (by decide)
theorem nI_e1 {a : Nat} (ha : a < 2 ^ 31) : nI a = 1 ↔ a = 1 := nI_eq (b := 1) ha (by decide)
theorem nI_e6 {a : Nat} (ha : a < 2 ^ 31) : nI a = 6 ↔ a = 6 := nI_eq (b := 6) ha (by decide)
theorem happ_or {T : ZT} (ht : tok T) {m wo h g : Nat} (hh : h < T.1) (hg : g < 64) (hc : tq T 1 h = m ∧ wo.testBit h = false ∧ fmet (tq T 2 h) g = true) (hk : tq T 0 h = 0) : nI g ||| ((1 : Int32) <<< (nI (tq T 3 h) &&& 31)) = nI (hp1 T m wo h g) := by
  rw [hp1, if_pos hc, fkind, if_pos hk]
  exact q_or _ (by have := (ht.2.2.2.1 h hh).2.2.2; omega) g hg
theorem happ_clr {T : ZT} (ht : tok T) {m wo h g : Nat} (hh : h < T.1) (hg : g < 64) (hc : tq T 1 h = m ∧ wo.testBit h = false ∧ fmet (tq T 2 h) g = true) (hk : tq T 0 h = 1) : nI g &&& (((1 : Int32) <<< (nI (tq T 3 h) &&& 31)) ^^^ (-1)) = nI (hp1 T m wo h g) := by
  rw [hp1, if_pos hc, fkind, if_neg (by omega), if_pos hk]
  exact q_clr _ (by have := (ht.2.2.2.1 h hh).2.2.2; omega) g hg
theorem happ_xor {T : ZT} (ht : tok T) {m wo h g : Nat} (hh : h < T.1) (hg : g < 64) (hc : tq T 1 h = m ∧ wo.testBit h = false ∧ fmet (tq T 2 h) g = true) (hk : tq T 0 h ≠ 0) (hk2 : tq T 0 h ≠ 1) : nI g ^^^ ((1 : Int32) <<< (nI (tq T 3 h) &&& 31)) = nI (hp1 T m wo h g) := by
  rw [hp1, if_pos hc, fkind, if_neg hk, if_neg hk2]
  exact q_xor _ (by have := (ht.2.2.2.1 h hh).2.2.2; omega) g hg
theorem happ_no {T : ZT} {m wo h g : Nat} (hc : ¬ (tq T 1 h = m ∧ wo.testBit h = false ∧ fmet (tq T 2 h) g = true)) : nI g = nI (hp1 T m wo h g) := by
  rw [hp1, if_neg hc]
theorem done_6 {T : ZT} (ht : tok T) {d f : Nat} (hd : d < T.2.1) (hf : f < 64) (h6 : tq T 6 d = 6) : nI f ||| ((1 : Int32) <<< (nI (tq T 5 d) &&& 31)) = nI (den T d f) := by
  rw [den, if_pos h6]
  exact q_or _ (by have := (ht.2.2.2.2 d hd).2.1; omega) f hf
theorem done_n {T : ZT} (ht : tok T) {d f : Nat} (hd : d < T.2.1) (hf : f < 64) (h6 : tq T 6 d ≠ 6) : (nI f ||| ((1 : Int32) <<< (nI (tq T 5 d) &&& 31))) &&& (((1 : Int32) <<< (nI (tq T 6 d) &&& 31)) ^^^ (-1)) = nI (den T d f) := by
  have h := ht.2.2.2.2 d hd
  rw [den, if_neg h6, q_or _ (by omega) f hf, q_clr _ (by omega) _ (q_or64 _ (by omega) f hf)]
