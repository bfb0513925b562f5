/-! what CAN BE, as the class reckons it: worlds, by what the reference's sets of states are -/
theorem imgN_iff {g : Nat → Nat} {A : Nat → Bool} : ∀ {n t : Nat}, imgN g A n t = true ↔ ∃ s, s < n ∧ A s = true ∧ g s = t
  | 0, t => ⟨fun z => absurd z (by simp [imgN]), fun ⟨s, hs, _⟩ => absurd hs (by omega)⟩
  | n + 1, t => by
    show (imgN g A n t || (A n && g n == t)) = true ↔ _
    rw [Bool.or_eq_true, imgN_iff, Bool.and_eq_true, beq_iff_eq]
    constructor
    · rintro (⟨s, hs, e⟩ | e)
      · exact ⟨s, by omega, e⟩
      · exact ⟨n, by omega, e⟩
    · rintro ⟨s, hs, e⟩
      by_cases z : s = n
      · subst z; exact Or.inr e
      · exact Or.inl ⟨s, by omega, e⟩
theorem img_w {φ : Int64 → Int64} {f : Nat → Nat} (hl : wlin φ) (hf : ∀ s, s < 64 → f s < 64 ∧ φ (one s) = one (f s)) {w : Int64} {A : Nat → Bool} (hw : wrep w A) : wrep (φ w) (imgN f A 64) := fun t ht => by
  rw [wrep_sum hw]
  have h := wlin_img hl hf A 64 (by omega) t ht
  rw [← imgN_iff] at h
  cases h1 : bt (φ (sumw A 64)) t <;> cases h2 : imgN f A 64 t <;> simp_all
theorem hwl_w {T : ZT} (ht : tok T) {m : Nat} {w : Int64} {A : Nat → Bool} (hw : wrep w A) : wrep (hwl T m 63 T.1 w) (imgN (hap T m 0 T.1) A 64) :=
  img_w (hwl_lin ht (Nat.le_refl _)) (fun s hs => ⟨hap_64 ht (Nat.le_refl _) hs, hwl_one ht th_0 hs (Nat.le_refl _)⟩) hw
theorem afD_w {T : ZT} (ht : tok T) {d : Nat} (hd : d < T.2.1) {w : Int64} {A : Nat → Bool} (hw : wrep w A) : wrep (afD (tq T 5 d) (tq T 6 d) w) (imgN (den T d) A 64) :=
  img_w (afD_lin (by have := ht.2.2.2.2 d hd; omega) (by have := ht.2.2.2.2 d hd; omega)) (fun s hs => ⟨den_64 ht hd hs, afD_den ht hd hs⟩) hw
theorem hwl_0 {T : ZT} (ht : tok T) {m : Nat} : hwl T m 63 T.1 0 = 0 := (hwl_lin ht (Nat.le_refl _)).1
theorem wrep_or {a b : Int64} {A B : Nat → Bool} (ha : wrep a A) (hb : wrep b B) : wrep (a ||| b) (fun s => A s || B s) := fun s hs => by rw [bt_or, ha s hs, hb s hs]
theorem wrep_0 {A : Nat → Bool} (h : ∀ s, s < 64 → A s = false) : wrep 0 A := fun s hs => by rw [bt_0, h s hs]
theorem wrep_eq {a : Int64} {A B : Nat → Bool} (h : wrep a A) (e : ∀ s, s < 64 → A s = B s) : wrep a B := fun s hs => (h s hs).trans (e s hs)
/-- the class's steps -/
def eF (T : ZT) (go : Nat → Int64) (x : Int64) : Nat → Int64
  | 0 => x
  | d + 1 => if d < T.2.1 then eF T go x d ||| afD (tq T 5 d) (tq T 6 d) (go (10 * d + 1)) else eF T go x d
def eG (go : Nat → Int64) (d g : Nat) : Int64 := if g < 10 * d ∧ ¬ g % 10 = 0 then (if g % 10 = 9 then 0 else go (g + 1)) else go g
def opw (T : ZT) (m : Nat) (x : Int64) (d : Nat) : Int64 := if T.2.2.1 ≤ m + tq T 7 d then 0 else x &&& ww (tq T 4 d)
def bG (T : ZT) (m : Nat) (x : Int64) (go : Nat → Int64) (d g : Nat) : Int64 := if g / 10 < d ∧ g / 10 < T.2.1 ∧ g % 10 = tq T 7 (g / 10) then go g ||| opw T m x (g / 10) else go g
def orN (x : Int64) (go : Nat → Int64) : Nat → Int64
  | 0 => x
  | n + 1 => orN x go n ||| go n
theorem orN_bt {x : Int64} {go : Nat → Int64} {s : Nat} : ∀ {n : Nat}, bt (orN x go n) s = true ↔ bt x s = true ∨ ∃ g, g < n ∧ bt (go g) s = true
  | 0 => ⟨fun z => Or.inl z, fun z => z.elim id (fun ⟨g, hg, _⟩ => absurd hg (by omega))⟩
  | n + 1 => by
    rw [orN, bt_or, Bool.or_eq_true, orN_bt]
    constructor
    · rintro ((h | ⟨g, hg, e⟩) | e)
      · exact Or.inl h
      · exact Or.inr ⟨g, by omega, e⟩
      · exact Or.inr ⟨n, by omega, e⟩
    · rintro (h | ⟨g, hg, e⟩)
      · exact Or.inl (Or.inl h)
      · by_cases z : g = n
        · subst z; exact Or.inr e
        · exact Or.inl (Or.inr ⟨g, by omega, e⟩)
theorem anyN_iff {B : Nat → Bool} : ∀ {n : Nat}, anyN B n = true ↔ ∃ j, j < n ∧ B j = true
  | 0 => ⟨fun z => absurd z (by simp [anyN]), fun ⟨j, hj, _⟩ => absurd hj (by omega)⟩
  | n + 1 => by
    show (anyN B n || B n) = true ↔ _
    rw [Bool.or_eq_true, anyN_iff]
    constructor
    · rintro (⟨j, hj, e⟩ | e)
      · exact ⟨j, by omega, e⟩
      · exact ⟨n, by omega, e⟩
    · rintro ⟨j, hj, e⟩
      by_cases z : j = n
      · subst z; exact Or.inr e
      · exact Or.inl ⟨j, by omega, e⟩
/-- before the MINUTE m: how the worlds are held -/
def crel (T : ZT) (m : Nat) (x : Int64) (go : Nat → Int64) (s : (Nat → Bool) × (Nat → Nat → Bool)) : Prop := wrep x s.1 ∧ (∀ d, d < T.2.1 → ∀ l, 1 ≤ l → l ≤ 9 → wrep (go (10 * d + l)) (s.2 (10 * d + (m + 9 + l) % 10))) ∧ (∀ g, g < 50 → (g % 10 = 0 ∨ T.2.1 ≤ g / 10) → go g = 0) ∧ (∀ d, d < T.2.1 → ∀ f, f < 64 → s.2 (10 * d + (m + 9) % 10) f = false)
theorem crel_0 (T : ZT) {go : Nat → Int64} (h : ∀ g, g < 50 → go g = 0) (h5 : T.2.1 ≤ 5) : crel T 0 1 go (gst T 0) :=
  ⟨fun s hs => by rw [bt_1 s hs]; rfl, fun d hd l h1 h9 => by rw [h _ (by omega)]; exact wrep_0 (fun s hs => rfl), fun g hg _ => h g hg, fun d hd f hf => rfl⟩
theorem img_0 {g : Nat → Nat} {A : Nat → Bool} (h : ∀ f, f < 64 → A f = false) (t : Nat) : imgN g A 64 t = false := by
  cases hb : imgN g A 64 t with
  | false => rfl
  | true =>
    obtain ⟨s, hs, e, _⟩ := imgN_iff.mp hb
    rw [h s hs] at e; cases e
/-- behind the HAPPENINGS -/
theorem crel_h {T : ZT} (ht : tok T) {m : Nat} {x : Int64} {go go2 : Nat → Int64} {s : (Nat → Bool) × (Nat → Nat → Bool)} (h : crel T m x go s) (hg : ∀ g, g < 50 → go2 g = hwl T m 63 T.1 (go g)) : crel T m (hwl T m 63 T.1 x) go2 (imgN (hap T m 0 T.1) s.1 64, hQ T m s.2 (10 * T.2.1)) := by
  have h5 := ht.2.1
  refine ⟨hwl_w ht h.1, fun d hd l h1 h9 => ?_, fun g h50 hz => ?_, fun d hd f hf => ?_⟩
  · rw [hg _ (by omega)]
    show wrep _ (if 10 * d + (m + 9 + l) % 10 < 10 * T.2.1 then imgN (hap T m 0 T.1) (s.2 (10 * d + (m + 9 + l) % 10)) 64 else _)
    rw [if_pos (by omega)]
    exact hwl_w ht (h.2.1 d hd l h1 h9)
  · rw [hg g h50, h.2.2.1 g h50 hz, hwl_0 ht]
  · show (if 10 * d + (m + 9) % 10 < 10 * T.2.1 then imgN (hap T m 0 T.1) (s.2 (10 * d + (m + 9) % 10)) 64 else _) f = false
    rw [if_pos (by omega)]
    exact img_0 (h.2.2.2 d hd) f
theorem eF_w {T : ZT} (ht : tok T) {m : Nat} {x : Int64} {go : Nat → Int64} {s : (Nat → Bool) × (Nat → Nat → Bool)} (h : crel T m x go s) : ∀ {d : Nat}, d ≤ T.2.1 → wrep (eF T go x d) (eI T m s.1 s.2 d 0)
  | 0, _ => by rw [eI_0]; exact h.1
  | d + 1, hd => by
    have ih := eF_w ht h (d := d) (by omega)
    have h2 := afD_w ht (d := d) (by omega) (h.2.1 d (by omega) 1 (by omega) (by omega))
    rw [eF, if_pos (by omega), ← eI_next]
    refine wrep_eq (wrep_or ih h2) (fun t _ => ?_)
    rw [show (m + 9 + 1) % 10 = m % 10 by omega]
    show (((s.1 t || edn T m s.2 d t) || false) || _) = _
    rw [Bool.or_false]; rfl
theorem eF_far {T : ZT} {go : Nat → Int64} {x : Int64} : ∀ {c : Nat}, eF T go x (T.2.1 + c) = eF T go x T.2.1
  | 0 => rfl
  | c + 1 => by rw [← Nat.add_assoc, eF, if_neg (by omega), eF_far]
/-- behind the ends of DEEDS: one MINUTE on -/
theorem crel_e {T : ZT} (ht : tok T) {m : Nat} {x : Int64} {go go2 : Nat → Int64} {s : (Nat → Bool) × (Nat → Nat → Bool)} (h : crel T m x go s) (hg : ∀ g, g < 50 → go2 g = eG go 5 g) : crel T (m + 1) (eF T go x 5) go2 (eI T m s.1 s.2 T.2.1 0, eQ m s.2 T.2.1 0) := by
  have h5 := ht.2.1
  have eq1 : ∀ w f, ¬ w % 10 = m % 10 → eQ m s.2 T.2.1 0 w f = s.2 w f := fun w f hw => if_neg (by omega)
  refine ⟨?_, fun d hd l h1 h9 => ?_, fun g h50 hz => ?_, fun d hd f hf => ?_⟩
  · have := eF_far (T := T) (go := go) (x := x) (c := 5 - T.2.1)
    rw [show T.2.1 + (5 - T.2.1) = 5 by omega] at this
    rw [this]
    exact eF_w ht h (Nat.le_refl _)
  · rw [hg _ (by omega), eG, if_pos (by omega)]
    have e1 : (m + 1 + 9 + l) % 10 = (m + 9 + (l + 1)) % 10 := by omega
    show wrep _ (eQ m s.2 T.2.1 0 (10 * d + (m + 1 + 9 + l) % 10))
    rw [e1]
    by_cases h8 : l = 9
    · rw [if_pos (by omega)]
      refine wrep_0 (fun f hf => ?_)
      rw [eq1 _ _ (by omega), h8, show (m + 9 + (9 + 1)) % 10 = (m + 9) % 10 by omega]
      exact h.2.2.2 d hd f hf
    · rw [if_neg (by omega)]
      exact wrep_eq (h.2.1 d hd (l + 1) (by omega) (by omega)) (fun f hf => (eq1 _ _ (by omega)).symm)
  · rw [hg g h50, eG]
    split
    · next h3 =>
      split
      · rfl
      · next h4 => exact h.2.2.1 (g + 1) (by omega) (Or.inr (by omega))
    · next h3 => exact h.2.2.1 g h50 (by omega)
  · show (if (_ % 10 = m % 10 ∧ _ < 10 * T.2.1) ∨ _ then false else _) = false
    exact if_pos (Or.inl (by omega))
theorem opw_w {T : ZT} (ht : tok T) {m : Nat} {x : Int64} {A : Nat → Bool} (hx : wrep x A) {d : Nat} (hd : d < T.2.1) : wrep (opw T m x d) (fun f => A f && may T d m f) := fun f hf => by
  have hk := ht.2.2.2.2 d hd
  unfold opw may
  by_cases h : T.2.2.1 ≤ m + tq T 7 d
  · rw [if_pos h, bt_0, decide_eq_false (show ¬ m + tq T 7 d < T.2.2.1 by omega)]; simp
  · rw [if_neg h, bt_and, hx f hf, bt_ww hf]
    show _ = (A f && (fmet (tq T 4 d) f && decide (m + tq T 7 d < T.2.2.1)))
    rw [decide_eq_true (show m + tq T 7 d < T.2.2.1 by omega), Bool.and_true, fmet]
    congr 2
    by_cases e : tq T 4 d = 6
    · rw [e]; rfl
    · rw [decide_eq_false (by omega), beq_eq_false_iff_ne.mpr e]
/-- behind the beginnings of DEEDS -/
theorem crel_b {T : ZT} (ht : tok T) {m : Nat} {x : Int64} {go go2 : Nat → Int64} {s : (Nat → Bool) × (Nat → Nat → Bool)} (h : crel T (m + 1) x go s) (hg : ∀ g, g < 50 → go2 g = bG T m x go 5 g) : crel T (m + 1) x go2 (s.1, bQ T m s.1 s.2 T.2.1 0) := by
  have h5 := ht.2.1
  refine ⟨h.1, fun d hd l h1 h9 => ?_, fun g h50 hz => ?_, fun d hd f hf => ?_⟩
  · have hk := ht.2.2.2.2 d hd
    have ed : (10 * d + l) / 10 = d := by omega
    have el : (10 * d + l) % 10 = l := by omega
    have ew : (10 * d + (m + 1 + 9 + l) % 10) / 10 = d := by omega
    have e0 := h.2.1 d hd l h1 h9
    rw [hg _ (by omega), bG, ed, el]
    by_cases hl : l = tq T 7 d
    · rw [if_pos ⟨by omega, hd, hl⟩]
      refine wrep_eq (wrep_or e0 (opw_w ht h.1 hd)) (fun f hf => ?_)
      show (_ || _) = (_ || ((decide (_ = (m + tq T 7 _) % 10) && (decide (_ < 10 * T.2.1) || _)) && (s.1 f && may T _ m f)))
      rw [ew, decide_eq_true (show (10 * d + (m + 1 + 9 + l) % 10) % 10 = (m + tq T 7 d) % 10 by omega), decide_eq_true (show 10 * d + (m + 1 + 9 + l) % 10 < 10 * T.2.1 by omega)]
      simp
    · rw [if_neg (fun z => hl z.2.2)]
      refine wrep_eq e0 (fun f hf => ?_)
      show _ = (_ || ((decide (_ = (m + tq T 7 _) % 10) && (decide (_ < 10 * T.2.1) || _)) && (s.1 f && may T _ m f)))
      rw [ew, decide_eq_false (show ¬ (10 * d + (m + 1 + 9 + l) % 10) % 10 = (m + tq T 7 d) % 10 by omega)]
      simp
  · rw [hg g h50, bG, if_neg (fun z => by
      have hk := ht.2.2.2.2 (g / 10) z.2.1
      omega)]
    exact h.2.2.1 g h50 hz
  · have hk := ht.2.2.2.2 d hd
    have ew : (10 * d + (m + 1 + 9) % 10) / 10 = d := by omega
    show (_ || ((decide (_ = (m + tq T 7 _) % 10) && (decide (_ < 10 * T.2.1) || _)) && (s.1 f && may T _ m f))) = false
    rw [h.2.2.2 d hd f hf, ew, decide_eq_false (show ¬ (10 * d + (m + 1 + 9) % 10) % 10 = (m + tq T 7 d) % 10 by omega)]
    simp
/-- all worlds -/
theorem crel_any {T : ZT} (ht : tok T) {m : Nat} {x : Int64} {go : Nat → Int64} {s : (Nat → Bool) × (Nat → Nat → Bool)} (h : crel T m x go s) : wrep (orN x go 50) (fun f => s.1 f || anyN (fun w => s.2 w f) (10 * T.2.1)) := fun f hf => by
  have h5 := ht.2.1
  have key : bt (orN x go 50) f = true ↔ (s.1 f || anyN (fun w => s.2 w f) (10 * T.2.1)) = true := by
    rw [orN_bt, Bool.or_eq_true, anyN_iff, h.1 f hf]
    refine or_congr Iff.rfl ⟨?_, ?_⟩
    · rintro ⟨g, hg, e⟩
      by_cases hz : g % 10 = 0 ∨ T.2.1 ≤ g / 10
      · rw [h.2.2.1 g hg hz, bt_0] at e; cases e
      · have e1 := h.2.1 (g / 10) (by omega) (g % 10) (by omega) (by omega) f hf
        rw [show 10 * (g / 10) + g % 10 = g by omega, e] at e1
        exact ⟨10 * (g / 10) + (m + 9 + g % 10) % 10, by omega, e1.symm⟩
    · rintro ⟨w, hw, e⟩
      by_cases hz : w % 10 = (m + 9) % 10
      · have e1 := h.2.2.2 (w / 10) (by omega) f hf
        rw [show 10 * (w / 10) + (m + 9) % 10 = w by omega, e] at e1; cases e1
      · refine ⟨10 * (w / 10) + (w % 10 + 10 - (m + 9) % 10) % 10, by omega, ?_⟩
        have e1 := h.2.1 (w / 10) (by omega) ((w % 10 + 10 - (m + 9) % 10) % 10) (by omega) (by omega) f hf
        rw [e1, show 10 * (w / 10) + (m + 9 + (w % 10 + 10 - (m + 9) % 10) % 10) % 10 = w by omega]
        exact e
  cases h1 : bt (orN x go 50) f <;> cases h2 : (s.1 f || anyN (fun w => s.2 w f) (10 * T.2.1)) <;> simp_all
theorem idle_ne {T : ZT} (ht : tok T) : ∀ m, ∃ f, f < 64 ∧ (gst T m).1 f = true
  | 0 => ⟨0, by decide, rfl⟩
  | m + 1 => by
    obtain ⟨f, hf, e⟩ := idle_ne ht m
    refine ⟨hap T m 0 T.1 f, hap_64 ht (Nat.le_refl _) hf, ?_⟩
    show ((imgN (hap T m 0 T.1) (gst T m).1 64 _ || _) || _) = true
    rw [imgN_iff.mpr ⟨f, hf, e, rfl⟩]; rfl
theorem cbe_ne {T : ZT} (ht : tok T) (m : Nat) : ∃ f, f < 64 ∧ cbe T m f = true := by
  obtain ⟨f, hf, e⟩ := idle_ne ht m
  exact ⟨f, hf, by rw [cbe, e]; rfl⟩
theorem nxF_ok {C : Nat → Bool} {g : Nat → Nat} : ∀ {n f : Nat} {s : Option Nat × Nat}, f + n ≤ 64 → (∀ y, s.1 = some y → y < 64 ∧ s.2 = g y) → (∀ y, (nxF C g n f s).1 = some y → y < 64 ∧ (nxF C g n f s).2 = g y) ∧ ((¬ s.1 = none ∨ ∃ z, f ≤ z ∧ z < f + n ∧ C z = true) → ¬ (nxF C g n f s).1 = none)
  | 0, f, s, _, h => ⟨h, fun z => z.elim id (fun ⟨z, h1, h2, _⟩ => absurd h2 (by omega))⟩
  | n + 1, f, s, hb, h => by
    show (∀ y, (nxF C g n (f + 1) _).1 = some y → _) ∧ _
    by_cases hc : C f = true ∧ (s.1 = none ∨ s.2 < g f)
    · have ih := nxF_ok (C := C) (g := g) (n := n) (f := f + 1) (s := (some f, g f)) (by omega) (fun y hy => by cases hy; exact ⟨by omega, rfl⟩)
      have e : nxF C g (n + 1) f s = nxF C g n (f + 1) (some f, g f) := by show nxF C g n (f + 1) (if _ then _ else _) = _; rw [if_pos hc]
      rw [e, if_pos hc]
      exact ⟨ih.1, fun _ => ih.2 (Or.inl (by simp))⟩
    · have ih := nxF_ok (C := C) (g := g) (n := n) (f := f + 1) (s := s) (by omega) h
      have e : nxF C g (n + 1) f s = nxF C g n (f + 1) s := by show nxF C g n (f + 1) (if _ then _ else _) = _; rw [if_neg hc]
      rw [e, if_neg hc]
      refine ⟨ih.1, fun z => ih.2 ?_⟩
      rcases z with z | ⟨z, h1, h2, h3⟩
      · exact Or.inl z
      · by_cases e2 : z = f
        · subst e2
          exact Or.inl (fun y => hc ⟨h3, Or.inl y⟩)
        · exact Or.inr ⟨z, by omega, by omega, h3⟩
theorem and_wone {x : Int64} {C : Nat → Bool} (hx : wrep x C) {z : Nat} (hz : z < 64) : x &&& wwa z 6 = 0 ↔ wone C z 64 = false := by
  constructor
  · intro h
    cases hb : wone C z 64 with
    | false => rfl
    | true =>
      obtain ⟨f, hf, e⟩ := anyN_iff.mp hb
      rw [Bool.and_eq_true] at e
      have := congrArg (fun y => bt y f) h
      simp only [bt_and, bt_0, hx f hf, bt_wwa z hz f hf, e.1, e.2] at this
      cases this
  · intro h
    apply bt_ext
    intro f hf
    rw [bt_and, bt_0, hx f hf, bt_wwa z hz f hf]
    cases hc : (C f && (z &&& f == z)) with
    | false => rfl
    | true => rw [show wone C z 64 = true from anyN_iff.mpr ⟨f, hf, hc⟩] at h; cases h
