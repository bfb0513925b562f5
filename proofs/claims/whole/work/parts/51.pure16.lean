theorem p2_lt {b : Nat} (h : b ≤ 5) : 2 ^ b < 64 := Nat.lt_of_le_of_lt (Nat.pow_le_pow_right (by decide) h) (by decide)
theorem hst_64 {k n b s : Nat} (hb : b ≤ 5) (hs : s < 64) : hst k n b s < 64 := by
  unfold hst
  split
  · exact fkind64 hb hs
  · exact hs
theorem hwl_lin {T : ZT} (ht : tok T) {m th : Nat} : ∀ {n : Nat}, n ≤ T.1 → wlin (hwl T m th n)
  | 0, _ => ⟨rfl, fun _ _ => rfl⟩
  | n + 1, hn => by
    have l1 := hwl_lin ht (m := m) (th := th) (n := n) (by omega)
    have hk := ht.2.2.2.1 n (by omega)
    by_cases h : tq T 1 n = m ∧ th.testBit n = true
    · have l2 : wlin (afX (tq T 0 n) (ww (tq T 2 n)) (ww (tq T 3 n)) ((1 : Int32) <<< (nI (tq T 3 n) &&& 31))) := by
        rw [q_shl1 _ (by omega)]
        exact afX_lin _ (p2_lt hk.2.2.2)
      rw [show hwl T m th (n + 1) = fun x => afX (tq T 0 n) (ww (tq T 2 n)) (ww (tq T 3 n)) ((1 : Int32) <<< (nI (tq T 3 n) &&& 31)) (hwl T m th n x) from funext fun x => if_pos h]
      exact ⟨(congrArg _ l1.1).trans l2.1, fun a b => (congrArg _ (l1.2 a b)).trans (l2.2 _ _)⟩
    · rw [show hwl T m th (n + 1) = hwl T m th n from funext fun x => if_neg h]
      exact l1
/-- of one state: as the reference's, without those that are not there -/
theorem hwl_one {T : ZT} (ht : tok T) {m th wo s : Nat} (hw : ∀ h, h < 6 → th.testBit h = !wo.testBit h) (hs : s < 64) : ∀ {n : Nat}, n ≤ T.1 → hwl T m th n (one s) = one (hap T m wo n s)
  | 0, _ => rfl
  | n + 1, hn => by
    have ih := hwl_one ht (m := m) hw hs (n := n) (by omega)
    have h6 := ht.1
    have hk := ht.2.2.2.1 n (by omega)
    have h64 := hap_64 ht (m := m) (wo := wo) (n := n) (f := s) (by omega) hs
    have e1 := hw n (by omega)
    show (if tq T 1 n = m ∧ th.testBit n = true then _ else _) = one (hp1 T m wo n (hap T m wo n s))
    rw [ih, hp1]
    by_cases h1 : tq T 1 n = m
    · cases h2 : wo.testBit n with
      | true =>
        rw [h2] at e1
        rw [if_neg (fun z => by rw [e1] at z; exact absurd z.2 (by decide)), if_neg (fun z => absurd z.2.1 (by decide))]
      | false =>
        rw [h2] at e1
        rw [if_pos ⟨h1, e1⟩, q_shl1 _ (by omega), afX_one _ (by omega) _ (by omega) _ (by omega) _ h64, hst]
        by_cases h3 : fmet (tq T 2 n) (hap T m wo n s) = true
        · rw [if_pos h3, if_pos ⟨h1, rfl, h3⟩]
        · rw [if_neg h3, if_neg (fun z => h3 z.2.2)]
    · rw [if_neg (fun z => h1 z.1), if_neg (fun z => h1 z.1)]
theorem afD_den {T : ZT} (ht : tok T) {d s : Nat} (hd : d < T.2.1) (hs : s < 64) : afD (tq T 5 d) (tq T 6 d) (one s) = one (den T d s) := by
  have hk := ht.2.2.2.2 d hd
  rw [afD_one _ (by omega) _ (by omega) s hs]
  rfl
theorem one_bt {s t : Nat} (hs : s < 64) (ht : t < 64) : bt (one s) t = decide (t = s) := bt_one s hs t ht
theorem one_and : ∀ n, n < 7 → ∀ s, s < 64 → (one s &&& ww n = 0 ↔ fmet n s = false) := by decide +kernel
