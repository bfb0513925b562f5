/-! bits of worlds -/
theorem bt_ext {a b : Int64} (h : ∀ s, s < 64 → bt a s = bt b s) : a = b := Int64.toBitVec_inj.mp (BitVec.eq_of_getLsbD_eq (fun i hi => h i hi))
theorem bt_big (a : Int64) {s : Nat} (h : 64 ≤ s) : bt a s = false := BitVec.getLsbD_of_ge _ _ h
theorem bt_xor (a b : Int64) (m : Nat) : bt (a ^^^ b) m = (bt a m ^^ bt b m) := by rw [bt, Int64.toBitVec_xor, BitVec.getLsbD_xor]; rfl
theorem bt_m1 : ∀ s, s < 64 → bt (-1) s = true := by decide +kernel
theorem bt_not (a : Int64) {m : Nat} (h : m < 64) : bt (a ^^^ (-1)) m = !bt a m := by rw [bt_xor, bt_m1 m h]; cases bt a m <;> rfl
theorem bt_1 : ∀ s, s < 64 → bt 1 s = decide (s = 0) := by decide +kernel
theorem ush_k : ∀ k, k < 64 → (nI k).toInt64.toUInt64 &&& Int64.toUInt64 63 = UInt64.ofNat k := by decide +kernel
theorem bt_ushr (x : Int64) {k : Nat} (hk : k < 64) (t : Nat) : bt (x.toUInt64 >>> ((nI k).toInt64.toUInt64 &&& Int64.toUInt64 63)).toInt64 t = bt x (k + t) := by
  rw [ush_k k hk]
  show (x.toUInt64 >>> UInt64.ofNat k).toBitVec.getLsbD t = x.toBitVec.getLsbD (k + t)
  rw [UInt64.toBitVec_shiftRight]
  show (x.toUInt64.toBitVec >>> ((UInt64.ofNat k).toBitVec % 64).toNat).getLsbD t = _
  rw [BitVec.getLsbD_ushiftRight]
  have e : ((UInt64.ofNat k).toBitVec % 64).toNat = k := by
    show k % 2 ^ 64 % 64 = k
    omega
  rw [e]
  rfl
theorem shl_k : ∀ k, k < 64 → ((nI k).toInt64 &&& 63).toBitVec.smod 64 = BitVec.ofNat 64 k := by decide +kernel
theorem bt_shl (x : Int64) {k : Nat} (hk : k < 64) (t : Nat) (ht : t < 64) : bt (x <<< ((nI k).toInt64 &&& 63)) t = (!decide (t < k) && bt x (t - k)) := by
  rw [bt, Int64.toBitVec_shiftLeft, shl_k k hk]
  show (x.toBitVec <<< (BitVec.ofNat 64 k).toNat).getLsbD t = _
  rw [show (BitVec.ofNat 64 k).toNat = k from by show k % 2 ^ 64 = k; omega, BitVec.getLsbD_shiftLeft]
  simp [ht, bt]
theorem and_1 (x : Int64) : x &&& 1 = 1 ↔ bt x 0 = true := by
  constructor
  · intro h
    have z := congrArg (fun y => bt y 0) h
    have z : bt (x &&& 1) 0 = bt 1 0 := z
    rw [bt_and, bt_1 0 (by decide)] at z
    simpa using z
  · intro h
    apply bt_ext
    intro s hs
    rw [bt_and, bt_1 s hs]
    by_cases e : s = 0
    · subst e; rw [h]; rfl
    · rw [decide_eq_false e]; simp
theorem hs_bt (w : Int64) {s : Nat} (hs : s < 64) : (w.toUInt64 >>> ((nI s).toInt64.toUInt64 &&& Int64.toUInt64 63)).toInt64 &&& 1 = 1 ↔ bt w s = true := by rw [and_1, bt_ushr w hs 0]; rfl
theorem bt_so : ∀ f, f < 6 → ∀ s, s < 64 → bt (zb_so f) s = s.testBit f := by decide +kernel
theorem bt_ww {f s : Nat} (hs : s < 64) : bt (ww f) s = (decide (6 ≤ f) || s.testBit f) := by
  unfold ww
  split
  · next h => rw [bt_so f h s hs, decide_eq_false (by omega)]; rfl
  · next h => rw [bt_m1 s hs, decide_eq_true (by omega)]; rfl
