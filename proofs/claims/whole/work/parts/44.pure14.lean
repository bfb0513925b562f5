/-! the long's bits counted as the library counts them -/
def un (x : Int64) : Nat := x.toBitVec.toNat
def ushr (x : Int64) (k : Int32) : Int64 := (x.toUInt64 >>> (k.toInt64.toUInt64 &&& Int64.toUInt64 63)).toInt64
theorem un_lt (x : Int64) : un x < 2 ^ 64 := x.toBitVec.isLt
theorem un_and (a b : Int64) : un (a &&& b) = un a &&& un b := by rw [un, Int64.toBitVec_and, BitVec.toNat_and]; rfl
theorem un_add (a b : Int64) : un (a + b) = (un a + un b) % 2 ^ 64 := by rw [un, Int64.toBitVec_add, BitVec.toNat_add]; rfl
theorem un_sub {a b : Int64} (h : un b ≤ un a) : un (a - b) = un a - un b := by
  have ha := un_lt a
  rw [un, Int64.toBitVec_sub, BitVec.toNat_sub]
  show (2 ^ 64 - un b + un a) % 2 ^ 64 = _
  omega
theorem un_ushr (x : Int64) {k : Nat} (hk : k < 64) : un (ushr x (nI k)) = un x / 2 ^ k := by
  rw [ushr, ush_k k hk]
  show (x.toUInt64 >>> UInt64.ofNat k).toBitVec.toNat = x.toBitVec.toNat / 2 ^ k
  rw [UInt64.toBitVec_shiftRight]
  show (x.toUInt64.toBitVec >>> ((UInt64.ofNat k).toBitVec % 64).toNat).toNat = _
  have e : ((UInt64.ofNat k).toBitVec % 64).toNat = k := by
    show k % 2 ^ 64 % 64 = k
    omega
  rw [e, BitVec.toNat_ushiftRight, Nat.shiftRight_eq_div_pow]
  rfl
theorem un_bt (x : Int64) (s : Nat) : bt x s = (un x).testBit s := rfl
theorem bF_8 {n : Nat} (h : n < 2 ^ 64) : ∃ q0 q1 q2 q3 q4 q5 q6 q7, q0 ≤ 8 ∧ q1 ≤ 8 ∧ q2 ≤ 8 ∧ q3 ≤ 8 ∧ q4 ≤ 8 ∧ q5 ≤ 8 ∧ q6 ≤ 8 ∧ q7 ≤ 8 ∧ bF 8 n = q0 + 256 * (q1 + 256 * (q2 + 256 * (q3 + 256 * (q4 + 256 * (q5 + 256 * (q6 + 256 * q7)))))) ∧ popc 64 n = q0 + q1 + q2 + q3 + q4 + q5 + q6 + q7 := by
  have z0 : ∀ m, m < 256 ^ 0 → bF 0 m = 0 := fun m hm => by
    obtain rfl : m = 0 := by simpa using hm
    decide
  refine ⟨popc 8 (n % 256), popc 8 (n / 256 % 256), popc 8 (n / 256 / 256 % 256), popc 8 (n / 256 / 256 / 256 % 256), popc 8 (n / 256 / 256 / 256 / 256 % 256), popc 8 (n / 256 / 256 / 256 / 256 / 256 % 256), popc 8 (n / 256 / 256 / 256 / 256 / 256 / 256 % 256), popc 8 (n / 256 / 256 / 256 / 256 / 256 / 256 / 256 % 256), popc_le, popc_le, popc_le, popc_le, popc_le, popc_le, popc_le, popc_le, ?_, ?_⟩
  · rw [bF_s (by omega), bF_s (by omega), bF_s (by omega), bF_s (by omega), bF_s (by omega), bF_s (by omega), bF_s (by omega), bF_s (by omega), z0 _ (by omega), Nat.mul_zero, Nat.add_zero]
  · rw [show (64 : Nat) = 8 + (8 + (8 + (8 + (8 + (8 + (8 + (8 + 0))))))) from rfl, popc_8, popc_8, popc_8, popc_8, popc_8, popc_8, popc_8, popc_8]
    show _ + (_ + (_ + (_ + (_ + (_ + (_ + (_ + 0))))))) = _
    simp only [Nat.add_assoc, Nat.add_zero, show (2 : Nat) ^ 8 = 256 from rfl]
theorem l2i_127 {x : Int64} {k : Nat} (h : un x % 128 = k) : x.toInt32 &&& 127 = nI k := by
  have hk : k < 128 := by omega
  apply Int32.toBitVec_inj.mp
  apply BitVec.eq_of_toNat_eq
  rw [Int32.toBitVec_and, BitVec.toNat_and, (by decide : ∀ k, k < 128 → (nI k).toBitVec.toNat = k) k hk]
  rw [show x.toInt32.toBitVec.toNat = un x % 2 ^ 32 from by show (x.toBitVec.signExtend 32).toNat = _; rw [BitVec.signExtend_eq_setWidth_of_le _ (by decide), BitVec.toNat_setWidth]; rfl]
  rw [show (127 : Int32).toBitVec.toNat = 2 ^ 7 - 1 from by decide, Nat.and_two_pow_sub_one_eq_mod]
  omega
theorem lbc_eq (x : Int64) : ∀ i1 i2 i3 i4 i5 i6 : Int64, i1 = x - (ushr x 1 &&& 6148914691236517205) → i2 = (i1 &&& 3689348814741910323) + (ushr i1 2 &&& 3689348814741910323) → i3 = (i2 + ushr i2 4) &&& 1085102592571150095 → i4 = i3 + ushr i3 8 → i5 = i4 + ushr i4 16 → i6 = i5 + ushr i5 32 → i6.toInt32 &&& 127 = nI (cntN (fun s => bt x s) 64) := by
  intro i1 i2 i3 i4 i5 i6 h1 h2 h3 h4 h5 h6
  have m5 : un 6148914691236517205 = mkk 85 8 := by decide
  have m3 : un 3689348814741910323 = mkk 51 8 := by decide
  have mf : un 1085102592571150095 = mkk 15 8 := by decide
  have hx := un_lt x
  have u1 : un i1 = bf1 8 (un x) := by
    have e : un (ushr x 1 &&& 6148914691236517205) = (un x / 2) &&& mkk 85 8 := by rw [un_and, show ushr x 1 = ushr x (nI 1) from rfl, un_ushr x (by decide), m5]
    have hle : (un x / 2) &&& mkk 85 8 ≤ un x / 2 := Nat.and_le_left
    rw [h1, un_sub (by rw [e]; omega), e]
    rfl
  have u2 : un i2 = bf2 8 (bf1 8 (un x)) ∧ un i2 ≤ 2 * 3689348814741910323 := by
    have a1 : un i1 &&& mkk 51 8 ≤ 3689348814741910323 := Nat.le_trans Nat.and_le_right (by decide)
    have a2 : un i1 / 4 &&& mkk 51 8 ≤ 3689348814741910323 := Nat.le_trans Nat.and_le_right (by decide)
    rw [h2, un_add, un_and, un_and, show ushr i1 2 = ushr i1 (nI 2) from rfl, un_ushr i1 (by decide), m3, show (2 : Nat) ^ 2 = 4 from rfl, Nat.mod_eq_of_lt (by omega), ← u1]
    exact ⟨rfl, by omega⟩
  have u3 : un i3 = bF 8 (un x) := by
    rw [h3, un_and, un_add, show ushr i2 4 = ushr i2 (nI 4) from rfl, un_ushr i2 (by decide), mf, show (2 : Nat) ^ 4 = 16 from rfl, Nat.mod_eq_of_lt (by omega), u2.1]
    rfl
  obtain ⟨q0, q1, q2, q3, q4, q5, q6, q7, b0, b1, b2, b3, b4, b5, b6, b7, eF, eP⟩ := bF_8 hx
  have hs := bsum (n := un i3) (a := un i3 + un i3 / 256) (b := (un i3 + un i3 / 256) + (un i3 + un i3 / 256) / 65536) (c := ((un i3 + un i3 / 256) + (un i3 + un i3 / 256) / 65536) + ((un i3 + un i3 / 256) + (un i3 + un i3 / 256) / 65536) / 4294967296) b0 b1 b2 b3 b4 b5 b6 b7 (u3.trans eF) rfl rfl rfl
  have u4 : un i4 = un i3 + un i3 / 256 := by rw [h4, un_add, show ushr i3 8 = ushr i3 (nI 8) from rfl, un_ushr i3 (by decide), show (2 : Nat) ^ 8 = 256 from rfl, Nat.mod_eq_of_lt (by omega)]
  have u5 : un i5 = un i4 + un i4 / 65536 := by rw [h5, un_add, show ushr i4 16 = ushr i4 (nI 16) from rfl, un_ushr i4 (by decide), show (2 : Nat) ^ 16 = 65536 from rfl, Nat.mod_eq_of_lt (by rw [u4]; omega)]
  have u6 : un i6 = un i5 + un i5 / 4294967296 := by rw [h6, un_add, show ushr i5 32 = ushr i5 (nI 32) from rfl, un_ushr i5 (by decide), show (2 : Nat) ^ 32 = 4294967296 from rfl, Nat.mod_eq_of_lt (by rw [u5, u4]; omega)]
  refine l2i_127 ?_
  rw [u6, u5, u4, hs.1, show (fun s => bt x s) = (fun s => (un x).testBit s) from rfl, cntN_popc, eP]
