/-! how many bits -/
def mkk (c : Nat) : Nat → Nat
  | 0 => 0
  | k + 1 => c + 256 * mkk c k
theorem and_dig {a c x y : Nat} (ha : a < 256) (hc : c < 256) : (a + 256 * x) &&& (c + 256 * y) = (a &&& c) + 256 * (x &&& y) := by
  have h1 : ((a + 256 * x) &&& (c + 256 * y)) % 2 ^ 8 = a &&& c := by
    rw [Nat.and_mod_two_pow, show (a + 256 * x) % 2 ^ 8 = a by omega, show (c + 256 * y) % 2 ^ 8 = c by omega]
  have h2 : ((a + 256 * x) &&& (c + 256 * y)) / 2 ^ 8 = x &&& y := by
    rw [Nat.and_div_two_pow, show (a + 256 * x) / 2 ^ 8 = x by omega, show (c + 256 * y) / 2 ^ 8 = y by omega]
  omega
def bf1 (k n : Nat) : Nat := n - ((n / 2) &&& mkk 85 k)
def bf2 (k n : Nat) : Nat := (n &&& mkk 51 k) + ((n / 4) &&& mkk 51 k)
def bf3 (k n : Nat) : Nat := (n + n / 16) &&& mkk 15 k
def bg1 (r : Nat) : Nat := r - ((r / 2) &&& 85)
def bg2 (r : Nat) : Nat := (r &&& 51) + ((r / 4) &&& 51)
def bg3 (r : Nat) : Nat := (r + r / 16) &&& 15
theorem bd1 : ∀ r, r < 256 → ∀ b, b < 2 → (r / 2 + 128 * b) &&& 85 = (r / 2) &&& 85 := by decide +kernel
theorem bd2 : ∀ r, r < 256 → ∀ b, b < 4 → (r / 4 + 64 * b) &&& 51 = (r / 4) &&& 51 := by decide +kernel
theorem bd3 : ∀ r, r < 69 → ∀ b, b < 5 → (r + r / 16 + 16 * b) &&& 15 = bg3 r := by decide +kernel
theorem bd4 : ∀ r, r < 256 → bg1 r < 256 ∧ bg2 (bg1 r) < 69 ∧ bg2 (bg1 r) % 16 < 5 := by decide +kernel
theorem bd5 : ∀ r, r < 256 → bg3 (bg2 (bg1 r)) = popc 8 r := by decide +kernel
theorem bd6 : ∀ r, r < 256 → (r / 2) &&& 85 ≤ r := by decide +kernel
theorem bs1 {k r m : Nat} (hr : r < 256) : bf1 (k + 1) (r + 256 * m) = bg1 r + 256 * bf1 k m := by
  unfold bf1 bg1
  rw [show (r + 256 * m) / 2 = (r / 2 + 128 * (m % 2)) + 256 * (m / 2) by omega, mkk, and_dig (by omega) (by decide), bd1 r hr (m % 2) (by omega)]
  have h1 := bd6 r hr
  have h2 : (m / 2) &&& mkk 85 k ≤ m / 2 := Nat.and_le_left
  omega
theorem bs2 {k r m : Nat} (hr : r < 256) : bf2 (k + 1) (r + 256 * m) = bg2 r + 256 * bf2 k m := by
  unfold bf2 bg2
  rw [show (r + 256 * m) / 4 = (r / 4 + 64 * (m % 4)) + 256 * (m / 4) by omega, mkk, and_dig hr (by decide), and_dig (by omega) (by decide), bd2 r hr (m % 4) (by omega)]
  omega
theorem bs3 {k r m : Nat} (hr : r < 69) (hm : m % 16 < 5) : bf3 (k + 1) (r + 256 * m) = bg3 r + 256 * bf3 k m := by
  unfold bf3
  rw [show (r + 256 * m) + (r + 256 * m) / 16 = (r + r / 16 + 16 * (m % 16)) + 256 * (m + m / 16) by omega, mkk, and_dig (by omega) (by decide), bd3 r hr (m % 16) hm]
theorem bs_low : ∀ k m, m < 256 ^ k → bf2 k (bf1 k m) % 16 < 5
  | 0, m, h => by
    obtain rfl : m = 0 := by simpa using h
    decide
  | k + 1, m, h => by
    have hr : m % 256 < 256 := by omega
    rw [show m = m % 256 + 256 * (m / 256) by omega, bs1 hr, bs2 (bd4 _ hr).1]
    have := (bd4 _ hr).2.2
    omega
def bF (k n : Nat) : Nat := bf3 k (bf2 k (bf1 k n))
theorem bF_s {k n : Nat} (h : n < 256 ^ (k + 1)) : bF (k + 1) n = popc 8 (n % 256) + 256 * bF k (n / 256) := by
  have hr : n % 256 < 256 := by omega
  have hm : n / 256 < 256 ^ k := by rw [Nat.pow_succ] at h; omega
  unfold bF
  conv => lhs; rw [show n = n % 256 + 256 * (n / 256) by omega, bs1 hr, bs2 (bd4 _ hr).1, bs3 (bd4 _ hr).2.1 (bs_low k _ hm), bd5 _ hr]
theorem popc_8 : ∀ (a b n : Nat), popc (a + b) n = popc a (n % 2 ^ a) + popc b (n / 2 ^ a)
  | 0, b, n => by rw [Nat.zero_add, Nat.pow_zero, Nat.div_one]; show _ = 0 + _; omega
  | a + 1, b, n => by
    rw [show a + 1 + b = (a + b) + 1 by omega]
    show n % 2 + popc (a + b) (n / 2) = (n % 2 ^ (a + 1) % 2 + popc a (n % 2 ^ (a + 1) / 2)) + _
    rw [popc_8 a b (n / 2), Nat.div_div_eq_div_mul, show 2 * 2 ^ a = 2 ^ (a + 1) by rw [Nat.pow_succ]; omega]
    have e1 : n % 2 ^ (a + 1) % 2 = n % 2 := Nat.mod_mod_of_dvd n ⟨2 ^ a, by rw [Nat.pow_succ]; omega⟩
    have e2 : n % 2 ^ (a + 1) / 2 = n / 2 % 2 ^ a := by rw [Nat.pow_succ, Nat.mul_comm, Nat.mod_mul_right_div_self]
    rw [e1, e2]
    omega
theorem cntN_sh (p : Nat → Bool) : ∀ n, cntN p (n + 1) = (if p 0 = true then 1 else 0) + cntN (fun i => p (i + 1)) n
  | 0 => Nat.add_comm 0 _
  | n + 1 => by
    show cntN p (n + 1) + (if p (n + 1) = true then 1 else 0) = _ + (cntN (fun i => p (i + 1)) n + (if p (n + 1) = true then 1 else 0))
    rw [cntN_sh p n]
    omega
theorem cntN_popc : ∀ k n, cntN (fun s => n.testBit s) k = popc k n
  | 0, _ => rfl
  | k + 1, n => by
    rw [cntN_sh]
    show _ = n % 2 + popc k (n / 2)
    rw [← cntN_popc k (n / 2)]
    congr 1
    · rw [Nat.testBit_zero]
      by_cases h : n % 2 = 1
      · rw [if_pos (decide_eq_true h), h]
      · rw [if_neg (by simpa using h)]; omega
    · congr 1
      funext i
      rw [Nat.testBit_succ]
theorem bsum {q0 q1 q2 q3 q4 q5 q6 q7 n a b c : Nat} (h0 : q0 ≤ 8) (h1 : q1 ≤ 8) (h2 : q2 ≤ 8) (h3 : q3 ≤ 8) (h4 : q4 ≤ 8) (h5 : q5 ≤ 8) (h6 : q6 ≤ 8) (h7 : q7 ≤ 8) (hn : n = q0 + 256 * (q1 + 256 * (q2 + 256 * (q3 + 256 * (q4 + 256 * (q5 + 256 * (q6 + 256 * q7))))))) (ha : a = n + n / 256) (hb : b = a + a / 65536) (hc : c = b + b / 4294967296) : c % 128 = q0 + q1 + q2 + q3 + q4 + q5 + q6 + q7 ∧ c < 2 ^ 64 := by
  have e1 : n / 256 = q1 + 256 * (q2 + 256 * (q3 + 256 * (q4 + 256 * (q5 + 256 * (q6 + 256 * (q7)))))) := by omega
  have ea : a = (q0 + q1) + 256 * ((q1 + q2) + 256 * ((q2 + q3) + 256 * ((q3 + q4) + 256 * ((q4 + q5) + 256 * ((q5 + q6) + 256 * ((q6 + q7) + 256 * (q7))))))) := by omega
  have e2 : a / 65536 = (q2 + q3) + 256 * ((q3 + q4) + 256 * ((q4 + q5) + 256 * ((q5 + q6) + 256 * ((q6 + q7) + 256 * (q7))))) := by clear e1 ha hb hc hn; omega
  have eb : b = (q0 + q1 + q2 + q3) + 256 * ((q1 + q2 + q3 + q4) + 256 * ((q2 + q3 + q4 + q5) + 256 * ((q3 + q4 + q5 + q6) + 256 * ((q4 + q5 + q6 + q7) + 256 * ((q5 + q6 + q7) + 256 * ((q6 + q7) + 256 * ((q7)))))))) := by clear e1 ha hc hn; omega
  have e3 : b / 4294967296 = (q4 + q5 + q6 + q7) + 256 * ((q5 + q6 + q7) + 256 * ((q6 + q7) + 256 * ((q7)))) := by clear e1 e2 ea ha hb hc hn; omega
  have ec : c = (q0 + q1 + q2 + q3 + q4 + q5 + q6 + q7) + 256 * ((q1 + q2 + q3 + q4 + q5 + q6 + q7) + 256 * ((q2 + q3 + q4 + q5 + q6 + q7) + 256 * ((q3 + q4 + q5 + q6 + q7) + 256 * ((q4 + q5 + q6 + q7) + 256 * ((q5 + q6 + q7) + 256 * ((q6 + q7) + 256 * ((q7)))))))) := by clear e1 e2 ea ha hb hn; omega
  clear e1 e2 e3 ea eb ha hb hc hn
  constructor <;> omega
