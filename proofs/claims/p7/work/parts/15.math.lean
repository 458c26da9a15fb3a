/-! ===== Int64 as an unsigned number: uN x ===== -/
def uN (x : Int64) : Nat := x.toUInt64.toNat
theorem uN_lt (x : Int64) : uN x < 18446744073709551616 := x.toUInt64.toNat_lt
theorem uN_inj {x y : Int64} (h : uN x = uN y) : x = y := congrArg UInt64.toInt64 (UInt64.toNat_inj.mp h)
theorem uN_add (x y : Int64) : uN (x + y) = (uN x + uN y) % 18446744073709551616 := by
  show (x.toUInt64 + y.toUInt64).toNat = _
  exact UInt64.toNat_add _ _
theorem uN_mul (x y : Int64) : uN (x * y) = (uN x * uN y) % 18446744073709551616 := by
  show (x.toUInt64 * y.toUInt64).toNat = _
  exact UInt64.toNat_mul _ _
theorem uN_shl (x : Int64) : uN (x <<< ((1 : Int32).toInt64 &&& 63)) = (2 * uN x) % 18446744073709551616 := by
  have h : (((1 : Int32).toInt64 &&& 63).toBitVec.smod 64).toNat = 1 := by decide
  show (x.toBitVec <<< (((1 : Int32).toInt64 &&& 63).toBitVec.smod 64).toNat).toNat = _
  rw [h, BitVec.toNat_shiftLeft, Nat.shiftLeft_eq, Nat.mul_comm]
  rfl
theorem uN_shr (x : Int64) (s : UInt64) : uN (x.toUInt64 >>> s).toInt64 = uN x / 2 ^ (s.toNat % 64) := by
  show (x.toUInt64 >>> s).toNat = _
  rw [UInt64.toNat_shiftRight, Nat.shiftRight_eq_div_pow]
  rfl
theorem uN_s32 (x : Int64) : uN (x.toUInt64 >>> ((32 : Int32).toInt64.toUInt64 &&& Int64.toUInt64 63)).toInt64 = uN x / 4294967296 := by
  have h : ((32 : Int32).toInt64.toUInt64 &&& Int64.toUInt64 63).toNat % 64 = 32 := by decide
  rw [uN_shr, h]
theorem uN_s63 (x : Int64) : uN (x.toUInt64 >>> ((63 : Int32).toInt64.toUInt64 &&& Int64.toUInt64 63)).toInt64 = uN x / 9223372036854775808 := by
  have h : ((63 : Int32).toInt64.toUInt64 &&& Int64.toUInt64 63).toNat % 64 = 63 := by decide
  rw [uN_shr, h]
theorem uN_lo (x : Int64) : uN (x &&& 4294967295) = uN x % 4294967296 := by
  show (x.toUInt64 &&& Int64.toUInt64 4294967295).toNat = _
  rw [UInt64.toNat_and]
  exact Nat.and_two_pow_sub_one_eq_mod _ 32
theorem uN_bit (x : Int64) : (x &&& 1) = 0 ↔ uN x % 2 = 0 := by
  have h : uN (x &&& 1) = uN x % 2 := by
    show (x.toUInt64 &&& Int64.toUInt64 1).toNat = _
    rw [UInt64.toNat_and]
    exact Nat.and_two_pow_sub_one_eq_mod _ 1
  rw [← h]
  exact ⟨fun z => by rw [z]; rfl, fun z => uN_inj (z.trans rfl)⟩
theorem uN_or {x y : Int64} (hy : uN y < 2) : uN ((x <<< ((1 : Int32).toInt64 &&& 63)) ||| y) = (2 * uN x) % 18446744073709551616 + uN y := by
  have h1 : uN ((x <<< ((1 : Int32).toInt64 &&& 63)) ||| y) = uN (x <<< ((1 : Int32).toInt64 &&& 63)) ||| uN y := UInt64.toNat_or _ _
  have h2 : (2 * uN x) % 18446744073709551616 = 2 ^ 1 * (uN x % 9223372036854775808) := by omega
  rw [h1, uN_shl, h2]
  exact (Nat.two_pow_add_eq_or_of_lt (i := 1) hy _).symm
theorem nat_xor {a : Nat} (h : a < 18446744073709551616) : a ^^^ 2 ^ 63 = (a + 9223372036854775808) % 18446744073709551616 := by
  have h1 : (a ^^^ 2 ^ 63) % 2 ^ 63 = a % 2 ^ 63 := by rw [Nat.xor_mod_two_pow, Nat.mod_self, Nat.xor_zero]
  have h2 : (a ^^^ 2 ^ 63) / 2 ^ 63 = (a / 2 ^ 63) ^^^ 1 := by rw [Nat.xor_div_two_pow, Nat.div_self (Nat.two_pow_pos 63)]
  have h3 : a / 2 ^ 63 = 0 ∨ a / 2 ^ 63 = 1 := by omega
  generalize a ^^^ 2 ^ 63 = t at h1 h2
  rcases h3 with h3 | h3
  · rw [h3] at h2
    have h2 : t / 2 ^ 63 = 1 := h2
    omega
  · rw [h3] at h2
    have h2 : t / 2 ^ 63 = 0 := h2
    omega
theorem uN_xor (x : Int64) : uN (x ^^^ (-9223372036854775808)) = (uN x + 9223372036854775808) % 18446744073709551616 := by
  rw [← nat_xor (uN_lt x)]
  exact UInt64.toNat_xor _ _
theorem uN_int (x : Int64) : x.toInt = if 2 * uN x < 18446744073709551616 then (uN x : Int) else (uN x : Int) - 18446744073709551616 := BitVec.toInt_eq_toNat_cond _
theorem uN_le (x y : Int64) : (x ^^^ (-9223372036854775808)) ≤ (y ^^^ (-9223372036854775808)) ↔ uN x ≤ uN y := by
  have hx := uN_lt x
  have hy := uN_lt y
  rw [Int64.le_iff_toInt_le, uN_int, uN_int, uN_xor, uN_xor]
  omega
theorem uN_sk (x : Int64) {k : Nat} (hk : k < 64) : uN (x.toUInt64 >>> ((nI k).toInt64.toUInt64 &&& Int64.toUInt64 63)).toInt64 = uN x / 2 ^ k := by
  have h : ((nI k).toInt64.toUInt64 &&& Int64.toUInt64 63).toNat % 64 = k := by
    rw [nI_l (by omega), UInt64.toNat_and]
    have e : (lN k).toUInt64.toNat = k % 2 ^ 64 := rfl
    have e2 : (Int64.toUInt64 63).toNat = 2 ^ 6 - 1 := by decide
    rw [e, e2, Nat.and_two_pow_sub_one_eq_mod]
    omega
  rw [uN_shr, h]
/-! the remainder without sign: both sides compute X mod N -/
theorem uN_lN {n : Nat} (h : n < 18446744073709551616) : uN (lN n) = n := by
  have h1 : uN (lN n) = n % 18446744073709551616 := UInt64.toNat_ofNat
  rw [h1, Nat.mod_eq_of_lt h]
theorem lN_uN (x : Int64) : x = lN (uN x) := uN_inj (uN_lN (uN_lt x)).symm
theorem uN_sub {x y : Int64} (h : uN y ≤ uN x) : uN (x - y) = uN x - uN y := by
  have h1 : uN (x - y + y) = (uN (x - y) + uN y) % 18446744073709551616 := uN_add _ _
  rw [Int64.sub_add_cancel] at h1
  have := uN_lt (x - y)
  have := uN_lt x
  have := uN_lt y
  omega
theorem uN_pos {n : Int64} (h : 0 < n) : 0 < uN n ∧ uN n < 9223372036854775808 := by
  rw [Int64.lt_iff_toInt_lt, uN_int n] at h
  have h2 := uN_lt n
  have h3 : (0 : Int64).toInt = 0 := rfl
  rw [h3] at h
  split at h <;> omega
theorem uN_nn {n : Int64} (h : 0 ≤ n) : uN n < 9223372036854775808 := by
  rw [Int64.le_iff_toInt_le, uN_int n] at h
  have h2 := uN_lt n
  have h3 : (0 : Int64).toInt = 0 := rfl
  rw [h3] at h
  split at h <;> omega
theorem uN_toInt {n : Int64} (h : uN n < 9223372036854775808) : n.toInt = (uN n : Int) := by
  rw [uN_int n, if_pos (by omega)]
theorem fBelow_iff (x y : Int64) : fBelow x y = 0 ↔ uN y ≤ uN x := by
  unfold fBelow
  rw [← uN_le]
  by_cases h : (y ^^^ (-9223372036854775808)) ≤ (x ^^^ (-9223372036854775808))
  · rw [if_pos h]; exact ⟨fun _ => h, fun _ => rfl⟩
  · rw [if_neg h]; exact ⟨fun q => absurd q (by decide), fun q => absurd q h⟩
theorem fRest_nat {x n : Int64} (hn : 0 < n) : uN (fRest x n) = 2 * (uN x / 2 % uN n) + uN x % 2 ∧ uN x = uN n * (2 * (uN x / 2 / uN n)) + (2 * (uN x / 2 % uN n) + uN x % 2) := by
  obtain ⟨hN, hN2⟩ := uN_pos hn
  have hX := uN_lt x
  have hU : nsU x 1 = lN (uN x / 2) := by
    apply uN_inj
    rw [uN_lN (by omega)]
    exact uN_sk x (k := 1) (by decide)
  have hn' : n = lN (uN n) := lN_uN n
  have hd : nsU x 1 / n = lN (uN x / 2 / uN n) := by
    rw [hU]
    conv => lhs; rw [hn']
    rw [pk_lDiv (by omega) hN hN2]
  have hdm := Nat.div_add_mod (uN x / 2) (uN n)
  have hQ : uN x / 2 / uN n ≤ uN x / 2 := Nat.div_le_self _ _
  have hq : uN (nsL (nsU x 1 / n) 1) = 2 * (uN x / 2 / uN n) := by
    rw [hd]
    have h1 : uN (nsL (lN (uN x / 2 / uN n)) 1) = (2 * uN (lN (uN x / 2 / uN n))) % 18446744073709551616 := uN_shl _
    rw [h1, uN_lN (by omega)]
    omega
  have e1 : 2 * (uN x / 2 / uN n) * uN n = 2 * (uN n * (uN x / 2 / uN n)) := by
    rw [Nat.mul_assoc, Nat.mul_comm (uN x / 2 / uN n)]
  have hm : uN (nsL (nsU x 1 / n) 1 * n) = 2 * (uN n * (uN x / 2 / uN n)) := by
    rw [uN_mul, hq, e1]
    omega
  have e2 : uN n * (2 * (uN x / 2 / uN n)) = 2 * (uN n * (uN x / 2 / uN n)) := by
    rw [Nat.mul_left_comm]
  constructor
  · unfold fRest
    rw [uN_sub (by rw [hm]; omega), hm]
    omega
  · rw [e2]
    omega
theorem nat_mod_of {X N k r : Nat} (h : X = N * k + r) (hr : r < N) : X % N = r := by
  rw [h, Nat.mul_add_mod, Nat.mod_eq_of_lt hr]
theorem fRem_nat {x n : Int64} (hn : 0 < n) : uN (fRem x n) = uN x % uN n := by
  obtain ⟨hN, hN2⟩ := uN_pos hn
  obtain ⟨h1, h2⟩ := fRest_nat (x := x) hn
  have hR : uN x / 2 % uN n < uN n := Nat.mod_lt _ hN
  generalize uN x / 2 % uN n = r at h1 h2 hR
  generalize uN x / 2 / uN n = q at h2
  by_cases h : fBelow (fRest x n) n = 0
  · have h3 := (fBelow_iff _ _).mp h
    have h4 : fRem x n = fRest x n - n := if_pos h
    rw [h4, uN_sub h3, h1]
    rw [h1] at h3
    have e : uN n * (2 * q + 1) = uN n * (2 * q) + uN n := by rw [Nat.mul_add, Nat.mul_one]
    exact (nat_mod_of (k := 2 * q + 1) (by rw [e]; omega) (by omega)).symm
  · have h3 : ¬ uN n ≤ uN (fRest x n) := fun q => h ((fBelow_iff _ _).mpr q)
    have h4 : fRem x n = fRest x n := if_neg h
    rw [h4, h1]
    rw [h1] at h3
    exact (nat_mod_of h2 (by omega)).symm
theorem fRem_in {x n : Int64} (hn : 0 < n) : 0 ≤ fRem x n ∧ fRem x n < n := by
  obtain ⟨hN, hN2⟩ := uN_pos hn
  have h := fRem_nat (x := x) hn
  have hl : uN x % uN n < uN n := Nat.mod_lt _ hN
  have h1 := uN_toInt (n := fRem x n) (by omega)
  have h2 := uN_toInt hN2
  have h3 : (0 : Int64).toInt = 0 := rfl
  rw [Int64.le_iff_toInt_le, Int64.lt_iff_toInt_lt, h1, h2, h3]
  omega
theorem fDraw_in (b f n x : Int64) (hn : 0 < n) : ∀ (k : Nat) (tr : Int32), (fDraw b f n x k tr).1 = -3 ∨ (0 ≤ (fDraw b f n x k tr).1 ∧ (fDraw b f n x k tr).1 < n) := by
  intro k
  induction k with
  | zero => intro tr; exact Or.inl rfl
  | succ k ih =>
    intro tr
    rw [fDraw]
    by_cases h1 : x = 0
    · rw [if_pos h1]; exact Or.inr (fRem_in hn)
    · rw [if_neg h1]
      by_cases h2 : fBelow (fWord b (f + (nI (32 - (k + 1))).toInt64)) (-x) = 0
      · rw [if_pos h2]; exact ih _
      · rw [if_neg h2]; exact Or.inr (fRem_in hn)
theorem fSpan_in {b f n : Int64} {tr : Int32} (hn : 0 < n) (h : 0 ≤ (fSpan b f n tr).1) : (fSpan b f n tr).1 < n := by
  rcases fDraw_in b f n (fRem (-n) n) hn 32 tr with q | q
  · have q' : (fSpan b f n tr).1 = -3 := q
    rw [q'] at h
    exact absurd h (by decide)
  · exact q.2
