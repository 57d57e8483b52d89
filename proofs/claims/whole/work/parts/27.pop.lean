/-! ===== how many bits are set ===== -/
def uL (x : Int64) : Nat := x.toBitVec.toNat
theorem uL_lt (x : Int64) : uL x < 2 ^ 64 := x.toBitVec.isLt
theorem uL_and (a b : Int64) : uL (a &&& b) = uL a &&& uL b := by simp [uL, BitVec.toNat_and]
theorem uL_add {a b : Int64} (h : uL a + uL b < 2 ^ 64) : uL (a + b) = uL a + uL b := by
  rw [uL, Int64.toBitVec_add, BitVec.toNat_add]
  exact Nat.mod_eq_of_lt h
theorem uL_sub {a b : Int64} (h : uL b ≤ uL a) : uL (a - b) = uL a - uL b := by
  rw [uL, Int64.toBitVec_sub, BitVec.toNat_sub]
  have h1 := uL_lt a
  have h2 := uL_lt b
  simp only [uL] at *
  omega
def uSh (a : Int64) (c : Int32) : Int64 := (Int64.toUInt64 a >>> (Int64.toUInt64 (Int32.toInt64 c) &&& Int64.toUInt64 63)).toInt64
theorem uL_sh (a : Int64) (c : Int32) (k : Nat) (h : (Int64.toUInt64 (Int32.toInt64 c) &&& Int64.toUInt64 63).toNat % 64 = k) : uL (uSh a c) = uL a / 2 ^ k := by
  have e : uL (uSh a c) = (Int64.toUInt64 a >>> (Int64.toUInt64 (Int32.toInt64 c) &&& Int64.toUInt64 63)).toNat := rfl
  rw [e, UInt64.toNat_shiftRight, h, Nat.shiftRight_eq_div_pow]
  rfl
theorem and_split {a b : Nat} (x y : Nat) (ha : a < 256) (hb : b < 256) : (a + 256 * x) &&& (b + 256 * y) = (a &&& b) + 256 * (x &&& y) := by
  have h1 : ((a + 256 * x) &&& (b + 256 * y)) % 2 ^ 8 = (a &&& b) := by
    rw [Nat.and_mod_two_pow]
    congr 1 <;> omega
  have h2 : ((a + 256 * x) &&& (b + 256 * y)) / 2 ^ 8 = (x &&& y) := by
    rw [Nat.and_div_two_pow]
    congr 1 <;> omega
  have h3 := Nat.div_add_mod ((a + 256 * x) &&& (b + 256 * y)) (2 ^ 8)
  rw [h1, h2] at h3
  omega
def rep8 (m : Nat) : Nat → Nat
  | 0 => 0
  | k + 1 => m + 256 * rep8 m k
/-- the first k bytes, each sent through f -/
def by8 (f : Nat → Nat) : Nat → Nat → Nat
  | 0, _ => 0
  | k + 1, n => f (n % 256) + 256 * by8 f k (n / 256)
set_option maxRecDepth 100000 in
theorem s1_c : ∀ a : Fin 256, ∀ c : Fin 2, ((a.1 / 2 + 128 * c.1) &&& 85) = ((a.1 / 2) &&& 85) ∧ ((a.1 / 2) &&& 85) ≤ a.1 := by decide +kernel
set_option maxRecDepth 100000 in
theorem s2_c : ∀ a : Fin 256, ∀ c : Fin 4, ((a.1 / 4 + 64 * c.1) &&& 51) = ((a.1 / 4) &&& 51) := by decide +kernel
def p1 (a : Nat) : Nat := a - ((a / 2) &&& 85)
def p2 (a : Nat) : Nat := (a &&& 51) + ((a / 4) &&& 51)
def p3 (a : Nat) : Nat := (a + a / 16) &&& 15
theorem step1 : ∀ k n, n < 256 ^ k → n - ((n / 2) &&& rep8 85 k) = by8 p1 k n
  | 0, n, h => by simp at h; subst h; simp [by8]
  | k + 1, n, h => by
    have hr : n / 256 < 256 ^ k := by rw [Nat.div_lt_iff_lt_mul (by omega), ← Nat.pow_succ]; exact h
    have ih := step1 k (n / 256) hr
    have c := s1_c ⟨n % 256, by omega⟩ ⟨(n / 256) % 2, by omega⟩
    simp only at c
    have e : n / 2 = ((n % 256) / 2 + 128 * (n / 256 % 2)) + 256 * (n / 256 / 2) := by omega
    have l : ((n / 256 / 2) &&& rep8 85 k) ≤ n / 256 / 2 := Nat.and_le_left
    rw [by8, rep8, e, and_split _ _ (by omega) (by omega), c.1, ← ih, p1]
    have c2 := c.2
    omega
theorem step2 : ∀ k n, n < 256 ^ k → (n &&& rep8 51 k) + ((n / 4) &&& rep8 51 k) = by8 p2 k n
  | 0, n, h => by simp at h; subst h; simp [by8]
  | k + 1, n, h => by
    have hr : n / 256 < 256 ^ k := by rw [Nat.div_lt_iff_lt_mul (by omega), ← Nat.pow_succ]; exact h
    have ih := step2 k (n / 256) hr
    have c := s2_c ⟨n % 256, by omega⟩ ⟨(n / 256) % 4, by omega⟩
    simp only at c
    have e : n / 4 = ((n % 256) / 4 + 64 * (n / 256 % 4)) + 256 * (n / 256 / 4) := by omega
    have e0 : n &&& rep8 51 (k + 1) = ((n % 256) &&& 51) + 256 * ((n / 256) &&& rep8 51 k) := by
      have q : n = n % 256 + 256 * (n / 256) := by omega
      rw [rep8]
      conv => lhs; rw [q]
      exact and_split _ _ (by omega) (by omega)
    have e1 : (n / 4) &&& rep8 51 (k + 1) = (((n % 256) / 4) &&& 51) + 256 * ((n / 256 / 4) &&& rep8 51 k) := by
      rw [rep8, e, and_split _ _ (by omega) (by omega), c]
    rw [e0, e1, by8, ← ih, p2]
    omega
theorem by8_lt {f : Nat → Nat} (hf : ∀ a, a < 256 → f a < 256) : ∀ k n, by8 f k n < 256 ^ k
  | 0, n => by simp [by8]
  | k + 1, n => by
    have := by8_lt hf k (n / 256)
    have h := hf (n % 256) (by omega)
    rw [by8, Nat.pow_succ]
    omega
theorem by8_mod {f : Nat → Nat} (hf : ∀ a, a < 256 → f a < 256) (k n : Nat) : by8 f (k + 1) n % 256 = f (n % 256) ∧ by8 f (k + 1) n / 256 = by8 f k (n / 256) := by
  have h := hf (n % 256) (by omega)
  rw [by8]
  omega
theorem by8_by8 {f g : Nat → Nat} (hf : ∀ a, a < 256 → f a < 256) : ∀ k n, by8 g k (by8 f k n) = by8 (fun a => g (f a)) k n
  | 0, n => rfl
  | k + 1, n => by
    have := by8_mod hf k n
    rw [by8, this.1, this.2, by8_by8 hf k, by8]
set_option maxRecDepth 100000 in
theorem p12_c : ∀ a : Fin 256, p1 a.1 < 256 ∧ p2 a.1 < 256 ∧ p2 (p1 a.1) % 16 ≤ 4 ∧ p2 (p1 a.1) / 16 ≤ 4 := by decide +kernel
set_option maxRecDepth 100000 in
theorem p3_c : ∀ x y c : Fin 5, (((x.1 + 16 * y.1) + (x.1 + 16 * y.1) / 16 + 16 * c.1) &&& 15) = x.1 + y.1 ∧ p3 (x.1 + 16 * y.1) = x.1 + y.1 := by decide +kernel
/-- both nibbles of the first k bytes are at most 4 -/
def nb4 : Nat → Nat → Prop
  | 0, n => n = 0
  | k + 1, n => n % 16 ≤ 4 ∧ n % 256 / 16 ≤ 4 ∧ nb4 k (n / 256)
theorem nb4_0 : ∀ k n, nb4 k n → n % 16 ≤ 4
  | 0, n, h => by rw [nb4] at h; omega
  | k + 1, n, h => h.1
theorem step3 : ∀ k n, nb4 k n → (n + n / 16) &&& rep8 15 k = by8 p3 k n
  | 0, n, h => by simp [by8, rep8]
  | k + 1, n, h => by
    have ih := step3 k (n / 256) h.2.2
    have h0 := nb4_0 k _ h.2.2
    have h1 := h.1
    have h2 := h.2.1
    have c := p3_c ⟨n % 256 % 16, by omega⟩ ⟨n % 256 / 16, by omega⟩ ⟨n / 256 % 16, by omega⟩
    simp only at c
    have q : n % 256 % 16 + 16 * (n % 256 / 16) = n % 256 := by omega
    rw [q] at c
    have e : n + n / 16 = (n % 256 + n % 256 / 16 + 16 * (n / 256 % 16)) + 256 * (n / 256 + n / 256 / 16) := by omega
    rw [by8, rep8, e, and_split _ _ (by omega) (by omega), ih, c.1, c.2]
theorem nb4_by : ∀ k n, nb4 k (by8 (fun a => p2 (p1 a)) k n)
  | 0, n => rfl
  | k + 1, n => by
    have hc := p12_c ⟨n % 256, by omega⟩
    simp only at hc
    have hf : ∀ a, a < 256 → p2 (p1 a) < 256 := fun a ha => (p12_c ⟨p1 a, (p12_c ⟨a, ha⟩).1⟩).2.1
    have hm := by8_mod hf k n
    refine ⟨?_, ?_, ?_⟩
    · have : by8 (fun a => p2 (p1 a)) (k + 1) n % 16 = p2 (p1 (n % 256)) % 16 := by
        have := hm.1
        omega
      omega
    · rw [hm.1]; exact hc.2.2.2
    · rw [hm.2]; exact nb4_by k (n / 256)
set_option maxRecDepth 100000 in
theorem pc8_c : ∀ a : Fin 256, p3 (p2 (p1 a.1)) = mCnt (fun j => a.1.testBit j) 8 := by decide +kernel
theorem mCnt_le (p : Nat → Bool) : ∀ n, mCnt p n ≤ n
  | 0 => Nat.le_refl 0
  | n + 1 => by
    have := mCnt_le p n
    rw [mCnt]
    by_cases e : p n = true <;> simp [e] <;> omega
theorem mCnt_congr {p q : Nat → Bool} : ∀ n, (∀ k, k < n → p k = q k) → mCnt p n = mCnt q n
  | 0, _ => rfl
  | n + 1, h => by rw [mCnt, mCnt, mCnt_congr n (fun k hk => h k (by omega)), h n (by omega)]
theorem mCnt_add (p : Nat → Bool) (n : Nat) : ∀ m, mCnt p (n + m) = mCnt p n + mCnt (fun k => p (n + k)) m
  | 0 => rfl
  | m + 1 => by rw [← Nat.add_assoc, mCnt, mCnt_add p n m, mCnt, Nat.add_assoc]
