/-! ===== bits of a long, sets of items ===== -/
def bB (s : Int64) (k : Nat) : Bool := s.toBitVec.getLsbD k
theorem bB_or (a b : Int64) (k : Nat) : bB (a ||| b) k = (bB a k || bB b k) := by simp [bB]
theorem bB_and (a b : Int64) (k : Nat) : bB (a &&& b) k = (bB a k && bB b k) := by simp [bB]
theorem bB_not (a : Int64) {k : Nat} (h : k < 64) : bB (a ^^^ (-1)) k = !bB a k := by
  have : ((-1 : Int64)).toBitVec = BitVec.allOnes 64 := by decide
  simp [bB, this, h]
theorem bB_0 (k : Nat) : bB 0 k = false := by simp [bB]
theorem bB_ge (a : Int64) {k : Nat} (h : 64 ≤ k) : bB a k = false := by simp [bB, BitVec.getLsbD_of_ge _ _ h]
theorem bB_ext {a b : Int64} (h : ∀ k, k < 64 → bB a k = bB b k) : a = b := by
  apply Int64.toBitVec_inj.mp
  apply BitVec.eq_of_getLsbD_eq
  intro i hi
  exact h i hi
theorem bB_zero {a : Int64} : a = 0 ↔ ∀ k, k < 64 → bB a k = false := by
  constructor
  · intro h k _
    rw [h, bB_0]
  · intro h
    exact bB_ext (fun k hk => by rw [h k hk, bB_0])
set_option maxRecDepth 20000 in
theorem bit_j : ∀ j, j < 64 → ((1 <<< (Int32.toInt64 (nI j) &&& 63) : Int64)).toBitVec = BitVec.twoPow 64 j := by decide
set_option maxRecDepth 20000 in
theorem bit_all_j : ∀ j, j < 41 → ((1 <<< (Int32.toInt64 (nI j) &&& 63) : Int64) - 1).toBitVec = BitVec.ofNat 64 (2 ^ j - 1) := by decide
set_option maxRecDepth 20000 in
theorem bit_sh_j : ∀ j, j < 64 → ((Int32.toInt64 (nI j) &&& 63).toBitVec.smod 64).toNat = j := by decide
theorem bB_bit (σ : mS) {j : Nat} (h : j < 64) (k : Nat) : bB (f_X7_bit σ (nI j)) k = decide (k = j) := by
  rw [bB, f_X7_bit, bit_j j h, BitVec.getLsbD_twoPow]
  by_cases e : k = j
  · subst e; simp [h]
  · simp [e]; omega
theorem bB_all (σ : mS) {j : Nat} (h : j < 41) (k : Nat) : bB (f_X7_bit σ (nI j) - 1) k = decide (k < j) := by
  rw [bB, f_X7_bit, bit_all_j j h, BitVec.getLsbD_ofNat, Nat.testBit_two_pow_sub_one]
  by_cases e : k < j
  · simp [e]; omega
  · simp [e]
theorem bB_and1 (a : Int64) : (a &&& 1 = 0) ↔ bB a 0 = false := by
  rw [bB_zero]
  constructor
  · intro h
    have := h 0 (by omega)
    rw [bB_and] at this
    have e : bB 1 0 = true := by decide
    rw [e, Bool.and_true] at this
    exact this
  · intro h k hk
    rw [bB_and]
    by_cases e : k = 0
    · subst e; rw [h]; rfl
    · have : bB 1 k = false := by
        rw [bB, show (1 : Int64).toBitVec = BitVec.ofNat 64 1 by decide, BitVec.getLsbD_ofNat]
        cases k with
        | zero => exact absurd rfl e
        | succ n => simp [Nat.testBit_succ]
      rw [this, Bool.and_false]
theorem bB_shr (a : Int64) {j : Nat} (h : j < 64) : bB (a >>> (Int32.toInt64 (nI j) &&& 63)) 0 = bB a j := by
  rw [bB, Int64.toBitVec_shiftRight, BitVec.sshiftRight_eq', bit_sh_j j h, BitVec.getLsbD_sshiftRight]
  simp [bB, h]
theorem bB_isIn (a : Int64) {j : Nat} (h : j < 64) : ((a >>> (Int32.toInt64 (nI j) &&& 63)) &&& 1 = 0) ↔ bB a j = false := by rw [bB_and1, bB_shr a h]
theorem bB_isSet (σ : mS) (a : Int64) {j : Nat} (h : j < 64) : (a &&& f_X7_bit σ (nI j) = 0) ↔ bB a j = false := by
  rw [bB_zero]
  constructor
  · intro w
    have := w j h
    rw [bB_and, bB_bit σ h, decide_eq_true rfl, Bool.and_true] at this
    exact this
  · intro w k hk
    rw [bB_and, bB_bit σ h]
    by_cases e : k = j
    · subst e; rw [w]; rfl
    · simp [e]
theorem bB_setP (p : Nat → Bool) : ∀ n, n ≤ 40 → ∀ k, bB (mSetP p n) k = (decide (k < n) && p k)
  | 0, _, k => by simp [mSetP, bB_0]
  | n + 1, h, k => by
    rw [mSetP, bB_or, bB_setP p n (by omega) k]
    by_cases e : p n = true
    · rw [if_pos e, bB_bit _ (by omega)]
      by_cases ek : k = n
      · subst ek; simp [e]
      · have : decide (k < n + 1) = decide (k < n) := by simp; omega
        simp [ek, this]
    · rw [if_neg e, bB_0]
      by_cases ek : k = n
      · subst ek; simp [e]
      · have : decide (k < n + 1) = decide (k < n) := by simp; omega
        simp [this]
