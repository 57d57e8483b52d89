/-! ===== Long.bitCount ===== -/
def ds8 : Nat → Nat → Nat
  | 0, _ => 0
  | k + 1, n => mCnt (fun j => (n % 256).testBit j) 8 + ds8 k (n / 256)
theorem ds8_eq : ∀ k n, mCnt (fun j => n.testBit j) (8 * k) = ds8 k n
  | 0, n => rfl
  | k + 1, n => by
    have e : 8 * (k + 1) = 8 + 8 * k := by omega
    rw [e, mCnt_add, ds8, ← ds8_eq k (n / 256)]
    congr 1
    · refine mCnt_congr 8 (fun j hj => ?_)
      have : (n % 2 ^ 8).testBit j = (decide (j < 8) && n.testBit j) := Nat.testBit_mod_two_pow n 8 j
      rw [show (256 : Nat) = 2 ^ 8 from rfl, this]
      simp [hj]
    · refine mCnt_congr (8 * k) (fun j hj => ?_)
      have : (n / 2 ^ 8).testBit j = n.testBit (j + 8) := Nat.testBit_div_two_pow ..
      rw [show (256 : Nat) = 2 ^ 8 from rfl, this, Nat.add_comm]
theorem by8_3 {f : Nat → Nat} (hf : ∀ a, a < 256 → f a ≤ 85) : ∀ k n, 3 * by8 f k n < 256 ^ k
  | 0, n => by simp [by8]
  | k + 1, n => by
    have := by8_3 hf k (n / 256)
    have h := hf (n % 256) (by omega)
    rw [by8, Nat.pow_succ]
    omega
set_option maxRecDepth 100000 in
theorem p12_85 : ∀ a : Fin 256, p2 (p1 a.1) ≤ 85 := by decide +kernel
def bc1 (a : Int64) : Int64 := a - (uSh a 1 &&& 6148914691236517205)
def bc2 (a : Int64) : Int64 := (a &&& 3689348814741910323) + (uSh a 2 &&& 3689348814741910323)
def bc3 (a : Int64) : Int64 := (a + uSh a 4) &&& 1085102592571150095
theorem bc1_u (a : Int64) : uL (bc1 a) = by8 p1 8 (uL a) := by
  have h := step1 8 (uL a) (uL_lt a)
  have e : uL (uSh a 1 &&& 6148914691236517205) = (uL a / 2 &&& rep8 85 8) := by
    rw [uL_and, uL_sh a 1 1 (by decide)]
    congr 1
  have l : uL a / 2 &&& rep8 85 8 ≤ uL a / 2 := Nat.and_le_left
  rw [bc1, uL_sub (by rw [e]; omega), e, h]
theorem bc2_u (a : Int64) : uL (bc2 a) = by8 p2 8 (uL a) := by
  have h := step2 8 (uL a) (uL_lt a)
  have e1 : uL (a &&& 3689348814741910323) = (uL a &&& rep8 51 8) := by
    rw [uL_and]
    congr 1
  have e : uL (uSh a 2 &&& 3689348814741910323) = (uL a / 4 &&& rep8 51 8) := by
    rw [uL_and, uL_sh a 2 2 (by decide)]
    congr 1
  have l : by8 p2 8 (uL a) < 256 ^ 8 := by8_lt (fun b hb => (p12_c ⟨b, hb⟩).2.1) 8 (uL a)
  rw [← h] at l
  rw [bc2, uL_add (by rw [e, e1]; exact l), e, e1, h]
theorem bc12_u (a : Int64) : uL (bc2 (bc1 a)) = by8 (fun b => p2 (p1 b)) 8 (uL a) := by
  rw [bc2_u, bc1_u, by8_by8 (fun b hb => (p12_c ⟨b, hb⟩).1)]
theorem bc3_u (a : Int64) : uL (bc3 (bc2 (bc1 a))) = by8 (fun b => p3 (p2 (p1 b))) 8 (uL a) := by
  have h3 := by8_3 (f := fun b => p2 (p1 b)) (fun b hb => p12_85 ⟨b, hb⟩) 8 (uL a)
  have hn := nb4_by 8 (uL a)
  have h := step3 8 _ hn
  rw [by8_by8 (fun b hb => (p12_c ⟨p1 b, (p12_c ⟨b, hb⟩).1⟩).2.1)] at h
  rw [← bc12_u] at h3 h
  rw [bc3, uL_and, uL_add (by rw [uL_sh _ 4 4 (by decide)]; omega), uL_sh _ 4 4 (by decide)]
  rw [← h]
  congr 1
theorem by8_ds : ∀ k n, by8 (fun b => p3 (p2 (p1 b))) (k + 1) n = mCnt (fun j => (n % 256).testBit j) 8 + 256 * by8 (fun b => p3 (p2 (p1 b))) k (n / 256) := by
  intro k n
  rw [by8]
  have := pc8_c ⟨n % 256, by omega⟩
  simp only at this
  rw [this]
theorem bc_end (a : Int64) : ∃ s, s ≤ 64 ∧ s = ds8 8 (uL a) ∧ ∀ y x4 x5 x6, y = by8 (fun b => p3 (p2 (p1 b))) 8 (uL a) → x4 = y + y / 256 → x5 = x4 + x4 / 65536 → x6 = x5 + x5 / 4294967296 → x6 < 2 ^ 63 ∧ x6 % 128 = s := by
  refine ⟨_, ?_, rfl, ?_⟩
  · rw [← ds8_eq 8]; exact mCnt_le _ 64
  · intro y x4 x5 x6 hy h4 h5 h6
    simp only [by8_ds] at hy
    simp only [ds8]
    simp only [by8] at hy
    have g0 := mCnt_le (fun j => (uL a % 256).testBit j) 8
    have g1 := mCnt_le (fun j => (uL a / 256 % 256).testBit j) 8
    have g2 := mCnt_le (fun j => (uL a / 256 / 256 % 256).testBit j) 8
    have g3 := mCnt_le (fun j => (uL a / 256 / 256 / 256 % 256).testBit j) 8
    have g4 := mCnt_le (fun j => (uL a / 256 / 256 / 256 / 256 % 256).testBit j) 8
    have g5 := mCnt_le (fun j => (uL a / 256 / 256 / 256 / 256 / 256 % 256).testBit j) 8
    have g6 := mCnt_le (fun j => (uL a / 256 / 256 / 256 / 256 / 256 / 256 % 256).testBit j) 8
    have g7 := mCnt_le (fun j => (uL a / 256 / 256 / 256 / 256 / 256 / 256 / 256 % 256).testBit j) 8
    generalize mCnt (fun j => (uL a % 256).testBit j) 8 = v0 at *
    generalize mCnt (fun j => (uL a / 256 % 256).testBit j) 8 = v1 at *
    generalize mCnt (fun j => (uL a / 256 / 256 % 256).testBit j) 8 = v2 at *
    generalize mCnt (fun j => (uL a / 256 / 256 / 256 % 256).testBit j) 8 = v3 at *
    generalize mCnt (fun j => (uL a / 256 / 256 / 256 / 256 % 256).testBit j) 8 = v4 at *
    generalize mCnt (fun j => (uL a / 256 / 256 / 256 / 256 / 256 % 256).testBit j) 8 = v5 at *
    generalize mCnt (fun j => (uL a / 256 / 256 / 256 / 256 / 256 / 256 % 256).testBit j) 8 = v6 at *
    generalize mCnt (fun j => (uL a / 256 / 256 / 256 / 256 / 256 / 256 / 256 % 256).testBit j) 8 = v7 at *

    have q1 : y / 256 = v1 + 256 * (v2 + 256 * (v3 + 256 * (v4 + 256 * (v5 + 256 * (v6 + 256 * v7))))) := by omega
    rw [q1, hy] at h4
    have q2 : x4 / 65536 = (v2 + v3) + 256 * ((v3 + v4) + 256 * ((v4 + v5) + 256 * ((v5 + v6) + 256 * ((v6 + v7) + 256 * v7)))) := by omega
    rw [q2] at h5
    have q3 : x5 / 4294967296 = (v4 + v5 + v6 + v7) + 256 * ((v5 + v6 + v7) + 256 * ((v6 + v7) + 256 * v7)) := by omega
    rw [q3] at h6
    constructor
    · omega
    · obtain ⟨R, hR⟩ : ∃ R, x6 = (v0 + (v1 + (v2 + (v3 + (v4 + (v5 + (v6 + (v7 + 0)))))))) + 256 * R := ⟨(v1 + v2 + v3 + v4 + v5 + v6 + v7) + 256 * ((v2 + v3 + v4 + v5 + v6 + v7) + 256 * ((v3 + v4 + v5 + v6 + v7) + 256 * ((v4 + v5 + v6 + v7) + 256 * ((v5 + v6 + v7) + 256 * ((v6 + v7) + 256 * v7))))), by omega⟩
      clear h6 h5 h4 hy q1 q2 q3
      omega
def bc4 (a : Int64) : Int64 := a + uSh a 8
def bc5 (a : Int64) : Int64 := a + uSh a 16
def bc6 (a : Int64) : Int64 := a + uSh a 32
theorem bc_low {x : Int64} {s : Nat} (hs : s ≤ 64) (h : uL x % 128 = s) : (Int64.toInt32 x &&& 127) = nI s := by
  apply Int32.toBitVec_inj.mp
  apply BitVec.eq_of_toNat_eq
  rw [Int32.toBitVec_and, BitVec.toNat_and]
  have e1 : (Int64.toInt32 x).toBitVec.toNat = uL x % 2 ^ 32 := by
    rw [Int64.toBitVec_toInt32, BitVec.signExtend_eq_setWidth_of_le _ (by decide), BitVec.toNat_setWidth]
    rfl
  have e2 : (127 : Int32).toBitVec.toNat = 2 ^ 7 - 1 := by decide
  have e3 : (nI s).toBitVec.toNat = s := by
    have : (nI s).toBitVec = BitVec.ofNat 32 s := rfl
    rw [this, BitVec.toNat_ofNat]
    omega
  rw [e1, e2, e3, Nat.and_two_pow_sub_one_eq_mod]
  omega
theorem bB_uL (a : Int64) (k : Nat) : bB a k = (uL a).testBit k := by rw [bB, BitVec.getLsbD]; rfl
theorem bc_val (a : Int64) : (Int64.toInt32 (bc6 (bc5 (bc4 (bc3 (bc2 (bc1 a)))))) &&& 127) = nI (mCnt (bB a) 64) := by
  obtain ⟨s, hs, he, H⟩ := bc_end a
  have h := H (uL (bc3 (bc2 (bc1 a)))) _ _ _ (bc3_u a) rfl rfl rfl
  generalize bc3 (bc2 (bc1 a)) = y at h
  have l4 : uL (bc4 y) = uL y + uL y / 256 := by
    rw [bc4, uL_add (by rw [uL_sh y 8 8 (by decide)]; omega), uL_sh y 8 8 (by decide)]
  have l5 : uL (bc5 (bc4 y)) = uL (bc4 y) + uL (bc4 y) / 65536 := by
    rw [bc5, uL_add (by rw [uL_sh _ 16 16 (by decide)]; omega), uL_sh _ 16 16 (by decide)]
  have l6 : uL (bc6 (bc5 (bc4 y))) = uL (bc5 (bc4 y)) + uL (bc5 (bc4 y)) / 4294967296 := by
    rw [bc6, uL_add (by rw [uL_sh _ 32 32 (by decide)]; omega), uL_sh _ 32 32 (by decide)]
  rw [bc_low hs (by rw [l6, l5, l4]; exact h.2), he, ← ds8_eq 8]
  congr 1
theorem S_bitCount {Γ : Nat × (Nat → Int32)} {d : Nat} {Q : mQ} {σ : mS} (a1 : Int64) (hQ : Q (.inl (some (.int (nI (mCnt (bB a1) 64))))) 60 mSH σ) : mCall Γ M_J13_bitCount_95d88 (d + 1) 0 0 [.long a1] 60 mSH σ Q := by
  rw [← bc_val] at hQ
  exact E_J13_bitCount_95d88 a1 (T_J13_bitCount_95d88_10 _ (T_J13_bitCount_95d88_24 _ (T_J13_bitCount_95d88_34 _ (T_J13_bitCount_95d88_41 _ (T_J13_bitCount_95d88_48 _ (T_J13_bitCount_95d88_55 _ hQ))))))
