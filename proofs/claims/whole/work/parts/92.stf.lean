/-! ===== what the stream of tokens is like ===== -/
theorem and255 (x : Int32) : ∃ b, b < 256 ∧ x &&& 255 = nI b := by
  have h0 : ¬ (x &&& 255) < 0 := by
    rw [Int32.lt_iff_toInt_lt]
    have : (x &&& 255).toBitVec.toNat < 256 := by
      rw [Int32.toBitVec_and, BitVec.toNat_and]
      exact Nat.lt_of_le_of_lt Nat.and_le_right (by decide)
    have e : (x &&& 255).toInt = ((x &&& 255).toBitVec.toNat : Int) := by
      show (x &&& 255).toBitVec.toInt = _
      rw [BitVec.toInt_eq_toNat_of_lt (by omega)]
    rw [e, show (0 : Int32).toInt = 0 by decide]
    omega
  obtain ⟨j, hj, e⟩ := nI_of h0
  refine ⟨j, ?_, e⟩
  have : (x &&& 255).toBitVec.toNat < 256 := by
    rw [Int32.toBitVec_and, BitVec.toNat_and]
    exact Nat.lt_of_le_of_lt Nat.and_le_right (by decide)
  have e2 : (x &&& 255).toInt = ((x &&& 255).toBitVec.toNat : Int) := by
    show (x &&& 255).toBitVec.toInt = _
    rw [BitVec.toInt_eq_toNat_of_lt (by omega)]
  rw [e, nI_toInt hj] at e2
  rw [e] at this
  omega
theorem mKcy : ∀ k, k < 21 → mKc k = mKy k := by decide +kernel
theorem KT_w {n : Nat} {f : Nat → Int32} {j : Nat} (hb : bytes n f) (h : KT n f j ≤ 20 ∨ KT n f j = 24) : pT n f j < n ∧ isL (f (pT n f j)) ∧ wE f (n - pT n f j) (pT n f j) - pT n f j ≤ 8 ∧ KT n f j = kwF 28 0 (wV f (n - pT n f j) (pT n f j) 0) 24 ∧ VT n f j = wV f (n - pT n f j) (pT n f j) 0 := by
  rw [KT] at h ⊢
  rw [VT]
  by_cases a : pT n f j < n
  · rw [if_pos a] at h ⊢
    rw [if_pos a]
    by_cases b : j < 400
    · rw [if_pos b] at h ⊢
      rw [if_pos b]
      rw [tkK] at h ⊢
      rw [tkV]
      by_cases l : isL (f (pT n f j))
      · rw [if_pos l] at h ⊢
        rw [if_pos l]
        by_cases w : wE f (n - pT n f j) (pT n f j) - pT n f j ≤ 8
        · rw [if_pos w]; exact ⟨a, l, w, rfl, rfl⟩
        · rw [if_neg w] at h; omega
      · rw [if_neg l] at h
        exfalso
        by_cases dg : isD (f (pT n f j))
        · rw [if_pos dg] at h
          split at h <;> omega
        · rw [if_neg dg] at h
          obtain ⟨c, hc, ec⟩ := hb _ a
          have := kw_byte hc (by rw [← ec]; exact fun q => q.elim l dg)
          rw [ec, this] at h
          repeat' split at h
          all_goals omega
    · rw [if_neg b] at h; omega
  · rw [if_neg a] at h; omega
theorem tF_T {n : Nat} {f : Nat → Int32} (hb : bytes n f) : tF (KT n f) (VT n f) := by
  intro j
  refine ⟨fun h => ?_, fun h k hk => ?_⟩
  · obtain ⟨a, l, w, e1, e2⟩ := KT_w hb (.inl h)
    rcases kw_word (wlo_tk f a l) with ⟨h1, h2⟩ | ⟨h1, h2⟩
    · rw [e2, ← h2, e1]; exact mKcy _ (by omega)
    · rw [e1, h1] at h; omega
  · obtain ⟨a, l, w, e1, e2⟩ := KT_w hb (.inr h)
    rcases kw_word (wlo_tk f a l) with ⟨h1, h2⟩ | ⟨h1, h2⟩
    · rw [e1] at h; omega
    · rw [e2, ← mKcy k hk]; exact fun q => h2 k hk q.symm
/-! numbers -/
theorem i64_step {z e : Nat} (hz : z ≤ 99999) (he : e < 10) : ((Int32.toInt64 (nI z) * 10) + Int32.toInt64 (nI (48 + e))) - 48 = Int32.toInt64 (nI (z * 10 + e)) := by
  apply Int64.toInt_inj.mp
  rw [Int64.toInt_sub, Int64.toInt_add, Int64.toInt_mul, Int32.toInt_toInt64, Int32.toInt_toInt64, Int32.toInt_toInt64, nI_toInt (by omega), nI_toInt (by omega), nI_toInt (by omega), show (10 : Int64).toInt = 10 by decide, show (48 : Int64).toInt = 48 by decide]
  simp only [Int.bmod]
  omega
theorem isD_e {x : Int32} (h : isD x) : ∃ e, e < 10 ∧ x = nI (48 + e) := by
  have h0 : ¬ x < 0 := fun q => h.1 (Int32.lt_trans q (by decide))
  obtain ⟨j, hj, rfl⟩ := nI_of h0
  have a := h.1
  have b := h.2
  rw [show (48 : Int32) = nI 48 by decide, nI_ltI hj (by omega)] at a
  rw [show (57 : Int32) = nI 57 by decide, nI_ltI (by omega) hj] at b
  exact ⟨j - 48, by omega, by congr 1; omega⟩
theorem nE_ge (f : Nat → Int32) : ∀ m i, i ≤ nE f m i := fun m i => (nE_le f m i).1
theorem nV_in (f : Nat → Int32) (c : Nat) : ∀ m i z, nE f m i ≤ i + c → c ≤ 6 → z < 10 ^ (6 - c) → ∃ y, y ≤ 999999 ∧ nV f m i (Int32.toInt64 (nI z)) = Int32.toInt64 (nI y) := by
  induction c with
  | zero =>
    intro m i z h hc hz
    cases m with
    | zero => exact ⟨z, by omega, rfl⟩
    | succ m =>
      rw [nV]
      by_cases d : isD (f i)
      · rw [nE, if_pos d] at h
        have := nE_ge f m (i + 1)
        omega
      · rw [if_neg d]; exact ⟨z, by omega, rfl⟩
  | succ c ih =>
    intro m i z h hc hz
    have hp : (10 : Nat) ^ (6 - c) = 10 ^ (6 - (c + 1)) * 10 := by rw [← Nat.pow_succ]; congr 1; omega
    have hq : (10 : Nat) ^ (6 - (c + 1)) ≤ 10 ^ 5 := Nat.pow_le_pow_right (by decide) (by omega)
    cases m with
    | zero => exact ⟨z, by omega, rfl⟩
    | succ m =>
      rw [nV]
      by_cases d : isD (f i)
      · rw [nE, if_pos d] at h
        rw [if_pos d]
        obtain ⟨e, he, ee⟩ := isD_e d
        rw [ee, i64_step (by omega) he]
        exact ih m (i + 1) (z * 10 + e) (by omega) (by omega) (by omega)
      · rw [if_neg d]; exact ⟨z, by omega, rfl⟩
theorem tN_T {n : Nat} {f : Nat → Int32} (hb : bytes n f) : tN (KT n f) (VT n f) := by
  intro j h
  rw [KT] at h
  rw [VT]
  by_cases a : pT n f j < n
  · rw [if_pos a] at h ⊢
    by_cases b : j < 400
    · rw [if_pos b] at h ⊢
      rw [tkK] at h
      rw [tkV]
      by_cases l : isL (f (pT n f j))
      · rw [if_pos l] at h
        exfalso
        by_cases w : wE f (n - pT n f j) (pT n f j) - pT n f j ≤ 8
        · rw [if_pos w] at h
          rcases kw_word (wlo_tk f a l) with ⟨h1, h2⟩ | ⟨h1, h2⟩ <;> omega
        · rw [if_neg w] at h; omega
      · rw [if_neg l] at h ⊢
        by_cases dg : isD (f (pT n f j))
        · rw [if_pos dg] at h ⊢
          by_cases w : nE f (n - pT n f j) (pT n f j) - pT n f j ≤ 6
          · have := nV_in f 6 (n - pT n f j) (pT n f j) 0 (by omega) (by decide) (by decide)
            exact this
          · rw [if_neg w] at h; omega
        · rw [if_neg dg] at h
          obtain ⟨c, hc, ec⟩ := hb _ a
          have := kw_byte hc (by rw [← ec]; exact fun q => q.elim l dg)
          rw [ec, this] at h
          repeat' split at h
          all_goals omega
    · rw [if_neg b] at h; omega
  · rw [if_neg a] at h; omega
/-! names: their bytes -/
theorem bB_shl8 (a : Int64) (j : Nat) : bB (a <<< (Int32.toInt64 8 &&& 63)) j = (decide (8 ≤ j) && (decide (j < 64) && bB a (j - 8))) := by
  rw [bB, Int64.toBitVec_shiftLeft, show (Int32.toInt64 8 &&& 63).toBitVec.smod 64 = 8#64 by decide]
  rw [BitVec.shiftLeft_eq', show (8#64 : BitVec 64).toNat = 8 by decide, BitVec.getLsbD_shiftLeft]
  rw [bB]
  by_cases h : j < 8
  · simp [h]; omega
  · simp [h, Nat.not_lt.mp h]
theorem bB_shrN (a : Int64) {i k : Nat} (hi : i < 8) (hk : k < 8) : bB (a >>> (Int32.toInt64 (nI (8 * i)) &&& 63)) k = bB a (8 * i + k) := by
  have e : ∀ i, i < 8 → (Int32.toInt64 (nI (8 * i)) &&& 63).toBitVec.smod 64 = BitVec.ofNat 64 (8 * i) := by decide
  rw [bB, Int64.toBitVec_shiftRight, e i hi]
  rw [BitVec.sshiftRight_eq', show (BitVec.ofNat 64 (8 * i)).toNat = 8 * i by rw [BitVec.toNat_ofNat]; omega, BitVec.getLsbD_sshiftRight]
  have w : 8 * i + k < 64 := by omega
  have h : ¬ 64 ≤ k := by omega
  simp [h, w, bB]
theorem wB_bits (w : Int64) {i : Nat} (hi : i < 8) : wB w i = 0 ↔ ∀ k, k < 8 → bB w (8 * i + k) = false := by
  rw [bB_zero]
  constructor
  · intro h k hk
    have := h k (by omega)
    rw [wB, bB_and, bB_255, decide_eq_true hk, Bool.and_true, bB_shrN w hi hk] at this
    exact this
  · intro h k _
    rw [wB, bB_and, bB_255]
    by_cases e : k < 8
    · rw [bB_shrN w hi e, h k e]; rfl
    · rw [decide_eq_false e, Bool.and_false]
theorem bB_byte : ∀ b, b < 256 → ∀ k, k < 64 → bB (Int32.toInt64 (nI b)) k = b.testBit k := by decide +kernel
def wOKn (w : Int64) (c : Nat) : Prop := (∀ i, i < c → wB w i ≠ 0) ∧ ∀ i, c ≤ i → i < 8 → wB w i = 0
theorem tb0 {b : Nat} (hb : b < 256) (h : ∀ k, k < 8 → b.testBit k = false) : b = 0 := by
  apply Nat.eq_of_testBit_eq
  intro i
  rw [Nat.zero_testBit]
  by_cases q : i < 8
  · exact h i q
  · exact Nat.testBit_lt_two_pow (Nat.lt_of_lt_of_le hb (Nat.pow_le_pow_right (n := 2) (by decide) (show 8 ≤ i by omega)))
theorem wOK_1 {b : Nat} (hb : b < 256) (h0 : b ≠ 0) : wOKn (Int32.toInt64 (nI b)) 1 := by
  refine ⟨fun i hi q => h0 (tb0 hb (fun k hk => ?_)), fun i h1 h8 => (wB_bits _ h8).mpr (fun k hk => ?_)⟩
  · have : i = 0 := by omega
    subst this
    have := (wB_bits _ (by decide)).mp q k hk
    rw [Nat.mul_zero, Nat.zero_add, bB_byte b hb k (by omega)] at this
    exact this
  · rw [bB_byte b hb _ (by omega)]
    exact Nat.testBit_lt_two_pow (Nat.lt_of_lt_of_le hb (Nat.pow_le_pow_right (n := 2) (by decide) (show 8 ≤ 8 * i + k by omega)))
theorem wOK_s {w : Int64} {c b : Nat} (h : wOKn w c) (hc : c < 8) (hb : b < 256) (h0 : b ≠ 0) : wOKn ((w <<< (Int32.toInt64 8 &&& 63)) ||| Int32.toInt64 (nI b)) (c + 1) := by
  have lo : ∀ k, k < 8 → bB ((w <<< (Int32.toInt64 8 &&& 63)) ||| Int32.toInt64 (nI b)) k = b.testBit k := fun k hk => by
    rw [bB_or, bB_shl8, decide_eq_false (show ¬ 8 ≤ k by omega), Bool.false_and, Bool.false_or, bB_byte b hb k (by omega)]
  have hi : ∀ i k, i < 7 → k < 8 → bB ((w <<< (Int32.toInt64 8 &&& 63)) ||| Int32.toInt64 (nI b)) (8 * (i + 1) + k) = bB w (8 * i + k) := fun i k h1 h2 => by
    rw [bB_or, bB_shl8, decide_eq_true (show 8 ≤ 8 * (i + 1) + k by omega), decide_eq_true (show 8 * (i + 1) + k < 64 by omega), Bool.true_and, Bool.true_and, bB_byte b hb _ (by omega), show 8 * (i + 1) + k - 8 = 8 * i + k by omega,
      Nat.testBit_lt_two_pow (Nat.lt_of_lt_of_le hb (Nat.pow_le_pow_right (n := 2) (by decide) (show 8 ≤ 8 * (i + 1) + k by omega))), Bool.or_false]
  refine ⟨fun i hi' q => ?_, fun i h1 h8 => ?_⟩
  · cases i with
    | zero =>
      refine h0 (tb0 hb (fun k hk => ?_))
      have := (wB_bits _ (by decide)).mp q k hk
      rw [Nat.mul_zero, Nat.zero_add, lo k hk] at this
      exact this
    | succ i =>
      refine h.1 i (by omega) ((wB_bits _ (by omega)).mpr (fun k hk => ?_))
      have := (wB_bits _ (by omega)).mp q k hk
      rw [hi i k (by omega) hk] at this
      exact this
  · cases i with
    | zero => omega
    | succ i =>
      refine (wB_bits _ h8).mpr (fun k hk => ?_)
      rw [hi i k (by omega) hk]
      exact (wB_bits _ (by omega)).mp (h.2 i (by omega) (by omega)) k hk
theorem wV_ok (f : Nat → Int32) : ∀ m i a c, wOKn a c → 1 ≤ c → c ≤ 8 → wE f m i + c ≤ i + 8 → ∃ c', 1 ≤ c' ∧ c' ≤ 8 ∧ wOKn (wV f m i a) c'
  | 0, i, a, c, h, h1, h8, _ => ⟨c, h1, h8, h⟩
  | m + 1, i, a, c, h, h1, h8, he => by
    rw [wV]
    by_cases w : isW (f i)
    · rw [wE, if_pos w] at he
      rw [if_pos w]
      obtain ⟨b, hb, eb, _, _, _, b0⟩ := isW_b w
      have := (wE_le f m (i + 1)).1
      rw [eb]
      exact wV_ok f m (i + 1) _ (c + 1) (wOK_s h (by omega) hb b0) (by omega) (by omega) (by omega)
    · rw [if_neg w]; exact ⟨c, h1, h8, h⟩
/-- names are words of 1 to 8 bytes -/
theorem tK_T {n : Nat} {f : Nat → Int32} (hb : bytes n f) (j : Nat) (h : KT n f j = 24) : wOK (VT n f j) := by
  obtain ⟨a, l, w, e1, e2⟩ := KT_w hb (.inr h)
  obtain ⟨v1, v2⟩ := wV_at f a l
  obtain ⟨b, hb', eb, _, _, _, b0⟩ := isW_b (.inl l)
  rw [e2, v1, eb]
  rw [v2] at w
  have := (wE_le f (n - pT n f j - 1) (pT n f j + 1)).1
  obtain ⟨c', c1, c8, ok⟩ := wV_ok f (n - pT n f j - 1) (pT n f j + 1) _ 1 (wOK_1 hb' b0) (by decide) (by decide) (by omega)
  obtain ⟨c, rfl⟩ : ∃ c, c' = c + 1 := ⟨c' - 1, by omega⟩
  exact ⟨c, by omega, fun i hi => ok.1 i (by omega), fun i h1 h2 => ok.2 i (by omega) h2⟩
/-! a text leaves a debate with good names, and only adds -/
theorem ln_D {D : mDeb} {K : Nat → Nat} {V : Nat → Int64} {t : Nat} {e : gE} (hV : dV D) (hnm : nmD D) (hk : wOK (V (t + 1))) : ext D (ln D K V t e).1 ∧ nmD (ln D K V t e).1 := by
  have h40 := hV.2.1
  have h6 := hV.2.2.2.1
  have add : ∀ (p : Nat) (x kd sp z sr tg : Int32), ext D (aI (aT D p x) (V (t + 1)) kd sp z sr tg) ∧ nmD (aI (aT D p x) (V (t + 1)) kd sp z sr tg) := fun p x kd sp z sr tg =>
    ⟨ext_t (aT_ext D p x) (aI_ext (D := aT D p x) h40 _ _ _ _ _ _), nmD_aI (nmD_aT hnm p x) h40 hk _ _ _ _ _⟩
  have same : ext D D ∧ nmD D := ⟨ext_r D, hnm⟩
  have mv : ∀ kd, ext D (lnM D K V kd t e).1 ∧ nmD (lnM D K V kd t e).1 := fun kd => by
    rw [lnM]
    by_cases z : (eM5 D K V kd t e).1 = 0
    · rw [if_pos z]
      by_cases y : hM' D K V t = true
      · rw [if_pos y]; exact add _ _ _ _ _ _ _
      · rw [if_neg y]; exact ⟨aT_ext D _ _, nmD_aT hnm _ _⟩
    · rw [if_neg z]; exact same
  have kn : ∀ b, ext D (lnK D V b t e).1 ∧ nmD (lnK D V b t e).1 := fun b => by
    rw [lnK]
    by_cases z : (eK2 D V b t e).1 = 0
    · rw [if_pos z]; exact ⟨ext_t (aT_ext D _ _) (aC_ext _ _ _), nmD_aC (nmD_aT hnm _ _) _ _⟩
    · rw [if_neg z]; exact same
  rw [ln]
  by_cases k0 : K t = 0
  · rw [if_pos k0, lnS]
    by_cases z : (eS D K V t e).1 = 0
    · rw [if_pos z]; exact ⟨aS_ext h6 _ _, nmD_aS hnm h6 hk _⟩
    · rw [if_neg z]; exact same
  rw [if_neg k0]
  by_cases k2 : K t = 2
  · rw [if_pos k2, lnC]
    by_cases z : (eC2 D K V t e).1 = 0
    · rw [if_pos z]; exact add _ _ _ _ _ _ _
    · rw [if_neg z]; exact same
  rw [if_neg k2]
  by_cases k5 : K t = 5
  · rw [if_pos k5]; exact mv 1
  rw [if_neg k5]
  by_cases k6 : K t = 6
  · rw [if_pos k6]; exact mv 2
  rw [if_neg k6]
  exact kn _
