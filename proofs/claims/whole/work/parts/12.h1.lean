/-! ===== contracts of loops, by hand: 1 ===== -/
def mFind (f : Nat → Int64) (x : Int64) : Nat → Nat → Int32
  | _, 0 => -1
  | i, m + 1 => if f i = x then nI i else mFind f x (i + 1) m
def cnt (x : Int32) (b : Nat) : Prop := ∃ n, n ≤ b ∧ x = nI n
theorem cnt_n {x : Int32} {b : Nat} (hb : b ≤ 4096) (h : cnt x b) : x = nI x.toNatClampNeg ∧ x.toNatClampNeg ≤ b := by
  obtain ⟨n, hn, rfl⟩ := h
  rw [nI_clamp (by omega)]
  exact ⟨rfl, hn⟩
def mSetP (p : Nat → Bool) : Nat → Int64
  | 0 => 0
  | n + 1 => mSetP p n ||| (if p n then f_X7_bit (fun _ _ => 0, fun _ _ => 0, fun _ _ => none) (nI n) else 0)
theorem mSetP_s (p : Nat → Bool) (n : Nat) (σ : mS) : mSetP p (n + 1) = mSetP p n ||| (if p n then f_X7_bit σ (nI n) else 0) := rfl
def mCnt (p : Nat → Bool) : Nat → Nat
  | 0 => 0
  | n + 1 => mCnt p n + (if p n then 1 else 0)
theorem i40 : (40 : Int32) = nI 40 := by decide
theorem i6 : (6 : Int32) = nI 6 := by decide
theorem i0 : (0 : Int32) = nI 0 := by decide
theorem L_X0_findItem {Γ : Nat × (Nat → Int32)} {d n0 bc bs : Nat} {Q : mQ} {σ : mS} {x1 : Int64} {n : Nat} (hn : n ≤ 40) (he : σ.1 5 10 = nI n) : ∀ m i, i + m = n → Q (.inl (some (.int (mFind (σ.2.1 8) x1 i m)))) 60 mSH σ → mK Γ M_X0_findItem (d + 1) Q n0 bc bs 2 [(0, .ref 5), (1, .long x1), (3, .int (nI i))] [] 60 mSH σ
  | 0, i, hi, hQ => T_X0_findItem_5_2 _ _ ⟨fun _ => hQ, fun c => absurd (by rw [he]; exact nI_le (by omega) (by omega)) c⟩
  | m + 1, i, hi, hQ => by
    refine T_X0_findItem_5_2 _ _ ⟨fun c => absurd c (by rw [he]; exact nI_ge (by omega) (by omega)), fun _ => ⟨fun c => absurd c (by rw [i40]; exact nI_ge (by omega) (by omega)), fun _ => ⟨vp_in_nI (by omega) (by omega), fun c => ?_, fun c => ?_⟩⟩⟩
    · rw [nI_clamp (by omega)] at c
      rw [mFind, if_pos c] at hQ
      exact hQ
    · rw [nI_clamp (by omega)] at c
      rw [mFind, if_neg c] at hQ
      rw [nI_1]
      exact L_X0_findItem hn he m (i + 1) (by omega) hQ
theorem S_X0_findItem {Γ : Nat × (Nat → Int32)} {d : Nat} {Q : mQ} {σ : mS} (a1 : Int64) (hs : cnt (σ.1 5 10) 40) (hQ : Q (.inl (some (.int (mFind (σ.2.1 8) a1 0 (σ.1 5 10).toNatClampNeg)))) 60 mSH σ) : mCall Γ M_X0_findItem (d + 1) 0 0 [.ref 5, .long a1] 60 mSH σ Q :=
  E_X0_findItem_5 a1 (L_X0_findItem (cnt_n (by omega) hs).2 (cnt_n (by omega) hs).1 _ 0 (Nat.zero_add _) hQ)
theorem L_X0_findSpeaker {Γ : Nat × (Nat → Int32)} {d n0 bc bs : Nat} {Q : mQ} {σ : mS} {x1 : Int64} {n : Nat} (hn : n ≤ 6) (he : σ.1 5 2 = nI n) : ∀ m i, i + m = n → Q (.inl (some (.int (mFind (σ.2.1 6) x1 i m)))) 60 mSH σ → mK Γ M_X0_findSpeaker (d + 1) Q n0 bc bs 2 [(0, .ref 5), (1, .long x1), (3, .int (nI i))] [] 60 mSH σ
  | 0, i, hi, hQ => T_X0_findSpeaker_5_2 _ _ ⟨fun _ => hQ, fun c => absurd (by rw [he]; exact nI_le (by omega) (by omega)) c⟩
  | m + 1, i, hi, hQ => by
    refine T_X0_findSpeaker_5_2 _ _ ⟨fun c => absurd c (by rw [he]; exact nI_ge (by omega) (by omega)), fun _ => ⟨fun c => absurd c (by rw [i6]; exact nI_ge (by omega) (by omega)), fun _ => ⟨vp_in_nI (by omega) (by omega), fun c => ?_, fun c => ?_⟩⟩⟩
    · rw [nI_clamp (by omega)] at c
      rw [mFind, if_pos c] at hQ
      exact hQ
    · rw [nI_clamp (by omega)] at c
      rw [mFind, if_neg c] at hQ
      rw [nI_1]
      exact L_X0_findSpeaker hn he m (i + 1) (by omega) hQ
theorem S_X0_findSpeaker {Γ : Nat × (Nat → Int32)} {d : Nat} {Q : mQ} {σ : mS} (a1 : Int64) (hs : cnt (σ.1 5 2) 6) (hQ : Q (.inl (some (.int (mFind (σ.2.1 6) a1 0 (σ.1 5 2).toNatClampNeg)))) 60 mSH σ) : mCall Γ M_X0_findSpeaker (d + 1) 0 0 [.ref 5, .long a1] 60 mSH σ Q :=
  E_X0_findSpeaker_5 a1 (L_X0_findSpeaker (cnt_n (by omega) hs).2 (cnt_n (by omega) hs).1 _ 0 (Nat.zero_add _) hQ)
theorem L_X8_itemOf {Γ : Nat × (Nat → Int32)} {d n0 bc bs : Nat} {Q : mQ} {σ : mS} {x1 : Int64} {n : Nat} (hn : n ≤ 40) (he : σ.1 32 3 = nI n) : ∀ m i, i + m = n → Q (.inl (some (.int (mFind (σ.2.1 35) x1 i m)))) 60 mSH σ → mK Γ M_X8_itemOf (d + 1) Q n0 bc bs 2 [(0, .ref 32), (1, .long x1), (3, .int (nI i))] [] 60 mSH σ
  | 0, i, hi, hQ => T_X8_itemOf_32_2 _ _ ⟨fun _ => hQ, fun c => absurd (by rw [he]; exact nI_le (by omega) (by omega)) c⟩
  | m + 1, i, hi, hQ => by
    refine T_X8_itemOf_32_2 _ _ ⟨fun c => absurd c (by rw [he]; exact nI_ge (by omega) (by omega)), fun _ => ⟨vp_in_nI (by omega) (by omega), fun c => ?_, fun c => ?_⟩⟩
    · rw [nI_clamp (by omega)] at c
      rw [mFind, if_pos c] at hQ
      exact hQ
    · rw [nI_clamp (by omega)] at c
      rw [mFind, if_neg c] at hQ
      rw [nI_1]
      exact L_X8_itemOf hn he m (i + 1) (by omega) hQ
theorem S_X8_itemOf {Γ : Nat × (Nat → Int32)} {d : Nat} {Q : mQ} {σ : mS} (a1 : Int64) (hs : cnt (σ.1 32 3) 40) (hQ : Q (.inl (some (.int (mFind (σ.2.1 35) a1 0 (σ.1 32 3).toNatClampNeg)))) 60 mSH σ) : mCall Γ M_X8_itemOf (d + 1) 0 0 [.ref 32, .long a1] 60 mSH σ Q :=
  E_X8_itemOf_32 a1 (L_X8_itemOf (cnt_n (by omega) hs).2 (cnt_n (by omega) hs).1 _ 0 (Nat.zero_add _) hQ)
theorem L_X8_speakerOf {Γ : Nat × (Nat → Int32)} {d n0 bc bs : Nat} {Q : mQ} {σ : mS} {x1 : Int64} {n : Nat} (hn : n ≤ 6) (he : σ.1 32 0 = nI n) : ∀ m i, i + m = n → Q (.inl (some (.int (mFind (σ.2.1 33) x1 i m)))) 60 mSH σ → mK Γ M_X8_speakerOf (d + 1) Q n0 bc bs 2 [(0, .ref 32), (1, .long x1), (3, .int (nI i))] [] 60 mSH σ
  | 0, i, hi, hQ => T_X8_speakerOf_32_2 _ _ ⟨fun _ => hQ, fun c => absurd (by rw [he]; exact nI_le (by omega) (by omega)) c⟩
  | m + 1, i, hi, hQ => by
    refine T_X8_speakerOf_32_2 _ _ ⟨fun c => absurd c (by rw [he]; exact nI_ge (by omega) (by omega)), fun _ => ⟨vp_in_nI (by omega) (by omega), fun c => ?_, fun c => ?_⟩⟩
    · rw [nI_clamp (by omega)] at c
      rw [mFind, if_pos c] at hQ
      exact hQ
    · rw [nI_clamp (by omega)] at c
      rw [mFind, if_neg c] at hQ
      rw [nI_1]
      exact L_X8_speakerOf hn he m (i + 1) (by omega) hQ
theorem S_X8_speakerOf {Γ : Nat × (Nat → Int32)} {d : Nat} {Q : mQ} {σ : mS} (a1 : Int64) (hs : cnt (σ.1 32 0) 6) (hQ : Q (.inl (some (.int (mFind (σ.2.1 33) a1 0 (σ.1 32 0).toNatClampNeg)))) 60 mSH σ) : mCall Γ M_X8_speakerOf (d + 1) 0 0 [.ref 32, .long a1] 60 mSH σ Q :=
  E_X8_speakerOf_32 a1 (L_X8_speakerOf (cnt_n (by omega) hs).2 (cnt_n (by omega) hs).1 _ 0 (Nat.zero_add _) hQ)
theorem mFold_lor {x3 b : Int64} : x3 ||| (if False then b else 0) = x3 ||| 0 := by simp
theorem L_X0_itemsWith_9 {Γ : Nat × (Nat → Int32)} {d n0 bc bs : Nat} {Q : mQ} {σ : mS} {x2 : Int32} {n : Nat} (hn : n ≤ 40) (he : σ.1 5 10 = nI n) : ∀ m i, i + m = n → Q (.inl (some (.long (mSetP (fun k => decide (σ.1 9 k = x2)) n)))) 60 mSH σ → mK Γ M_X0_itemsWith (d + 2) Q n0 bc bs 5 [(0, .ref 5), (1, .ref 9), (2, .int x2), (3, .long (mSetP (fun k => decide (σ.1 9 k = x2)) i)), (5, .int (nI i))] [] 60 mSH σ
  | 0, i, hi, hQ => T_X0_itemsWith_5_9_5 _ _ _ ⟨fun _ => by rw [show i = n by omega]; exact hQ, fun c => absurd (by rw [he]; exact nI_le (by omega) (by omega)) c⟩
  | m + 1, i, hi, hQ => by
    have ih := L_X0_itemsWith_9 (d := d) (n0 := n0) (bc := bc) (bs := bs) (Γ := Γ) hn he m (i + 1) (by omega) hQ
    rw [mSetP_s _ _ σ, ← nI_1] at ih
    refine T_X0_itemsWith_5_9_5 _ _ _ ⟨fun c => absurd c (by rw [he]; exact nI_ge (by omega) (by omega)), fun _ => ⟨fun c => absurd c (by rw [i40]; exact nI_ge (by omega) (by omega)), fun _ => ⟨vp_in_nI (by omega) (by omega), fun c => ?_, fun c => ?_⟩⟩⟩
    · rw [nI_clamp (by omega)] at c
      simp only [c, decide_true, if_true] at ih
      exact ih
    · rw [nI_clamp (by omega)] at c
      simp only [c, decide_false, Bool.false_eq_true, if_false] at ih
      exact ih
theorem S_X0_itemsWith_9 {Γ : Nat × (Nat → Int32)} {d : Nat} {Q : mQ} {σ : mS} (a2 : Int32) (hs : cnt (σ.1 5 10) 40) (hQ : Q (.inl (some (.long (mSetP (fun k => decide (σ.1 9 k = a2)) (σ.1 5 10).toNatClampNeg)))) 60 mSH σ) : mCall Γ M_X0_itemsWith (d + 2) 0 0 [.ref 5, .ref 9, .int a2] 60 mSH σ Q :=
  E_X0_itemsWith_5_9 a2 (L_X0_itemsWith_9 (cnt_n (by omega) hs).2 (cnt_n (by omega) hs).1 _ 0 (Nat.zero_add _) hQ)
theorem L_X0_itemsWith_10 {Γ : Nat × (Nat → Int32)} {d n0 bc bs : Nat} {Q : mQ} {σ : mS} {x2 : Int32} {n : Nat} (hn : n ≤ 40) (he : σ.1 5 10 = nI n) : ∀ m i, i + m = n → Q (.inl (some (.long (mSetP (fun k => decide (σ.1 10 k = x2)) n)))) 60 mSH σ → mK Γ M_X0_itemsWith (d + 2) Q n0 bc bs 5 [(0, .ref 5), (1, .ref 10), (2, .int x2), (3, .long (mSetP (fun k => decide (σ.1 10 k = x2)) i)), (5, .int (nI i))] [] 60 mSH σ
  | 0, i, hi, hQ => T_X0_itemsWith_5_10_5 _ _ _ ⟨fun _ => by rw [show i = n by omega]; exact hQ, fun c => absurd (by rw [he]; exact nI_le (by omega) (by omega)) c⟩
  | m + 1, i, hi, hQ => by
    have ih := L_X0_itemsWith_10 (d := d) (n0 := n0) (bc := bc) (bs := bs) (Γ := Γ) hn he m (i + 1) (by omega) hQ
    rw [mSetP_s _ _ σ, ← nI_1] at ih
    refine T_X0_itemsWith_5_10_5 _ _ _ ⟨fun c => absurd c (by rw [he]; exact nI_ge (by omega) (by omega)), fun _ => ⟨fun c => absurd c (by rw [i40]; exact nI_ge (by omega) (by omega)), fun _ => ⟨vp_in_nI (by omega) (by omega), fun c => ?_, fun c => ?_⟩⟩⟩
    · rw [nI_clamp (by omega)] at c
      simp only [c, decide_true, if_true] at ih
      exact ih
    · rw [nI_clamp (by omega)] at c
      simp only [c, decide_false, Bool.false_eq_true, if_false] at ih
      exact ih
theorem S_X0_itemsWith_10 {Γ : Nat × (Nat → Int32)} {d : Nat} {Q : mQ} {σ : mS} (a2 : Int32) (hs : cnt (σ.1 5 10) 40) (hQ : Q (.inl (some (.long (mSetP (fun k => decide (σ.1 10 k = a2)) (σ.1 5 10).toNatClampNeg)))) 60 mSH σ) : mCall Γ M_X0_itemsWith (d + 2) 0 0 [.ref 5, .ref 10, .int a2] 60 mSH σ Q :=
  E_X0_itemsWith_5_10 a2 (L_X0_itemsWith_10 (cnt_n (by omega) hs).2 (cnt_n (by omega) hs).1 _ 0 (Nat.zero_add _) hQ)
theorem L_X0_itemsWith_13 {Γ : Nat × (Nat → Int32)} {d n0 bc bs : Nat} {Q : mQ} {σ : mS} {x2 : Int32} {n : Nat} (hn : n ≤ 40) (he : σ.1 5 10 = nI n) : ∀ m i, i + m = n → Q (.inl (some (.long (mSetP (fun k => decide (σ.1 13 k = x2)) n)))) 60 mSH σ → mK Γ M_X0_itemsWith (d + 2) Q n0 bc bs 5 [(0, .ref 5), (1, .ref 13), (2, .int x2), (3, .long (mSetP (fun k => decide (σ.1 13 k = x2)) i)), (5, .int (nI i))] [] 60 mSH σ
  | 0, i, hi, hQ => T_X0_itemsWith_5_13_5 _ _ _ ⟨fun _ => by rw [show i = n by omega]; exact hQ, fun c => absurd (by rw [he]; exact nI_le (by omega) (by omega)) c⟩
  | m + 1, i, hi, hQ => by
    have ih := L_X0_itemsWith_13 (d := d) (n0 := n0) (bc := bc) (bs := bs) (Γ := Γ) hn he m (i + 1) (by omega) hQ
    rw [mSetP_s _ _ σ, ← nI_1] at ih
    refine T_X0_itemsWith_5_13_5 _ _ _ ⟨fun c => absurd c (by rw [he]; exact nI_ge (by omega) (by omega)), fun _ => ⟨fun c => absurd c (by rw [i40]; exact nI_ge (by omega) (by omega)), fun _ => ⟨vp_in_nI (by omega) (by omega), fun c => ?_, fun c => ?_⟩⟩⟩
    · rw [nI_clamp (by omega)] at c
      simp only [c, decide_true, if_true] at ih
      exact ih
    · rw [nI_clamp (by omega)] at c
      simp only [c, decide_false, Bool.false_eq_true, if_false] at ih
      exact ih
theorem S_X0_itemsWith_13 {Γ : Nat × (Nat → Int32)} {d : Nat} {Q : mQ} {σ : mS} (a2 : Int32) (hs : cnt (σ.1 5 10) 40) (hQ : Q (.inl (some (.long (mSetP (fun k => decide (σ.1 13 k = a2)) (σ.1 5 10).toNatClampNeg)))) 60 mSH σ) : mCall Γ M_X0_itemsWith (d + 2) 0 0 [.ref 5, .ref 13, .int a2] 60 mSH σ Q :=
  E_X0_itemsWith_5_13 a2 (L_X0_itemsWith_13 (cnt_n (by omega) hs).2 (cnt_n (by omega) hs).1 _ 0 (Nat.zero_add _) hQ)

theorem L_X0_itemsWithin {Γ : Nat × (Nat → Int32)} {d n0 bc bs : Nat} {Q : mQ} {σ : mS} {x1 : Int32} {n : Nat} (hn : n ≤ 40) (he : σ.1 5 10 = nI n) : ∀ m i, i + m = n → Q (.inl (some (.long (mSetP (fun k => decide (f_X0_leastForceOn_5 σ (nI k) ≤ x1)) n)))) 60 mSH σ → mK Γ M_X0_itemsWithin (d + 4) Q n0 bc bs 5 [(0, .ref 5), (1, .int x1), (2, .long (mSetP (fun k => decide (f_X0_leastForceOn_5 σ (nI k) ≤ x1)) i)), (4, .int (nI i))] [] 60 mSH σ
  | 0, i, hi, hQ => T_X0_itemsWithin_5_5 _ _ _ ⟨fun _ => by rw [show i = n by omega]; exact hQ, fun c => absurd (by rw [he]; exact nI_le (by omega) (by omega)) c⟩
  | m + 1, i, hi, hQ => by
    have ih := L_X0_itemsWithin (d := d) (n0 := n0) (bc := bc) (bs := bs) (Γ := Γ) hn he m (i + 1) (by omega) hQ
    rw [mSetP_s _ _ σ, ← nI_1] at ih
    refine T_X0_itemsWithin_5_5 _ _ _ ⟨fun c => absurd c (by rw [he]; exact nI_ge (by omega) (by omega)), fun _ => ⟨fun c => ?_, fun c => ?_⟩⟩
    · have h9 : ¬ f_X0_leastForceOn_5 σ (nI i) ≤ x1 := Int32.not_le.mpr c
      simp only [h9, decide_false, Bool.false_eq_true, if_false] at ih
      exact ih
    · have h9 : f_X0_leastForceOn_5 σ (nI i) ≤ x1 := Int32.not_lt.mp c
      simp only [h9, decide_true, if_true] at ih
      exact ih
theorem S_X0_itemsWithin {Γ : Nat × (Nat → Int32)} {d : Nat} {Q : mQ} {σ : mS} (a1 : Int32) (hs : cnt (σ.1 5 10) 40) (hQ : Q (.inl (some (.long (mSetP (fun k => decide (f_X0_leastForceOn_5 σ (nI k) ≤ a1)) (σ.1 5 10).toNatClampNeg)))) 60 mSH σ) : mCall Γ M_X0_itemsWithin (d + 4) 0 0 [.ref 5, .int a1] 60 mSH σ Q :=
  E_X0_itemsWithin_5 a1 (L_X0_itemsWithin (cnt_n (by omega) hs).2 (cnt_n (by omega) hs).1 _ 0 (Nat.zero_add _) hQ)
