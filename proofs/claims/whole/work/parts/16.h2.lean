/-! ===== contracts of loops, by hand: 2, what stands ===== -/
def orA (s : Int64) (f : Nat → Int64) : Nat → Int64
  | 0 => s
  | n + 1 => orA s f n ||| f n
theorem orA_s (s : Int64) (f : Nat → Int64) (n : Nat) : orA s f (n + 1) = orA s f n ||| f n := rfl
theorem bB_orA (s : Int64) (f : Nat → Int64) (k : Nat) : ∀ n, bB (orA s f n) k = true ↔ bB s k = true ∨ ∃ i, i < n ∧ bB (f i) k = true
  | 0 => by simp [orA]
  | n + 1 => by
    rw [orA, bB_or, Bool.or_eq_true, bB_orA s f k n]
    constructor
    · rintro ((h | ⟨i, hi, h⟩) | h)
      · exact .inl h
      · exact .inr ⟨i, by omega, h⟩
      · exact .inr ⟨n, by omega, h⟩
    · rintro (h | ⟨i, hi, h⟩)
      · exact .inl (.inl h)
      · by_cases e : i = n
        · subst e; exact .inr h
        · exact .inl (.inr ⟨i, by omega, h⟩)
def mRw (σ : mS) (j : Nat) (f : Nat → Int32) : mS := (fun c => if c = j then f else σ.1 c, σ.2.1, σ.2.2)
theorem mRw_same {σ : mS} {j : Nat} {f : Nat → Int32} (h : ∀ k, f k = σ.1 j k) : mRw σ j f = σ := by
  have : (fun c => if c = j then f else σ.1 c) = σ.1 := by
    funext c
    by_cases e : c = j
    · subst e; rw [if_pos rfl]; funext k; exact h k
    · rw [if_neg e]
  rw [mRw, this]
theorem nt_skip {s : Int64} {r : Int32} {i : Nat} {f : Nat → Int32} (h : bB s i = false) : (fun k => if k < i ∧ bB s k = true then r else f k) = (fun k => if k < i + 1 ∧ bB s k = true then r else f k) := by
  funext k
  by_cases e : k = i
  · subst e; simp [h]
  · simp [show k < i + 1 ↔ k < i by omega]
theorem mRw_pI (σ : mS) (j i : Nat) (x : Int32) (f : Nat → Int32) : mPI (mRw σ j f) j i x = mRw σ j (fun k => if k = i then x else f k) := by
  simp only [mPI, mRw, Prod.mk.injEq, and_true]
  funext c
  by_cases e : c = j
  · subst e; simp [mU2]
  · simp [mU2, e]
theorem nt_put {σ : mS} {j : Nat} {s : Int64} {r : Int32} {i : Nat} {f : Nat → Int32} (h : bB s i = true) : mPI (mRw σ j (fun k => if k < i ∧ bB s k = true then r else f k)) j i r = mRw σ j (fun k => if k < i + 1 ∧ bB s k = true then r else f k) := by
  rw [mRw_pI]
  congr 1
  funext k
  by_cases e : k = i
  · subst e; simp [h]
  · simp [e, show k < i + 1 ↔ k < i by omega]
theorem L_noteRound_16 {Γ : Nat × (Nat → Int32)} {d n0 bc bs : Nat} {Q : mQ} {σ : mS} {x1 : Int64} {x3 : Int32} : ∀ m i, i + m = 40 → Q (.inl none) 60 mSH (mRw σ 17 (fun k => if k < 40 ∧ bB x1 k = true then x3 else σ.1 17 k)) → mK Γ M_X4_noteRound (d + 2) Q n0 bc bs 3 [(0, .ref 16), (1, .long x1), (3, .int x3), (4, .int (nI i))] [] 60 mSH (mRw σ 17 (fun k => if k < i ∧ bB x1 k = true then x3 else σ.1 17 k))
  | 0, i, hi, hQ => T_X4_noteRound_16_3 _ _ _ ⟨fun _ => by rw [show i = 40 by omega]; exact hQ, fun c => absurd (by rw [i40]; exact nI_le (by omega) (by omega)) c⟩
  | m + 1, i, hi, hQ => by
    have ih := L_noteRound_16 (d := d) (n0 := n0) (bc := bc) (bs := bs) (Γ := Γ) m (i + 1) (by omega) hQ
    refine T_X4_noteRound_16_3 _ _ _ ⟨fun c => absurd c (by rw [i40]; exact nI_ge (by omega) (by omega)), fun _ => ⟨fun c => ?_, fun c => ⟨vp_in_nI (by omega) (by omega), ?_⟩⟩⟩
    · rw [bB_isSet _ _ (by omega)] at c
      rw [nI_1, nt_skip c]
      exact ih
    · rw [bB_isSet _ _ (by omega), Bool.not_eq_false] at c
      rw [nI_1, nI_clamp (by omega), nt_put c]
      exact ih
theorem S_noteRound_16 {Γ : Nat × (Nat → Int32)} {d : Nat} {Q : mQ} {σ : mS} (a1 : Int64) (a2 : Int32) (hQ : Q (.inl none) 60 mSH (mRw σ 17 (fun k => if k < 40 ∧ bB a1 k = true then a2 else σ.1 17 k))) : mCall Γ M_X4_noteRound (d + 2) 0 0 [.ref 16, .long a1, .int a2] 60 mSH σ Q :=
  E_X4_noteRound_16 a1 a2 (by
    have h := L_noteRound_16 (d := d) (n0 := 60) (bc := 0) (bs := 0) (Γ := Γ) (σ := σ) (x1 := a1) (x3 := a2) 40 0 rfl hQ
    rw [mRw_same (fun k => by simp)] at h
    exact h)
def fmH_16 (σ : mS) (i : Nat) : Int64 := if f_X0_isStrongAttack_5 σ (nI i) = 0 then 0 else if f_X4_isIn_16 σ (nI i) = 0 then 0 else f_X7_bit σ (f_X0_targetOf_5 σ (nI i))
def fmT_16 (σ : mS) (i : Nat) : Int64 := if f_X0_isStrongAttack_5 σ (nI i) = 0 then 0 else if f_X4_isOut_16 σ (nI i) = 0 then f_X7_bit σ (f_X0_targetOf_5 σ (nI i)) else 0
def fmO_16 (σ : mS) (i : Nat) : Int64 := if f_X0_sourceOf_5 σ (nI i) = -1 then 0 else if f_X4_isOut_16 σ (f_X0_sourceOf_5 σ (nI i)) = 0 then 0 else f_X7_bit σ (nI i)
def fmN_16 (σ : mS) (i : Nat) : Int64 := if f_X0_sourceOf_5 σ (nI i) = -1 then 0 else if f_X4_isIn_16 σ (f_X0_sourceOf_5 σ (nI i)) = 0 then f_X7_bit σ (nI i) else 0
theorem L_findMore_16 {Γ : Nat × (Nat → Int32)} {d n0 bc bs : Nat} {Q : mQ} {σ : mS} {x1 : Int32} {s : Int64} {n : Nat} (hn : n ≤ 40) (he : σ.1 5 10 = nI n)
    (hX : mK Γ M_X4_findMore (d + 4) Q n0 bc bs 15 [(0, .ref 16), (1, .int x1), (4, .long (orA s (fmH_16 σ) n)), (6, .long (orA 0 (fmT_16 σ) n)), (8, .long (orA 0 (fmO_16 σ) n)), (10, .long (orA 0 (fmN_16 σ) n)), (12, .int (nI n))] [] 60 mSH σ) :
    ∀ m i, i + m = n → mK Γ M_X4_findMore (d + 4) Q n0 bc bs 15 [(0, .ref 16), (1, .int x1), (4, .long (orA s (fmH_16 σ) i)), (6, .long (orA 0 (fmT_16 σ) i)), (8, .long (orA 0 (fmO_16 σ) i)), (10, .long (orA 0 (fmN_16 σ) i)), (12, .int (nI i))] [] 60 mSH σ
  | 0, i, hi => by rw [show i = n by omega]; exact hX
  | m + 1, i, hi => by
    have ih := L_findMore_16 hn he hX m (i + 1) (by omega)
    have h93 : mK Γ M_X4_findMore (d + 4) Q n0 bc bs 93 [(0, .ref 16), (1, .int x1), (4, .long (orA s (fmH_16 σ) (i + 1))), (6, .long (orA 0 (fmT_16 σ) (i + 1))), (8, .long (orA 0 (fmO_16 σ) i)), (10, .long (orA 0 (fmN_16 σ) i)), (12, .int (nI i))] [] 60 mSH σ := by
      rw [orA_s 0 (fmO_16 σ), orA_s 0 (fmN_16 σ)] at ih
      generalize orA s (fmH_16 σ) (i + 1) = u1 at ih ⊢
      generalize orA 0 (fmT_16 σ) (i + 1) = u2 at ih ⊢
      refine T_X4_findMore_16_93 _ _ _ _ _ _ ⟨fun c4 => ?_, fun c4 => ⟨fun c5 => ⟨fun c6 => ?_, fun c6 => ?_⟩, fun c5 => ⟨fun c6 => ?_, fun c6 => ?_⟩⟩⟩
      · simp only [fmO_16, fmN_16, c4, if_true, Int64.or_zero] at ih
        rw [nI_1]; exact ih
      all_goals
        simp only [fmO_16, fmN_16, c4, c5, c6, if_true, if_false, Int64.or_zero] at ih ⊢
        rw [nI_1]; exact ih
    rw [orA_s s (fmH_16 σ), orA_s 0 (fmT_16 σ)] at h93
    refine T_X4_findMore_16_15 _ _ _ _ _ _ ⟨fun c => absurd c (by rw [show f_X0_items_5 σ = nI n from he]; exact nI_ge (by omega) (by omega)), fun _ => ⟨fun c1 => ?_, fun c1 => ⟨fun c2 => ⟨fun c3 => ?_, fun c3 => ?_⟩, fun c2 => ⟨fun c3 => ?_, fun c3 => ?_⟩⟩⟩⟩
    · simp only [fmH_16, fmT_16, c1, if_true, Int64.or_zero] at h93
      exact h93
    all_goals
      simp only [fmH_16, fmT_16, c1, c2, c3, if_true, if_false, Int64.or_zero] at h93 ⊢
      exact h93
theorem L_noteRound_18 {Γ : Nat × (Nat → Int32)} {d n0 bc bs : Nat} {Q : mQ} {σ : mS} {x1 : Int64} {x3 : Int32} : ∀ m i, i + m = 40 → Q (.inl none) 60 mSH (mRw σ 19 (fun k => if k < 40 ∧ bB x1 k = true then x3 else σ.1 19 k)) → mK Γ M_X4_noteRound (d + 2) Q n0 bc bs 3 [(0, .ref 18), (1, .long x1), (3, .int x3), (4, .int (nI i))] [] 60 mSH (mRw σ 19 (fun k => if k < i ∧ bB x1 k = true then x3 else σ.1 19 k))
  | 0, i, hi, hQ => T_X4_noteRound_18_3 _ _ _ ⟨fun _ => by rw [show i = 40 by omega]; exact hQ, fun c => absurd (by rw [i40]; exact nI_le (by omega) (by omega)) c⟩
  | m + 1, i, hi, hQ => by
    have ih := L_noteRound_18 (d := d) (n0 := n0) (bc := bc) (bs := bs) (Γ := Γ) m (i + 1) (by omega) hQ
    refine T_X4_noteRound_18_3 _ _ _ ⟨fun c => absurd c (by rw [i40]; exact nI_ge (by omega) (by omega)), fun _ => ⟨fun c => ?_, fun c => ⟨vp_in_nI (by omega) (by omega), ?_⟩⟩⟩
    · rw [bB_isSet _ _ (by omega)] at c
      rw [nI_1, nt_skip c]
      exact ih
    · rw [bB_isSet _ _ (by omega), Bool.not_eq_false] at c
      rw [nI_1, nI_clamp (by omega), nt_put c]
      exact ih
theorem S_noteRound_18 {Γ : Nat × (Nat → Int32)} {d : Nat} {Q : mQ} {σ : mS} (a1 : Int64) (a2 : Int32) (hQ : Q (.inl none) 60 mSH (mRw σ 19 (fun k => if k < 40 ∧ bB a1 k = true then a2 else σ.1 19 k))) : mCall Γ M_X4_noteRound (d + 2) 0 0 [.ref 18, .long a1, .int a2] 60 mSH σ Q :=
  E_X4_noteRound_18 a1 a2 (by
    have h := L_noteRound_18 (d := d) (n0 := 60) (bc := 0) (bs := 0) (Γ := Γ) (σ := σ) (x1 := a1) (x3 := a2) 40 0 rfl hQ
    rw [mRw_same (fun k => by simp)] at h
    exact h)
def fmH_18 (σ : mS) (i : Nat) : Int64 := if f_X0_isStrongAttack_5 σ (nI i) = 0 then 0 else if f_X4_isIn_18 σ (nI i) = 0 then 0 else f_X7_bit σ (f_X0_targetOf_5 σ (nI i))
def fmT_18 (σ : mS) (i : Nat) : Int64 := if f_X0_isStrongAttack_5 σ (nI i) = 0 then 0 else if f_X4_isOut_18 σ (nI i) = 0 then f_X7_bit σ (f_X0_targetOf_5 σ (nI i)) else 0
def fmO_18 (σ : mS) (i : Nat) : Int64 := if f_X0_sourceOf_5 σ (nI i) = -1 then 0 else if f_X4_isOut_18 σ (f_X0_sourceOf_5 σ (nI i)) = 0 then 0 else f_X7_bit σ (nI i)
def fmN_18 (σ : mS) (i : Nat) : Int64 := if f_X0_sourceOf_5 σ (nI i) = -1 then 0 else if f_X4_isIn_18 σ (f_X0_sourceOf_5 σ (nI i)) = 0 then f_X7_bit σ (nI i) else 0
theorem L_findMore_18 {Γ : Nat × (Nat → Int32)} {d n0 bc bs : Nat} {Q : mQ} {σ : mS} {x1 : Int32} {s : Int64} {n : Nat} (hn : n ≤ 40) (he : σ.1 5 10 = nI n)
    (hX : mK Γ M_X4_findMore (d + 4) Q n0 bc bs 15 [(0, .ref 18), (1, .int x1), (4, .long (orA s (fmH_18 σ) n)), (6, .long (orA 0 (fmT_18 σ) n)), (8, .long (orA 0 (fmO_18 σ) n)), (10, .long (orA 0 (fmN_18 σ) n)), (12, .int (nI n))] [] 60 mSH σ) :
    ∀ m i, i + m = n → mK Γ M_X4_findMore (d + 4) Q n0 bc bs 15 [(0, .ref 18), (1, .int x1), (4, .long (orA s (fmH_18 σ) i)), (6, .long (orA 0 (fmT_18 σ) i)), (8, .long (orA 0 (fmO_18 σ) i)), (10, .long (orA 0 (fmN_18 σ) i)), (12, .int (nI i))] [] 60 mSH σ
  | 0, i, hi => by rw [show i = n by omega]; exact hX
  | m + 1, i, hi => by
    have ih := L_findMore_18 hn he hX m (i + 1) (by omega)
    have h93 : mK Γ M_X4_findMore (d + 4) Q n0 bc bs 93 [(0, .ref 18), (1, .int x1), (4, .long (orA s (fmH_18 σ) (i + 1))), (6, .long (orA 0 (fmT_18 σ) (i + 1))), (8, .long (orA 0 (fmO_18 σ) i)), (10, .long (orA 0 (fmN_18 σ) i)), (12, .int (nI i))] [] 60 mSH σ := by
      rw [orA_s 0 (fmO_18 σ), orA_s 0 (fmN_18 σ)] at ih
      generalize orA s (fmH_18 σ) (i + 1) = u1 at ih ⊢
      generalize orA 0 (fmT_18 σ) (i + 1) = u2 at ih ⊢
      refine T_X4_findMore_18_93 _ _ _ _ _ _ ⟨fun c4 => ?_, fun c4 => ⟨fun c5 => ⟨fun c6 => ?_, fun c6 => ?_⟩, fun c5 => ⟨fun c6 => ?_, fun c6 => ?_⟩⟩⟩
      · simp only [fmO_18, fmN_18, c4, if_true, Int64.or_zero] at ih
        rw [nI_1]; exact ih
      all_goals
        simp only [fmO_18, fmN_18, c4, c5, c6, if_true, if_false, Int64.or_zero] at ih ⊢
        rw [nI_1]; exact ih
    rw [orA_s s (fmH_18 σ), orA_s 0 (fmT_18 σ)] at h93
    refine T_X4_findMore_18_15 _ _ _ _ _ _ ⟨fun c => absurd c (by rw [show f_X0_items_5 σ = nI n from he]; exact nI_ge (by omega) (by omega)), fun _ => ⟨fun c1 => ?_, fun c1 => ⟨fun c2 => ⟨fun c3 => ?_, fun c3 => ?_⟩, fun c2 => ⟨fun c3 => ?_, fun c3 => ?_⟩⟩⟩⟩
    · simp only [fmH_18, fmT_18, c1, if_true, Int64.or_zero] at h93
      exact h93
    all_goals
      simp only [fmH_18, fmT_18, c1, c2, c3, if_true, if_false, Int64.or_zero] at h93 ⊢
      exact h93

