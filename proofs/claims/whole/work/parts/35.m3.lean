/-! ===== the model's leads, its leader ===== -/
def ldM (D : mDeb) (co : Nat → Bool) (b : Nat → Int32) (p : Nat) : Nat → Int32
  | 0 => -2147483648
  | k + 1 => if k = p then ldM D co b p k else if ldM D co b p k < dScore D co b k then dScore D co b k else ldM D co b p k
theorem ldM_s (D : mDeb) (co : Nat → Bool) (b : Nat → Int32) (p k : Nat) : ldM D co b p (k + 1) = if k = p then ldM D co b p k else if ldM D co b p k < dScore D co b k then dScore D co b k else ldM D co b p k := rfl
theorem i32_min (x : Int32) (h : ¬ (-2147483648 : Int32) < x) : x = -2147483648 := by
  have h1 := Int32.not_lt.mp h
  have h2 := Int32.le_iff_toInt_le.mp h1
  have h3 := Int32.minValue_le_toInt x
  apply Int32.toInt_inj.mp
  have e : (-2147483648 : Int32).toInt = -2147483648 := by decide
  have e2 : Int32.minValue.toInt = -2147483648 := by decide
  omega
theorem ldM_G (D : mDeb) (co : Nat → Bool) (b : Nat → Int32) (p : Nat) : ∀ k, ((ldG D co b p k).1 = true → ldM D co b p k = -2147483648) ∧ ((ldG D co b p k).1 = false → ldM D co b p k = (ldG D co b p k).2)
  | 0 => ⟨fun _ => rfl, fun c => by cases c⟩
  | k + 1 => by
    have ih := ldM_G D co b p k
    rw [ldM_s, ldG_s]
    by_cases e : k = p
    · rw [if_pos e, if_pos e]; exact ih
    · rw [if_neg e, if_neg e]
      refine ⟨fun c => (by cases c), fun _ => ?_⟩
      cases g : (ldG D co b p k).1
      · rw [ih.2 g]
        simp only [Bool.false_eq_true, if_false]
        by_cases c : dScore D co b k ≤ (ldG D co b p k).2
        · rw [if_pos c, if_neg (Int32.not_lt.mpr c)]
        · rw [if_neg c, if_pos (Int32.not_le.mp c)]
      · rw [ih.1 g]
        simp only [if_true]
        by_cases c : (-2147483648 : Int32) < dScore D co b k
        · rw [if_pos c]
        · rw [if_neg c]; exact (i32_min _ c).symm
theorem ldG_al (D : mDeb) (co : Nat → Bool) (b : Nat → Int32) (p : Nat) : ∀ k, (ldG D co b p k).1 = true → k ≤ 1 ∧ (ldG D co b p k).2 = 0 ∧ (k = 1 → p = 0)
  | 0, _ => ⟨by omega, rfl, by omega⟩
  | k + 1, h => by
    rw [ldG_s] at h ⊢
    by_cases e : k = p
    · rw [if_pos e] at h ⊢
      have ih := ldG_al D co b p k h
      by_cases z : k = 0
      · exact ⟨by omega, ih.2.1, by omega⟩
      · have := ih.2.2 (by omega); omega
    · rw [if_neg e] at h; cases h
theorem L_lead_52 {Γ : Nat × (Nat → Int32)} {d n0 bc bs : Nat} {Q : mQ} {σ : mS} {p : Nat} {own : Int32} (h : sV σ) : ∀ m i, i + m = ds (DM σ) → Q (.inl (some (.int (own - ldM (DM σ) (coM σ) (σ.1 52) p (ds (DM σ)))))) 60 mSH σ → p < ds (DM σ) →
    mK Γ M_X9_lead (d + 3) Q n0 bc bs 27 [(0, .ref 26), (1, .int (nI p)), (2, .ref 52), (3, .int own), (4, .int (ldM (DM σ) (coM σ) (σ.1 52) p i)), (5, .int (nI i))] [] 60 mSH σ
  | 0, i, hm, hQ, hp => by
    have h6 := h.2.2.2.1
    refine T_X9_lead_26_52_27 _ _ _ _ ⟨fun _ => ?_, fun c => absurd (by rw [sV_s h]; exact nI_le (by omega) (by omega)) c⟩
    rw [show i = ds (DM σ) by omega]; exact hQ
  | m + 1, i, hm, hQ, hp => by
    have h6 := h.2.2.2.1
    have ih := L_lead_52 (d := d) (n0 := n0) (bc := bc) (bs := bs) (Γ := Γ) h m (i + 1) (by omega) hQ hp
    rw [ldM_s] at ih
    refine T_X9_lead_26_52_27 _ _ _ _ ⟨fun c => absurd c (by rw [sV_s h]; exact nI_ge (by omega) (by omega)), fun _ => ?_⟩
    rw [nI_eq (by omega) (by omega), nI_1]
    refine ⟨fun c => ?_, fun c => ?_⟩
    · rw [if_pos c] at ih; exact ih
    · rw [if_neg c] at ih
      refine S_score_52 i h (by omega) ?_
      refine T_X9_lead_26_52_54a _ _ _ _ _ _ ?_
      rw [nI_1]
      exact ih
theorem S_lead_52 {Γ : Nat × (Nat → Int32)} {d : Nat} {Q : mQ} {σ : mS} (p : Nat) (h : sV σ) (hp : p < ds (DM σ)) (hQ : Q (.inl (some (.int (dLead (DM σ) (coM σ) (σ.1 52) p)))) 60 mSH σ) : mCall Γ M_X9_lead (d + 3) 0 0 [.ref 26, .int (nI p), .ref 52] 60 mSH σ Q := by
  have h6 := h.2.2.2.1
  have g := ldM_G (DM σ) (coM σ) (σ.1 52) p (ds (DM σ))
  have ga := ldG_al (DM σ) (coM σ) (σ.1 52) p (ds (DM σ))
  refine E_X9_lead_26_52 (nI p) ?_
  refine S_score_52 p h hp ?_
  rw [dLead] at hQ
  refine T_X9_lead_26_52_6a _ _ ⟨fun c => ?_, fun c => ?_⟩
  · rw [sV_s h, show (1 : Int32) = nI 1 by decide, nI_eq (by omega) (by omega)] at c
    have e : (ldG (DM σ) (coM σ) (σ.1 52) p (ds (DM σ))).2 = 0 := by
      rw [c, ldG_s, if_pos (by omega)]; rfl
    rw [e, Int32.sub_zero] at hQ
    exact hQ
  · rw [sV_s h, show (1 : Int32) = nI 1 by decide, nI_eq (by omega) (by omega)] at c
    refine L_lead_52 h (ds (DM σ)) 0 (by omega) ?_ hp
    cases w : (ldG (DM σ) (coM σ) (σ.1 52) p (ds (DM σ))).1
    · rw [g.2 w]; exact hQ
    · have := ga w; omega
theorem L_lead_54 {Γ : Nat × (Nat → Int32)} {d n0 bc bs : Nat} {Q : mQ} {σ : mS} {p : Nat} {own : Int32} (h : sV σ) : ∀ m i, i + m = ds (DM σ) → Q (.inl (some (.int (own - ldM (DM σ) (coM σ) (σ.1 54) p (ds (DM σ)))))) 60 mSH σ → p < ds (DM σ) →
    mK Γ M_X9_lead (d + 3) Q n0 bc bs 27 [(0, .ref 26), (1, .int (nI p)), (2, .ref 54), (3, .int own), (4, .int (ldM (DM σ) (coM σ) (σ.1 54) p i)), (5, .int (nI i))] [] 60 mSH σ
  | 0, i, hm, hQ, hp => by
    have h6 := h.2.2.2.1
    refine T_X9_lead_26_54_27 _ _ _ _ ⟨fun _ => ?_, fun c => absurd (by rw [sV_s h]; exact nI_le (by omega) (by omega)) c⟩
    rw [show i = ds (DM σ) by omega]; exact hQ
  | m + 1, i, hm, hQ, hp => by
    have h6 := h.2.2.2.1
    have ih := L_lead_54 (d := d) (n0 := n0) (bc := bc) (bs := bs) (Γ := Γ) h m (i + 1) (by omega) hQ hp
    rw [ldM_s] at ih
    refine T_X9_lead_26_54_27 _ _ _ _ ⟨fun c => absurd c (by rw [sV_s h]; exact nI_ge (by omega) (by omega)), fun _ => ?_⟩
    rw [nI_eq (by omega) (by omega), nI_1]
    refine ⟨fun c => ?_, fun c => ?_⟩
    · rw [if_pos c] at ih; exact ih
    · rw [if_neg c] at ih
      refine S_score_54 i h (by omega) ?_
      refine T_X9_lead_26_54_54a _ _ _ _ _ _ ?_
      rw [nI_1]
      exact ih
theorem S_lead_54 {Γ : Nat × (Nat → Int32)} {d : Nat} {Q : mQ} {σ : mS} (p : Nat) (h : sV σ) (hp : p < ds (DM σ)) (hQ : Q (.inl (some (.int (dLead (DM σ) (coM σ) (σ.1 54) p)))) 60 mSH σ) : mCall Γ M_X9_lead (d + 3) 0 0 [.ref 26, .int (nI p), .ref 54] 60 mSH σ Q := by
  have h6 := h.2.2.2.1
  have g := ldM_G (DM σ) (coM σ) (σ.1 54) p (ds (DM σ))
  have ga := ldG_al (DM σ) (coM σ) (σ.1 54) p (ds (DM σ))
  refine E_X9_lead_26_54 (nI p) ?_
  refine S_score_54 p h hp ?_
  rw [dLead] at hQ
  refine T_X9_lead_26_54_6a _ _ ⟨fun c => ?_, fun c => ?_⟩
  · rw [sV_s h, show (1 : Int32) = nI 1 by decide, nI_eq (by omega) (by omega)] at c
    have e : (ldG (DM σ) (coM σ) (σ.1 54) p (ds (DM σ))).2 = 0 := by
      rw [c, ldG_s, if_pos (by omega)]; rfl
    rw [e, Int32.sub_zero] at hQ
    exact hQ
  · rw [sV_s h, show (1 : Int32) = nI 1 by decide, nI_eq (by omega) (by omega)] at c
    refine L_lead_54 h (ds (DM σ)) 0 (by omega) ?_ hp
    cases w : (ldG (DM σ) (coM σ) (σ.1 54) p (ds (DM σ))).1
    · rw [g.2 w]; exact hQ
    · have := ga w; omega
