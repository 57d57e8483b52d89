/-! ===== leads, the leader, why, far ===== -/
def ldG (D : mDeb) (co : Nat → Bool) (b : Nat → Int32) (p : Nat) : Nat → Bool × Int32
  | 0 => (true, 0)
  | k + 1 => if k = p then ldG D co b p k else (false, if (ldG D co b p k).1 = true then dScore D co b k else if dScore D co b k ≤ (ldG D co b p k).2 then (ldG D co b p k).2 else dScore D co b k)
theorem ldG_s (D : mDeb) (co : Nat → Bool) (b : Nat → Int32) (p k : Nat) : ldG D co b p (k + 1) = if k = p then ldG D co b p k else (false, if (ldG D co b p k).1 = true then dScore D co b k else if dScore D co b k ≤ (ldG D co b p k).2 then (ldG D co b p k).2 else dScore D co b k) := rfl
def dLead (D : mDeb) (co : Nat → Bool) (b : Nat → Int32) (p : Nat) : Int32 := dScore D co b p - (ldG D co b p (ds D)).2
def b01 (b : Bool) : Int32 := if b = true then 1 else 0
def ldB (D : mDeb) (co : Nat → Bool) (b : Nat → Int32) : Nat → Nat
  | 0 => 0
  | k + 1 => if k = 0 then 0 else if dScore D co b k ≤ dScore D co b (ldB D co b k) then ldB D co b k else k
theorem ldB_lt (D : mDeb) (co : Nat → Bool) (b : Nat → Int32) : ∀ k, ldB D co b (k + 1) ≤ k
  | 0 => by simp [ldB]
  | k + 1 => by
    have := ldB_lt D co b k
    rw [ldB, if_neg (by omega)]
    by_cases e : dScore D co b (k + 1) ≤ dScore D co b (ldB D co b (k + 1))
    · rw [if_pos e]; omega
    · rw [if_neg e]; omega
def dLeader (D : mDeb) (co : Nat → Bool) (b : Nat → Int32) : Int32 := if ds D = 0 then -1 else nI (ldB D co b (ds D))
def whF (D : mDeb) (b : Nat → Int32) (x : Nat) : Nat → Nat → Int32
  | _, 0 => if dc D x = 1 then -2 else -3
  | i, m + 1 => if dt D i = nI x ∧ dst D i = true ∧ b i = 1 then nI i else whF D b x (i + 1) m
def dWhy (D : mDeb) (b : Nat → Int32) (x : Nat) : Int32 := if b x = 2 then whF D b x 0 (dn D) else -1
def farN (D : mDeb) : Nat → Int32 → Nat
  | 0, _ => 0
  | f + 1, t => if t = -1 then 0 else farN D f (dt D (uN t)) + 1
def dFar (D : mDeb) (x : Nat) : Int32 := nI (farN D 40 (dt D x))
theorem c_dc {σ : mS} {k : Nat} (hk : k < dn (DC σ)) : dc (DC σ) k = 1 ↔ bB (σ.2.1 5 11) k = true := by
  show mkI (dn (DC σ)) (fun k => if bB (σ.2.1 5 11) k = true then 1 else 0) k = 1 ↔ _
  rw [mkI, if_pos hk]
  by_cases e : bB (σ.2.1 5 11) k = true <;> simp [e]
def coD (D : mDeb) (S : Nat → Bool) : Nat → Bool := fun k => decide (dc D k = 1) || S k
theorem co_eq {σ : mS} (hV : cV σ) (a : Int64) : bB (σ.2.1 5 11 ||| a) = coD (DC σ) (bB a) := by
  funext k
  rw [bB_or, coD]
  congr 1
  by_cases e : k < dn (DC σ)
  · rw [Bool.eq_iff_iff, decide_eq_true_eq, c_dc e]
  · rw [hV.2.2 k (by omega)]
    symm
    rw [decide_eq_false_iff_not]
    show ¬ mkI (dn (DC σ)) (fun k => if bB (σ.2.1 5 11) k = true then 1 else 0) k = 1
    rw [mkI, if_neg e]
    decide
theorem c_conc {σ : mS} (hV : cV σ) {k : Nat} (hk : k < dn (DC σ)) : f_X0_isConceded_5 σ (nI k) = if dc (DC σ) k = 1 then 1 else 0 := by
  have hn := hV.1.2.1
  have := bB_isSet σ (σ.2.1 5 11) (show k < 64 by omega)
  rw [f_X0_isConceded_5]
  by_cases e : dc (DC σ) k = 1
  · rw [if_pos e, if_neg (fun q => by have w := this.mp q; rw [(c_dc hk).mp e] at w; cases w)]
  · rw [if_neg e, if_pos (this.mpr (by rw [← Bool.not_eq_true]; exact fun q => e ((c_dc hk).mpr q)))]
def sI_16 (σ : mS) (b : Nat → Int32) : Prop := cV σ ∧ sOk (dn (DC σ)) b ∧ σ.2.1 16 3 = sSet b 1 ∧ σ.2.1 16 4 = sSet b 2
theorem L_leadOf_16 {Γ : Nat × (Nat → Int32)} {d n0 bc bs : Nat} {Q : mQ} {σ : mS} {b : Nat → Int32} {p : Nat} (h : sI_16 σ b) (hp : p < ds (DC σ)) : ∀ m i, i + m = ds (DC σ) → Q (.inl (some (.int (dLead (DC σ) (bB (σ.2.1 16 2)) b p)))) 60 mSH σ →
    mK Γ M_X4_leadOf (d + 5) Q n0 bc bs 14 [(0, .ref 16), (1, .int (nI p)), (2, .int (dScore (DC σ) (bB (σ.2.1 16 2)) b p)), (3, .int (b01 (ldG (DC σ) (bB (σ.2.1 16 2)) b p i).1)), (4, .int (ldG (DC σ) (bB (σ.2.1 16 2)) b p i).2), (5, .int (nI i))] [] 60 mSH σ
  | 0, i, hm, hQ => by
    have h6 := h.1.1.2.2.2.1
    refine T_X4_leadOf_16_14 _ _ _ _ _ ⟨fun _ => ?_, fun c => absurd (by rw [show f_X0_speakers_5 σ = nI (ds (DC σ)) from cV_s h.1]; exact nI_le (by omega) (by omega)) c⟩
    rw [show i = ds (DC σ) by omega]
    exact hQ
  | m + 1, i, hm, hQ => by
    have h6 := h.1.1.2.2.2.1
    have ih := L_leadOf_16 (d := d) (n0 := n0) (bc := bc) (bs := bs) (Γ := Γ) h hp m (i + 1) (by omega) hQ
    rw [ldG_s] at ih
    refine T_X4_leadOf_16_14 _ _ _ _ _ ⟨fun c => absurd c (by rw [show f_X0_speakers_5 σ = nI (ds (DC σ)) from cV_s h.1]; exact nI_ge (by omega) (by omega)), fun _ => ?_⟩
    rw [nI_eq (by omega) (by omega), nI_1]
    refine ⟨fun c => ?_, fun c => ?_⟩
    · rw [if_pos c] at ih; exact ih
    · rw [if_neg c] at ih
      refine S_scoreOf_16 (b := b) i h.1 h.2.1 h.2.2.1 h.2.2.2 (by omega) ?_
      refine T_X4_leadOf_16_38a _ _ _ _ _ _ ?_
      rw [nI_1]
      cases g : (ldG (DC σ) (bB (σ.2.1 16 2)) b p i).1
      · simp only [g, b01, Bool.false_eq_true, if_false] at ih
        refine ⟨fun _ => ⟨fun c2 => ?_, fun c2 => ?_⟩, fun c2 => absurd (by rfl) c2⟩
        · rw [if_pos c2] at ih; exact ih
        · rw [if_neg c2] at ih; exact ih
      · simp only [g, b01, Bool.false_eq_true, if_false, if_true] at ih
        exact ⟨fun c2 => absurd c2 (by decide), fun _ => ih⟩
theorem S_leadOf_16 {Γ : Nat × (Nat → Int32)} {d : Nat} {Q : mQ} {σ : mS} {b : Nat → Int32} (p : Nat) (h : sI_16 σ b) (hp : p < ds (DC σ)) (hQ : Q (.inl (some (.int (dLead (DC σ) (bB (σ.2.1 16 2)) b p)))) 60 mSH σ) : mCall Γ M_X4_leadOf (d + 5) 0 0 [.ref 16, .int (nI p)] 60 mSH σ Q := by
  refine E_X4_leadOf_16 (nI p) ?_
  refine S_scoreOf_16 (b := b) p h.1 h.2.1 h.2.2.1 h.2.2.2 hp ?_
  refine T_X4_leadOf_16_5a _ _ ?_
  exact L_leadOf_16 h hp (ds (DC σ)) 0 (by omega) hQ
def sI_18 (σ : mS) (b : Nat → Int32) : Prop := cV σ ∧ sOk (dn (DC σ)) b ∧ σ.2.1 18 3 = sSet b 1 ∧ σ.2.1 18 4 = sSet b 2
theorem L_leadOf_18 {Γ : Nat × (Nat → Int32)} {d n0 bc bs : Nat} {Q : mQ} {σ : mS} {b : Nat → Int32} {p : Nat} (h : sI_18 σ b) (hp : p < ds (DC σ)) : ∀ m i, i + m = ds (DC σ) → Q (.inl (some (.int (dLead (DC σ) (bB (σ.2.1 18 2)) b p)))) 60 mSH σ →
    mK Γ M_X4_leadOf (d + 5) Q n0 bc bs 14 [(0, .ref 18), (1, .int (nI p)), (2, .int (dScore (DC σ) (bB (σ.2.1 18 2)) b p)), (3, .int (b01 (ldG (DC σ) (bB (σ.2.1 18 2)) b p i).1)), (4, .int (ldG (DC σ) (bB (σ.2.1 18 2)) b p i).2), (5, .int (nI i))] [] 60 mSH σ
  | 0, i, hm, hQ => by
    have h6 := h.1.1.2.2.2.1
    refine T_X4_leadOf_18_14 _ _ _ _ _ ⟨fun _ => ?_, fun c => absurd (by rw [show f_X0_speakers_5 σ = nI (ds (DC σ)) from cV_s h.1]; exact nI_le (by omega) (by omega)) c⟩
    rw [show i = ds (DC σ) by omega]
    exact hQ
  | m + 1, i, hm, hQ => by
    have h6 := h.1.1.2.2.2.1
    have ih := L_leadOf_18 (d := d) (n0 := n0) (bc := bc) (bs := bs) (Γ := Γ) h hp m (i + 1) (by omega) hQ
    rw [ldG_s] at ih
    refine T_X4_leadOf_18_14 _ _ _ _ _ ⟨fun c => absurd c (by rw [show f_X0_speakers_5 σ = nI (ds (DC σ)) from cV_s h.1]; exact nI_ge (by omega) (by omega)), fun _ => ?_⟩
    rw [nI_eq (by omega) (by omega), nI_1]
    refine ⟨fun c => ?_, fun c => ?_⟩
    · rw [if_pos c] at ih; exact ih
    · rw [if_neg c] at ih
      refine S_scoreOf_18 (b := b) i h.1 h.2.1 h.2.2.1 h.2.2.2 (by omega) ?_
      refine T_X4_leadOf_18_38a _ _ _ _ _ _ ?_
      rw [nI_1]
      cases g : (ldG (DC σ) (bB (σ.2.1 18 2)) b p i).1
      · simp only [g, b01, Bool.false_eq_true, if_false] at ih
        refine ⟨fun _ => ⟨fun c2 => ?_, fun c2 => ?_⟩, fun c2 => absurd (by rfl) c2⟩
        · rw [if_pos c2] at ih; exact ih
        · rw [if_neg c2] at ih; exact ih
      · simp only [g, b01, Bool.false_eq_true, if_false, if_true] at ih
        exact ⟨fun c2 => absurd c2 (by decide), fun _ => ih⟩
theorem S_leadOf_18 {Γ : Nat × (Nat → Int32)} {d : Nat} {Q : mQ} {σ : mS} {b : Nat → Int32} (p : Nat) (h : sI_18 σ b) (hp : p < ds (DC σ)) (hQ : Q (.inl (some (.int (dLead (DC σ) (bB (σ.2.1 18 2)) b p)))) 60 mSH σ) : mCall Γ M_X4_leadOf (d + 5) 0 0 [.ref 18, .int (nI p)] 60 mSH σ Q := by
  refine E_X4_leadOf_18 (nI p) ?_
  refine S_scoreOf_18 (b := b) p h.1 h.2.1 h.2.2.1 h.2.2.2 hp ?_
  refine T_X4_leadOf_18_5a _ _ ?_
  exact L_leadOf_18 h hp (ds (DC σ)) 0 (by omega) hQ
