/-! ===== the model's scores ===== -/
def mS2 (σ : mS) : Nat → Bool := fun k => decide (nI k = σ.1 26 18) || decide (nI k = σ.1 26 19)
def coM (σ : mS) : Nat → Bool := coD (DM σ) (mS2 σ)
theorem m_isConc0 {σ : mS} {k : Nat} (hk : k < dn (DM σ)) (h40 : dn (DM σ) ≤ 40) : f_X9_isConceded_26 σ (nI k) = 0 ↔ coM σ k = false := by
  rw [f_X9_isConceded_26, nI_clamp (by omega), m_conc hk, coM, coD, mS2]
  by_cases a : dc (DM σ) k = 1 <;> by_cases b : nI k = σ.1 26 18 <;> by_cases c : nI k = σ.1 26 19 <;> simp [a, b, c]
def sc1 (D : mDeb) (co : Nat → Bool) (p i : Nat) (x : Int32) : Int32 := if db D i = nI p ∧ co i = true then x + (-1) else x
def sc2 (D : mDeb) (b : Nat → Int32) (p i : Nat) (x : Int32) : Int32 := if db D i = nI p ∧ dk D i = 0 then (if b i = 1 then x + dz D i else if b i = 0 then x + dz D i / 2 else x) else x
def sc3 (D : mDeb) (p i : Nat) (x : Int32) : Int32 := if db D i = nI p ∧ dst D i = true then x + dz D i / 2 else x
def sc4 (D : mDeb) (p i : Nat) (x : Int32) : Int32 := if db D i = nI p then x + 1 else x
def sc5 (D : mDeb) (b : Nat → Int32) (p i : Nat) (x : Int32) : Int32 := if dk D (uN (dt D i)) = 0 ∧ db D (uN (dt D i)) = nI p ∧ b (uN (dt D i)) = 1 then x + dz D i else x
def sc174 (D : mDeb) (b : Nat → Int32) (p i : Nat) (x : Int32) : Int32 := if dk D i = 2 then sc5 D b p i (sc4 D p i x) else x
def sc131 (D : mDeb) (b : Nat → Int32) (p i : Nat) (x : Int32) : Int32 := if b i = 1 then sc174 D b p i (sc3 D p i x) else x
theorem sc_all {D : mDeb} {co : Nat → Bool} {b : Nat → Int32} {p i : Nat} (h : dV D) (hi : i < dn D) (x : Int32) :
    sc131 D b p i (sc2 D b p i (sc1 D co p i x)) = x + (if db D i = nI p then dWorth D co b i else 0) + (if dt D i ≠ -1 ∧ db D (uN (dt D i)) = nI p then dHelp D b i else 0) := by
  have h40 := h.2.1
  have hst : dst D i = true → dk D i = 1 := fun q => by rw [dst, decide_eq_true_eq] at q; exact q.1
  rw [sc131, sc174, sc5, sc4, sc3, sc2, sc1, dWorth, dHelp]
  rcases (h.2.2.2.2 i hi).2.2.2 with ⟨k0, _, e⟩ | ⟨k12, _, j, hj, e⟩
  · have hs : dst D i = false := by rw [← Bool.not_eq_true]; intro q; rw [hst q] at k0; exact absurd k0 (by decide)
    by_cases o : db D i = nI p <;> by_cases c : co i = true <;> by_cases b1 : b i = 1 <;> by_cases b0 : b i = 0 <;> simp [k0, e, hs, o, c, b1, b0, Int32.add_assoc]
  · have m1 : ¬ nI j = -1 := nI_m1 (by omega)
    rw [e, uN_nI (by omega)]
    rcases k12 with k1 | k2
    · by_cases o : db D i = nI p <;> by_cases c : co i = true <;> by_cases b1 : b i = 1 <;> by_cases b0 : b i = 0 <;> by_cases s : dst D i = true <;> simp [k1, m1, s, o, c, b1, b0, Int32.add_assoc]
    · have hs : dst D i = false := by rw [← Bool.not_eq_true]; intro q; rw [hst q] at k2; exact absurd k2 (by decide)
      by_cases o : db D i = nI p <;> by_cases c : co i = true <;> by_cases b1 : b i = 1 <;> by_cases b0 : b i = 0 <;> by_cases q1 : dk D j = 0 <;> by_cases q2 : db D j = nI p <;> by_cases q3 : b j = 1 <;> simp [k2, m1, hs, o, c, b1, b0, q1, q2, q3, Int32.add_assoc]
