/-! ===== what a round finds, in the model ===== -/
def nxA (D : mDeb) (k : Nat) : Nat → Nat → Int32
  | _, 0 => -1
  | i, m + 1 => if dst D i = true ∧ dt D i = nI k then nI i else nxA D k (i + 1) m
theorem nxA_s (D : mDeb) (k i m : Nat) : nxA D k i (m + 1) = if dst D i = true ∧ dt D i = nI k then nI i else nxA D k (i + 1) m := rfl
def fdF (D : mDeb) (b : Nat → Int32) (k : Nat) : Nat → Nat → Bool → Int32
  | _, 0, acc => if acc = true ∧ (dr D k = -1 ∨ b (uN (dr D k)) = 1) then 1 else 0
  | i, m + 1, acc => if dst D i = true ∧ dt D i = nI k then (if b i = 1 then 2 else fdF D b k (i + 1) m (acc && decide (b i = 2))) else fdF D b k (i + 1) m acc
theorem fdF_s (D : mDeb) (b : Nat → Int32) (k i m : Nat) (acc : Bool) : fdF D b k i (m + 1) acc = if dst D i = true ∧ dt D i = nI k then (if b i = 1 then 2 else fdF D b k (i + 1) m (acc && decide (b i = 2))) else fdF D b k (i + 1) m acc := rfl
theorem fdF_v {D : mDeb} {b : Nat → Int32} {k : Nat} : ∀ m i acc, i + m = dn D →
    (fdF D b k i m acc = 2 ↔ ∃ a, i ≤ a ∧ a < dn D ∧ dst D a = true ∧ dt D a = nI k ∧ b a = 1) ∧
    ((¬ ∃ a, i ≤ a ∧ a < dn D ∧ dst D a = true ∧ dt D a = nI k ∧ b a = 1) → fdF D b k i m acc = iteP ((acc = true ∧ ∀ a, i ≤ a → a < dn D → dst D a = true → dt D a = nI k → b a = 2) ∧ (dr D k = -1 ∨ b (uN (dr D k)) = 1)) 1 0)
  | 0, i, acc, h => by
    constructor
    · constructor
      · intro q
        rw [fdF] at q
        by_cases c : acc = true ∧ (dr D k = -1 ∨ b (uN (dr D k)) = 1)
        · rw [if_pos c] at q; exact absurd q (by decide)
        · rw [if_neg c] at q; exact absurd q (by decide)
      · rintro ⟨a, h1, h2, _⟩; omega
    · intro _
      rw [fdF]
      by_cases c : acc = true ∧ (dr D k = -1 ∨ b (uN (dr D k)) = 1)
      · rw [if_pos c, iteP_pos ⟨⟨c.1, fun a h1 h2 => absurd h2 (by omega)⟩, c.2⟩]
      · rw [if_neg c, iteP_neg (fun q => c ⟨q.1.1, q.2⟩)]
  | m + 1, i, acc, h => by
    rw [fdF_s]
    by_cases e : dst D i = true ∧ dt D i = nI k
    · rw [if_pos e]
      by_cases b1 : b i = 1
      · rw [if_pos b1]
        exact ⟨⟨fun _ => ⟨i, Nat.le_refl i, by omega, e.1, e.2, b1⟩, fun _ => rfl⟩, fun q => absurd ⟨i, Nat.le_refl i, by omega, e.1, e.2, b1⟩ q⟩
      · rw [if_neg b1]
        have ih := fdF_v (D := D) (b := b) (k := k) m (i + 1) (acc && decide (b i = 2)) (by omega)
        have x : (∃ a, i ≤ a ∧ a < dn D ∧ dst D a = true ∧ dt D a = nI k ∧ b a = 1) ↔ (∃ a, i + 1 ≤ a ∧ a < dn D ∧ dst D a = true ∧ dt D a = nI k ∧ b a = 1) := by
          constructor
          · rintro ⟨a, h1, h2, h3, h4, h5⟩
            refine ⟨a, ?_, h2, h3, h4, h5⟩
            by_cases z : a = i
            · subst z; exact absurd h5 b1
            · omega
          · rintro ⟨a, h1, h2⟩; exact ⟨a, by omega, h2⟩
        rw [x]
        refine ⟨ih.1, fun q => ?_⟩
        rw [ih.2 q]
        have y : ((acc && decide (b i = 2)) = true ∧ ∀ a, i + 1 ≤ a → a < dn D → dst D a = true → dt D a = nI k → b a = 2) ↔ (acc = true ∧ ∀ a, i ≤ a → a < dn D → dst D a = true → dt D a = nI k → b a = 2) := by
          rw [Bool.and_eq_true, decide_eq_true_eq]
          constructor
          · rintro ⟨⟨h1, h2⟩, h3⟩
            refine ⟨h1, fun a w1 w2 w3 w4 => ?_⟩
            by_cases z : a = i
            · subst z; exact h2
            · exact h3 a (by omega) w2 w3 w4
          · rintro ⟨h1, h3⟩
            exact ⟨⟨h1, h3 i (Nat.le_refl i) (by omega) e.1 e.2⟩, fun a w1 => h3 a (by omega)⟩
        by_cases z : ((acc && decide (b i = 2)) = true ∧ ∀ a, i + 1 ≤ a → a < dn D → dst D a = true → dt D a = nI k → b a = 2) ∧ (dr D k = -1 ∨ b (uN (dr D k)) = 1)
        · rw [iteP_pos z, iteP_pos ⟨y.mp z.1, z.2⟩]
        · rw [iteP_neg z, iteP_neg (fun q => z ⟨y.mpr q.1, q.2⟩)]
    · rw [if_neg e]
      have ih := fdF_v (D := D) (b := b) (k := k) m (i + 1) acc (by omega)
      have x : (∃ a, i ≤ a ∧ a < dn D ∧ dst D a = true ∧ dt D a = nI k ∧ b a = 1) ↔ (∃ a, i + 1 ≤ a ∧ a < dn D ∧ dst D a = true ∧ dt D a = nI k ∧ b a = 1) := by
        constructor
        · rintro ⟨a, h1, h2, h3, h4, h5⟩
          refine ⟨a, ?_, h2, h3, h4, h5⟩
          by_cases z : a = i
          · subst z; exact absurd ⟨h3, h4⟩ e
          · omega
        · rintro ⟨a, h1, h2⟩; exact ⟨a, by omega, h2⟩
      rw [x]
      refine ⟨ih.1, fun q => ?_⟩
      rw [ih.2 q]
      have y : (acc = true ∧ ∀ a, i + 1 ≤ a → a < dn D → dst D a = true → dt D a = nI k → b a = 2) ↔ (acc = true ∧ ∀ a, i ≤ a → a < dn D → dst D a = true → dt D a = nI k → b a = 2) := by
        constructor
        · rintro ⟨h1, h3⟩
          refine ⟨h1, fun a w1 w2 w3 w4 => ?_⟩
          by_cases z : a = i
          · subst z; exact absurd ⟨w3, w4⟩ e
          · exact h3 a (by omega) w2 w3 w4
        · rintro ⟨h1, h3⟩
          exact ⟨h1, fun a w1 => h3 a (by omega)⟩
      by_cases z : (acc = true ∧ ∀ a, i + 1 ≤ a → a < dn D → dst D a = true → dt D a = nI k → b a = 2) ∧ (dr D k = -1 ∨ b (uN (dr D k)) = 1)
      · rw [iteP_pos z, iteP_pos ⟨y.mp z.1, z.2⟩]
      · rw [iteP_neg z, iteP_neg (fun q => z ⟨y.mpr q.1, q.2⟩)]
