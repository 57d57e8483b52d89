/-! ===== what a round finds, in the model ===== -/
def nxA (D : mDeb) (k : Nat) : Nat → Nat → Int32
  | _, 0 => -1
  | i, m + 1 => if dst D i = true ∧ dt D i = nI k then nI i else nxA D k (i + 1) m
theorem nxA_s (D : mDeb) (k i m : Nat) : nxA D k i (m + 1) = if dst D i = true ∧ dt D i = nI k then nI i else nxA D k (i + 1) m := rfl
def fdF (D : mDeb) (b : Nat → Int32) (k : Nat) : Nat → Nat → Bool → Int32
  | _, 0, acc => if acc = true ∧ (dr D k = -1 ∨ b (uN (dr D k)) = 1) then 1 else 0
  | i, m + 1, acc => if dst D i = true ∧ dt D i = nI k then (if b i = 1 then 2 else fdF D b k (i + 1) m (acc && decide (b i = 2))) else fdF D b k (i + 1) m acc
theorem fdF_s (D : mDeb) (b : Nat → Int32) (k i m : Nat) (acc : Bool) : fdF D b k i (m + 1) acc = if dst D i = true ∧ dt D i = nI k then (if b i = 1 then 2 else fdF D b k (i + 1) m (acc && decide (b i = 2))) else fdF D b k (i + 1) m acc := rfl
theorem fdF_v {D : mDeb} {b : Nat → Int32} {k : Nat} : ∀ m i acc, i + m = dn D →
    (fdF D b k i m acc = 2 ↔ ∃ a, i ≤ a ∧ a < dn D ∧ dst D a = true ∧ dt D a = nI k ∧ b a = 1) ∧
    ((¬ ∃ a, i ≤ a ∧ a < dn D ∧ dst D a = true ∧ dt D a = nI k ∧ b a = 1) → fdF D b k i m acc = iteP ((acc = true ∧ ∀ a, i ≤ a → a < dn D → dst D a = true → dt D a = nI k → b a = 2) ∧ (dr D k = -1 ∨ b (uN (dr D k)) = 1)) 1 0)
  | 0, i, acc, h => by
    constructor
    · constructor
      · intro q
        rw [fdF] at q
        by_cases c : acc = true ∧ (dr D k = -1 ∨ b (uN (dr D k)) = 1)
        · rw [if_pos c] at q; exact absurd q (by decide)
        · rw [if_neg c] at q; exact absurd q (by decide)
      · rintro ⟨a, h1, h2, _⟩; omega
    · intro _
      rw [fdF]
      by_cases c : acc = true ∧ (dr D k = -1 ∨ b (uN (dr D k)) = 1)
      · rw [if_pos c, iteP_pos ⟨⟨c.1, fun a h1 h2 => absurd h2 (by omega)⟩, c.2⟩]
      · rw [if_neg c, iteP_neg (fun q => c ⟨q.1.1, q.2⟩)]
  | m + 1, i, acc, h => by
    rw [fdF_s]
    by_cases e : dst D i = true ∧ dt D i = nI k
    · rw [if_pos e]
      by_cases b1 : b i = 1
      · rw [if_pos b1]
        exact ⟨⟨fun _ => ⟨i, Nat.le_refl i, by omega, e.1, e.2, b1⟩, fun _ => rfl⟩, fun q => absurd ⟨i, Nat.le_refl i, by omega, e.1, e.2, b1⟩ q⟩
      · rw [if_neg b1]
        have ih := fdF_v (D := D) (b := b) (k := k) m (i + 1) (acc && decide (b i = 2)) (by omega)
        have x : (∃ a, i ≤ a ∧ a < dn D ∧ dst D a = true ∧ dt D a = nI k ∧ b a = 1) ↔ (∃ a, i + 1 ≤ a ∧ a < dn D ∧ dst D a = true ∧ dt D a = nI k ∧ b a = 1) := by
          constructor
          · rintro ⟨a, h1, h2, h3, h4, h5⟩
            refine ⟨a, ?_, h2, h3, h4, h5⟩
            by_cases z : a = i
            · subst z; exact absurd h5 b1
            · omega
          · rintro ⟨a, h1, h2⟩; exact ⟨a, by omega, h2⟩
        rw [x]
        refine ⟨ih.1, fun q => ?_⟩
        rw [ih.2 q]
        have y : ((acc && decide (b i = 2)) = true ∧ ∀ a, i + 1 ≤ a → a < dn D → dst D a = true → dt D a = nI k → b a = 2) ↔ (acc = true ∧ ∀ a, i ≤ a → a < dn D → dst D a = true → dt D a = nI k → b a = 2) := by
          rw [Bool.and_eq_true, decide_eq_true_eq]
          constructor
          · rintro ⟨⟨h1, h2⟩, h3⟩
            refine ⟨h1, fun a w1 w2 w3 w4 => ?_⟩
            by_cases z : a = i
            · subst z; exact h2
            · exact h3 a (by omega) w2 w3 w4
          · rintro ⟨h1, h3⟩
            exact ⟨⟨h1, h3 i (Nat.le_refl i) (by omega) e.1 e.2⟩, fun a w1 => h3 a (by omega)⟩
        by_cases z : ((acc && decide (b i = 2)) = true ∧ ∀ a, i + 1 ≤ a → a < dn D → dst D a = true → dt D a = nI k → b a = 2) ∧ (dr D k = -1 ∨ b (uN (dr D k)) = 1)
        · rw [iteP_pos z, iteP_pos ⟨y.mp z.1, z.2⟩]
        · rw [iteP_neg z, iteP_neg (fun q => z ⟨y.mpr q.1, q.2⟩)]
    · rw [if_neg e]
      have ih := fdF_v (D := D) (b := b) (k := k) m (i + 1) acc (by omega)
      have x : (∃ a, i ≤ a ∧ a < dn D ∧ dst D a = true ∧ dt D a = nI k ∧ b a = 1) ↔ (∃ a, i + 1 ≤ a ∧ a < dn D ∧ dst D a = true ∧ dt D a = nI k ∧ b a = 1) := by
        constructor
        · rintro ⟨a, h1, h2, h3, h4, h5⟩
          refine ⟨a, ?_, h2, h3, h4, h5⟩
          by_cases z : a = i
          · subst z; exact absurd ⟨h3, h4⟩ e
          · omega
        · rintro ⟨a, h1, h2⟩; exact ⟨a, by omega, h2⟩
      rw [x]
      refine ⟨ih.1, fun q => ?_⟩
      rw [ih.2 q]
      have y : (acc = true ∧ ∀ a, i + 1 ≤ a → a < dn D → dst D a = true → dt D a = nI k → b a = 2) ↔ (acc = true ∧ ∀ a, i ≤ a → a < dn D → dst D a = true → dt D a = nI k → b a = 2) := by
        constructor
        · rintro ⟨h1, h3⟩
          refine ⟨h1, fun a w1 w2 w3 w4 => ?_⟩
          by_cases z : a = i
          · subst z; exact absurd ⟨w3, w4⟩ e
          · exact h3 a (by omega) w2 w3 w4
        · rintro ⟨h1, h3⟩
          exact ⟨h1, fun a w1 => h3 a (by omega)⟩
      by_cases z : (acc = true ∧ ∀ a, i + 1 ≤ a → a < dn D → dst D a = true → dt D a = nI k → b a = 2) ∧ (dr D k = -1 ∨ b (uN (dr D k)) = 1)
      · rw [iteP_pos z, iteP_pos ⟨y.mp z.1, z.2⟩]
      · rw [iteP_neg z, iteP_neg (fun q => z ⟨y.mpr q.1, q.2⟩)]
def hiM (σ : mS) : Nat → Bool := fun k => decide (nI k = σ.1 26 20)
def chM (σ : mS) : Prop := ∀ a, a < dn (DM σ) → dst (DM σ) a = true → σ.1 57 a = nxA (DM σ) (uN (dt (DM σ) a)) (a + 1) (dn (DM σ) - a - 1)
theorem L_finds_52 {Γ : Nat × (Nat → Int32)} {d n0 bc bs : Nat} {Q : mQ} {σ : mS} {k : Nat} (h : sV σ) (hk : k < dn (DM σ)) (hC : chM σ) : ∀ m i acc, i + m = dn (DM σ) → Q (.inl (some (.int (fdF (DM σ) (σ.1 52) k i m acc)))) 60 mSH σ →
    mK Γ M_X9_finds (d + 2) Q n0 bc bs 51 [(0, .ref 26), (2, .ref 52), (3, .int (dr (DM σ) k)), (4, .int (b01 acc)), (5, .int (nxA (DM σ) k i m))] [] 60 mSH σ
  | 0, i, acc, hm, hQ => by
    have h40 := h.2.1
    rw [fdF] at hQ
    refine T_X9_finds_26_52_51 _ _ _ ⟨fun _ => ?_, fun c => absurd rfl c⟩
    cases acc
    · rw [if_neg (fun q => by cases q.1)] at hQ
      exact ⟨fun _ => hQ, fun c => absurd rfl c⟩
    · refine ⟨fun c => absurd c (by decide), fun _ => ⟨fun c => ?_, fun c => ?_⟩⟩
      · rw [if_pos ⟨rfl, .inl c⟩] at hQ; exact hQ
      · rcases dV_r h hk with e | ⟨j, hj, e⟩
        · exact absurd e c
        · rw [e, uN_nI (by omega)] at hQ
          rw [e, nI_clamp (by omega)]
          refine ⟨vp_in_nI (by omega) (by omega), fun c2 => ?_, fun c2 => ?_⟩
          · rw [if_pos ⟨rfl, .inr c2⟩] at hQ; exact hQ
          · rw [if_neg (fun q => by rcases q.2 with w | w; exact nI_m1 (by omega) w; exact c2 w)] at hQ; exact hQ
  | m + 1, i, acc, hm, hQ => by
    have h40 := h.2.1
    rw [fdF_s] at hQ
    rw [nxA_s]
    by_cases e : dst (DM σ) i = true ∧ dt (DM σ) i = nI k
    · rw [if_pos e] at hQ ⊢
      have hc := hC i (by omega) e.1
      rw [e.2, uN_nI (by omega), show dn (DM σ) - i - 1 = m by omega] at hc
      refine T_X9_finds_26_52_51 _ _ _ ⟨fun c => absurd c (nI_m1 (by omega)), fun _ => ⟨vp_in_nI (by omega) (by omega), ?_⟩⟩
      rw [nI_clamp (by omega), hc]
      refine ⟨fun c => ?_, fun c => ⟨fun c2 => ?_, fun c2 => ?_⟩⟩
      · rw [if_pos c] at hQ; exact hQ
      · rw [if_neg c, decide_eq_true c2, Bool.and_true] at hQ
        have : b01 acc &&& 1 = b01 acc := by cases acc <;> decide
        rw [this]
        exact L_finds_52 h hk hC m (i + 1) acc (by omega) hQ
      · rw [if_neg c, decide_eq_false c2, Bool.and_false] at hQ
        have : b01 acc &&& 0 = b01 false := by cases acc <;> decide
        rw [this]
        exact L_finds_52 h hk hC m (i + 1) false (by omega) hQ
    · rw [if_neg e] at hQ ⊢
      exact L_finds_52 h hk hC m (i + 1) acc (by omega) hQ
theorem S_finds_52 {Γ : Nat × (Nat → Int32)} {d : Nat} {Q : mQ} {σ : mS} (k : Nat) (h : sV σ) (hk : k < dn (DM σ)) (hC : chM σ) (hf : σ.1 56 k = nxA (DM σ) k 0 (dn (DM σ))) (hQ : Q (.inl (some (.int (sFinds (DM σ) (coM σ) (hiM σ) (σ.1 52) k)))) 60 mSH σ) : mCall Γ M_X9_finds (d + 2) 0 0 [.ref 26, .int (nI k), .ref 52] 60 mSH σ Q := by
  have h40 := h.2.1
  have hL := fun (bc bs : Nat) (hn2 : ¬ (coM σ k = true ∨ hiM σ k = true ∨ (dr (DM σ) k ≠ -1 ∧ σ.1 52 (uN (dr (DM σ) k)) = 2))) => L_finds_52 (d := d) (n0 := 60) (bc := bc) (bs := bs) (Γ := Γ) (Q := Q) h hk hC (dn (DM σ)) 0 true (by omega) (by
    have w := fdF_v (D := DM σ) (b := σ.1 52) (k := k) (dn (DM σ)) 0 true (by omega)
    have e : fdF (DM σ) (σ.1 52) k 0 (dn (DM σ)) true = sFinds (DM σ) (coM σ) (hiM σ) (σ.1 52) k := by
      rw [sFinds]
      by_cases x : ∃ a, 0 ≤ a ∧ a < dn (DM σ) ∧ dst (DM σ) a = true ∧ dt (DM σ) a = nI k ∧ σ.1 52 a = 1
      · rw [w.1.mpr x, iteP_pos]
        obtain ⟨a, _, x⟩ := x
        exact .inr (.inr (.inr ⟨a, x⟩))
      · rw [w.2 x, iteP_neg (P := sHit _ _ _ _ _)]
        · by_cases z : sFree (DM σ) (σ.1 52) k
          · rw [iteP_pos z, iteP_pos ⟨⟨rfl, fun a _ => z.1 a⟩, z.2⟩]
          · rw [iteP_neg z, iteP_neg (fun q => z ⟨fun a => q.1.2 a (Nat.zero_le a), q.2⟩)]
        · rintro (q | q | q | ⟨a, q⟩)
          · exact hn2 (.inl q)
          · exact hn2 (.inr (.inl q))
          · exact hn2 (.inr (.inr q))
          · exact x ⟨a, Nat.zero_le a, q⟩
    rw [e]; exact hQ)
  refine E_X9_finds_26_52 (nI k) ⟨vp_in_nI (by omega) (by omega), ?_⟩
  rw [m_isConc0 hk h40, nI_clamp (by omega), m_source hk, hf]
  refine ⟨fun c => ⟨fun c2 => ?_, fun c2 => ⟨fun c3 => ?_, fun c3 => ?_⟩⟩, fun c => ?_⟩
  · rw [sFinds, iteP_pos (.inr (.inl (decide_eq_true c2)))] at hQ; exact hQ
  · exact hL _ _ (fun q => by
      rcases q with q | q | q
      · rw [c] at q; cases q
      · exact c2 (of_decide_eq_true q)
      · exact q.1 c3)
  · rcases dV_r h hk with e | ⟨j, hj, e⟩
    · exact absurd e c3
    · have hj2 : uN (dr (DM σ) k) = j := by rw [e, uN_nI (by omega)]
      have hj3 : (dr (DM σ) k).toNatClampNeg = j := hj2
      rw [hj3]
      refine ⟨by rw [e]; exact vp_in_nI (by omega) (by omega), fun c4 => ?_, fun c4 => ?_⟩
      · rw [sFinds, iteP_pos (.inr (.inr (.inl ⟨c3, by rw [hj2]; exact c4⟩)))] at hQ; exact hQ
      · exact hL _ _ (fun q => by
          rcases q with q | q | q
          · rw [c] at q; cases q
          · exact c2 (of_decide_eq_true q)
          · rw [hj2] at q; exact c4 q.2)
  · rw [sFinds, iteP_pos (.inl (Bool.not_eq_false _ ▸ c))] at hQ; exact hQ
theorem L_finds_54 {Γ : Nat × (Nat → Int32)} {d n0 bc bs : Nat} {Q : mQ} {σ : mS} {k : Nat} (h : sV σ) (hk : k < dn (DM σ)) (hC : chM σ) : ∀ m i acc, i + m = dn (DM σ) → Q (.inl (some (.int (fdF (DM σ) (σ.1 54) k i m acc)))) 60 mSH σ →
    mK Γ M_X9_finds (d + 2) Q n0 bc bs 51 [(0, .ref 26), (2, .ref 54), (3, .int (dr (DM σ) k)), (4, .int (b01 acc)), (5, .int (nxA (DM σ) k i m))] [] 60 mSH σ
  | 0, i, acc, hm, hQ => by
    have h40 := h.2.1
    rw [fdF] at hQ
    refine T_X9_finds_26_54_51 _ _ _ ⟨fun _ => ?_, fun c => absurd rfl c⟩
    cases acc
    · rw [if_neg (fun q => by cases q.1)] at hQ
      exact ⟨fun _ => hQ, fun c => absurd rfl c⟩
    · refine ⟨fun c => absurd c (by decide), fun _ => ⟨fun c => ?_, fun c => ?_⟩⟩
      · rw [if_pos ⟨rfl, .inl c⟩] at hQ; exact hQ
      · rcases dV_r h hk with e | ⟨j, hj, e⟩
        · exact absurd e c
        · rw [e, uN_nI (by omega)] at hQ
          rw [e, nI_clamp (by omega)]
          refine ⟨vp_in_nI (by omega) (by omega), fun c2 => ?_, fun c2 => ?_⟩
          · rw [if_pos ⟨rfl, .inr c2⟩] at hQ; exact hQ
          · rw [if_neg (fun q => by rcases q.2 with w | w; exact nI_m1 (by omega) w; exact c2 w)] at hQ; exact hQ
  | m + 1, i, acc, hm, hQ => by
    have h40 := h.2.1
    rw [fdF_s] at hQ
    rw [nxA_s]
    by_cases e : dst (DM σ) i = true ∧ dt (DM σ) i = nI k
    · rw [if_pos e] at hQ ⊢
      have hc := hC i (by omega) e.1
      rw [e.2, uN_nI (by omega), show dn (DM σ) - i - 1 = m by omega] at hc
      refine T_X9_finds_26_54_51 _ _ _ ⟨fun c => absurd c (nI_m1 (by omega)), fun _ => ⟨vp_in_nI (by omega) (by omega), ?_⟩⟩
      rw [nI_clamp (by omega), hc]
      refine ⟨fun c => ?_, fun c => ⟨fun c2 => ?_, fun c2 => ?_⟩⟩
      · rw [if_pos c] at hQ; exact hQ
      · rw [if_neg c, decide_eq_true c2, Bool.and_true] at hQ
        have : b01 acc &&& 1 = b01 acc := by cases acc <;> decide
        rw [this]
        exact L_finds_54 h hk hC m (i + 1) acc (by omega) hQ
      · rw [if_neg c, decide_eq_false c2, Bool.and_false] at hQ
        have : b01 acc &&& 0 = b01 false := by cases acc <;> decide
        rw [this]
        exact L_finds_54 h hk hC m (i + 1) false (by omega) hQ
    · rw [if_neg e] at hQ ⊢
      exact L_finds_54 h hk hC m (i + 1) acc (by omega) hQ
theorem S_finds_54 {Γ : Nat × (Nat → Int32)} {d : Nat} {Q : mQ} {σ : mS} (k : Nat) (h : sV σ) (hk : k < dn (DM σ)) (hC : chM σ) (hf : σ.1 56 k = nxA (DM σ) k 0 (dn (DM σ))) (hQ : Q (.inl (some (.int (sFinds (DM σ) (coM σ) (hiM σ) (σ.1 54) k)))) 60 mSH σ) : mCall Γ M_X9_finds (d + 2) 0 0 [.ref 26, .int (nI k), .ref 54] 60 mSH σ Q := by
  have h40 := h.2.1
  have hL := fun (bc bs : Nat) (hn2 : ¬ (coM σ k = true ∨ hiM σ k = true ∨ (dr (DM σ) k ≠ -1 ∧ σ.1 54 (uN (dr (DM σ) k)) = 2))) => L_finds_54 (d := d) (n0 := 60) (bc := bc) (bs := bs) (Γ := Γ) (Q := Q) h hk hC (dn (DM σ)) 0 true (by omega) (by
    have w := fdF_v (D := DM σ) (b := σ.1 54) (k := k) (dn (DM σ)) 0 true (by omega)
    have e : fdF (DM σ) (σ.1 54) k 0 (dn (DM σ)) true = sFinds (DM σ) (coM σ) (hiM σ) (σ.1 54) k := by
      rw [sFinds]
      by_cases x : ∃ a, 0 ≤ a ∧ a < dn (DM σ) ∧ dst (DM σ) a = true ∧ dt (DM σ) a = nI k ∧ σ.1 54 a = 1
      · rw [w.1.mpr x, iteP_pos]
        obtain ⟨a, _, x⟩ := x
        exact .inr (.inr (.inr ⟨a, x⟩))
      · rw [w.2 x, iteP_neg (P := sHit _ _ _ _ _)]
        · by_cases z : sFree (DM σ) (σ.1 54) k
          · rw [iteP_pos z, iteP_pos ⟨⟨rfl, fun a _ => z.1 a⟩, z.2⟩]
          · rw [iteP_neg z, iteP_neg (fun q => z ⟨fun a => q.1.2 a (Nat.zero_le a), q.2⟩)]
        · rintro (q | q | q | ⟨a, q⟩)
          · exact hn2 (.inl q)
          · exact hn2 (.inr (.inl q))
          · exact hn2 (.inr (.inr q))
          · exact x ⟨a, Nat.zero_le a, q⟩
    rw [e]; exact hQ)
  refine E_X9_finds_26_54 (nI k) ⟨vp_in_nI (by omega) (by omega), ?_⟩
  rw [m_isConc0 hk h40, nI_clamp (by omega), m_source hk, hf]
  refine ⟨fun c => ⟨fun c2 => ?_, fun c2 => ⟨fun c3 => ?_, fun c3 => ?_⟩⟩, fun c => ?_⟩
  · rw [sFinds, iteP_pos (.inr (.inl (decide_eq_true c2)))] at hQ; exact hQ
  · exact hL _ _ (fun q => by
      rcases q with q | q | q
      · rw [c] at q; cases q
      · exact c2 (of_decide_eq_true q)
      · exact q.1 c3)
  · rcases dV_r h hk with e | ⟨j, hj, e⟩
    · exact absurd e c3
    · have hj2 : uN (dr (DM σ) k) = j := by rw [e, uN_nI (by omega)]
      have hj3 : (dr (DM σ) k).toNatClampNeg = j := hj2
      rw [hj3]
      refine ⟨by rw [e]; exact vp_in_nI (by omega) (by omega), fun c4 => ?_, fun c4 => ?_⟩
      · rw [sFinds, iteP_pos (.inr (.inr (.inl ⟨c3, by rw [hj2]; exact c4⟩)))] at hQ; exact hQ
      · exact hL _ _ (fun q => by
          rcases q with q | q | q
          · rw [c] at q; cases q
          · exact c2 (of_decide_eq_true q)
          · rw [hj2] at q; exact c4 q.2)
  · rw [sFinds, iteP_pos (.inl (Bool.not_eq_false _ ▸ c))] at hQ; exact hQ
