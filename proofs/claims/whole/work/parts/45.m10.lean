/-! ===== what would be, in the model ===== -/
def fM (σ τ : mS) : Prop := (∀ a, a ≠ 26 → a ≠ 54 → a ≠ 55 → a ≠ 56 → a ≠ 57 → a ≠ 58 → τ.1 a = σ.1 a) ∧ (∀ k, k ≠ 18 → k ≠ 19 → k ≠ 20 → τ.1 26 k = σ.1 26 k) ∧ τ.2 = σ.2
def hM (σ : mS) : Prop := σ.1 26 18 = -1 ∧ σ.1 26 19 = -1 ∧ σ.1 26 20 = -1
theorem fM_r (σ : mS) : fM σ σ := ⟨fun _ _ _ _ _ _ _ => rfl, fun _ _ _ _ => rfl, rfl⟩
theorem fM_a {σ τ : mS} (h : fM σ τ) {a : Nat} (ha : a < 26 ∨ (26 < a ∧ a < 54)) : τ.1 a = σ.1 a := h.1 a (by omega) (by omega) (by omega) (by omega) (by omega) (by omega)
theorem fM_D {σ τ : mS} (h : fM σ τ) : DM τ = DM σ := by
  rw [DM, DM, h.2.2, fM_a h (a := 32) (by omega), fM_a h (a := 34) (by omega), fM_a h (a := 36) (by omega), fM_a h (a := 37) (by omega), fM_a h (a := 38) (by omega), fM_a h (a := 39) (by omega), fM_a h (a := 40) (by omega), fM_a h (a := 41) (by omega)]
theorem fM_V {σ τ : mS} (h : fM σ τ) (hV : sV σ) : sV τ := by rw [sV, fM_D h]; exact hV
theorem fM_p {σ τ : mS} (h : fM σ τ) {k : Nat} (x : Int32) (hk : k = 18 ∨ k = 19 ∨ k = 20) : fM σ (mPI τ 26 k x) := by
  refine ⟨fun a h1 h2 h3 h4 h5 h6 => ?_, fun c h1 h2 h3 => ?_, h.2.2⟩
  · rw [mPI_ne h1]; exact h.1 a h1 h2 h3 h4 h5 h6
  · rw [mPI_at, if_neg (by omega)]; exact h.2.1 c h1 h2 h3
theorem fM_S {σ τ ρ : mS} (h : fM σ τ) (g : fS_54 τ ρ) : fM σ ρ := by
  refine ⟨fun a h1 h2 h3 h4 h5 h6 => ?_, fun c h1 h2 h3 => ?_, by rw [g.2]; exact h.2.2⟩
  · rw [g.1 a h2 h3 h4 h5 h6]; exact h.1 a h1 h2 h3 h4 h5 h6
  · rw [g.1 26 (by decide) (by decide) (by decide) (by decide) (by decide)]; exact h.2.1 c h1 h2 h3
theorem is_m1 {k : Nat} (h : k < 40) : decide (nI k = -1) = false := decide_eq_false (nI_m1 (by omega))
theorem is_nI {k i : Nat} (h : k < 40) (hi : i < 64) : decide (nI k = nI i) = decide (k = i) := by rw [decide_eq_decide, nI_eq (by omega) (by omega)]
theorem coM_0 {σ : mS} (h : sV σ) (h1 : σ.1 26 18 = -1) (h2 : σ.1 26 19 = -1) : agr (dn (DM σ)) (coM σ) (coD (DM σ) noS) := by
  intro k hk
  have h40 := h.2.1
  rw [coM, coD, coD, oneS, h1, h2, is_m1 (by omega), noS]; rfl
theorem coM_1 {σ : mS} (h : sV σ) {i : Nat} (hi : i < 64) (h1 : σ.1 26 18 = nI i) (h2 : σ.1 26 19 = -1) : agr (dn (DM σ)) (coM σ) (coD (DM σ) (one1 i)) := by
  intro k hk
  have h40 := h.2.1
  rw [coM, coD, coD, oneS, h1, h2, is_m1 (by omega), is_nI (by omega) hi, one1, Bool.or_false]
theorem coM_2 {σ : mS} (h : sV σ) {i j : Nat} (hi : i < 64) (hj : j < 64) (h1 : σ.1 26 18 = nI i) (h2 : σ.1 26 19 = nI j) : agr (dn (DM σ)) (coM σ) (coD (DM σ) (two2 i j)) := by
  intro k hk
  have h40 := h.2.1
  rw [coM, coD, coD, oneS, h1, h2, is_nI (by omega) hi, is_nI (by omega) hj, two2]
theorem hiM_0 {σ : mS} (h : sV σ) (h1 : σ.1 26 20 = -1) : agr (dn (DM σ)) (hiM σ) noS := by
  intro k hk
  have h40 := h.2.1
  rw [hiM, h1, is_m1 (by omega), noS]
theorem hiM_1 {σ : mS} (h : sV σ) {i : Nat} (hi : i < 64) (h1 : σ.1 26 20 = nI i) : agr (dn (DM σ)) (hiM σ) (one1 i) := by
  intro k hk
  have h40 := h.2.1
  rw [hiM, h1, is_nI (by omega) hi, one1]
theorem S_standM {Γ : Nat × (Nat → Int32)} {d : Nat} {Q : mQ} {σ τ : mS} {S H : Nat → Bool} (h : sV σ) (hF : fM σ τ) (hc : agr (dn (DM σ)) (coM τ) (coD (DM σ) S)) (hh : agr (dn (DM σ)) (hiM τ) H)
    (hQ : ∀ ρ r, fM σ ρ → ρ.1 26 = τ.1 26 → agr (dn (DM σ)) (ρ.1 54) (stF (DM σ) (coD (DM σ) S) H) → Q (.inl (some (.int r))) 60 mSH ρ) : mCall Γ M_X9_stand (d + 3) 0 0 [.ref 26, .ref 54, .ref 55] 60 mSH τ Q := by
  refine S_stand_54 (fM_V hF h) (fun ρ g hk => ?_)
  refine hQ ρ _ (fM_S hF g) (g.1 26 (by decide) (by decide) (by decide) (by decide) (by decide)) (fun k hk' => ?_)
  rw [fM_D hF] at hk
  rw [(hk k hk').1, stF_congr h hc hh]
theorem S_leadM {Γ : Nat × (Nat → Int32)} {d : Nat} {Q : mQ} {σ ρ : mS} {S H : Nat → Bool} (p : Nat) (h : sV σ) (hF : fM σ ρ) (hc : agr (dn (DM σ)) (coM ρ) (coD (DM σ) S)) (hb : agr (dn (DM σ)) (ρ.1 54) (stF (DM σ) (coD (DM σ) S) H)) (hp : p < ds (DM σ))
    (hQ : Q (.inl (some (.int (dSup (DM σ) S H p)))) 60 mSH ρ) : mCall Γ M_X9_lead (d + 3) 0 0 [.ref 26, .int (nI p), .ref 54] 60 mSH ρ Q := by
  refine S_lead_54 p (fM_V hF h) (by rw [fM_D hF]; exact hp) ?_
  rw [fM_D hF, dLead_congr h hc hb]
  exact hQ
theorem coM_26 {τ ρ : mS} (h : ρ.1 26 = τ.1 26) (hD : DM ρ = DM τ) : coM ρ = coM τ := by
  have : oneS ρ = oneS τ := by funext k; rw [oneS, oneS, h]
  rw [coM, coM, hD, this]
theorem S_leadWith {Γ : Nat × (Nat → Int32)} {d : Nat} {Q : mQ} {σ τ : mS} (i p : Nat) (h : sV σ) (hF : fM σ τ) (hr : hM τ) (hi : i < dn (DM σ)) (hp : p < ds (DM σ))
    (hQ : ∀ ρ, fM σ ρ → hM ρ → Q (.inl (some (.int (dSup (DM σ) (one1 i) noS p)))) 60 mSH ρ) : mCall Γ M_X9_leadWith (d + 4) 0 0 [.ref 26, .int (nI i), .int (nI p)] 60 mSH τ Q := by
  have h40 := h.2.1
  have hF1 := fM_p hF (nI i) (k := 18) (by omega)
  have hV1 := fM_V hF1 h
  have a18 : (mPI τ 26 18 (nI i)).1 26 18 = nI i := by rw [mPI_at, if_pos rfl]
  have a19 : (mPI τ 26 18 (nI i)).1 26 19 = -1 := by rw [mPI_at, if_neg (by decide)]; exact hr.2.1
  have a20 : (mPI τ 26 18 (nI i)).1 26 20 = -1 := by rw [mPI_at, if_neg (by decide)]; exact hr.2.2
  have hc := coM_1 hV1 (show i < 64 by omega) a18 a19
  have hh := hiM_0 hV1 a20
  rw [fM_D hF1] at hc hh
  refine E_X9_leadWith_26 (nI i) (nI p) ?_
  refine S_standM h hF1 hc hh (fun ρ r g e hb => ?_)
  refine T_X9_leadWith_26_17a _ _ _ ?_
  refine S_leadM p h g (by rw [coM_26 e (by rw [fM_D g, fM_D hF1])]; exact hc) hb hp ?_
  refine T_X9_leadWith_26_27a _ _ _ ?_
  refine hQ _ (fM_p g _ (by omega)) ⟨by rw [mPI_at, if_pos rfl], ?_, ?_⟩
  · rw [mPI_at, if_neg (by decide), e]; exact a19
  · rw [mPI_at, if_neg (by decide), e]; exact a20
