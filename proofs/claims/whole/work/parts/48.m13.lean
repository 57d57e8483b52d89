/-! ===== frees, conceding, in the model ===== -/
theorem S_isFree {Γ : Nat × (Nat → Int32)} {d : Nat} {Q : mQ} {σ τ : mS} {S : Nat → Bool} (x : Nat) (h : sV σ) (hF : fM σ τ) (hc : agr (dn (DM σ)) (coM τ) (coD (DM σ) S)) (h20 : τ.1 26 20 = -1) (hx : x < dn (DM σ))
    (hQ : ∀ ρ, fM σ ρ → ρ.1 26 = τ.1 26 → ∀ r : Int32, ((r = 1 ∧ stF (DM σ) (coD (DM σ) S) noS x = 1) ∨ (r = 0 ∧ stF (DM σ) (coD (DM σ) S) noS x ≠ 1)) → Q (.inl (some (.int r))) 60 mSH ρ) :
    mCall Γ M_X9_isFree (d + 4) 0 0 [.ref 26, .int (nI x)] 60 mSH τ Q := by
  have h40 := h.2.1
  have hh := hiM_0 (fM_V hF h) h20
  rw [fM_D hF] at hh
  refine E_X9_isFree_26 (nI x) ?_
  refine S_standM h hF hc hh (fun ρ r g e hb => ?_)
  refine T_X9_isFree_26_12a _ _ ⟨vp_in_nI (by omega) (by omega), ?_⟩
  rw [nI_clamp (by omega), hb x hx]
  exact ⟨fun c => hQ ρ g e 1 (.inl ⟨rfl, c⟩), fun c => hQ ρ g e 0 (.inr ⟨rfl, c⟩)⟩
/-- the store after the two loops' counters have been set -/
theorem mPI_26 (σ : mS) (k : Nat) (x : Int32) (j : Nat) : (mPI σ 26 k x).1 26 j = if j = k then x else σ.1 26 j := mPI_at ..
theorem L_freed3 {Γ : Nat × (Nat → Int32)} {d n0 bc bs : Nat} {Q : mQ} {σ : mS} {x i : Nat} (h : sV σ) (hx : x < dn (DM σ)) (hi : i < dn (DM σ)) :
    ∀ m j, j + m = dn (DM σ) → (∀ r, pfI (DM σ) x i j m = some r → ∀ τ, fM σ τ → τ.1 26 20 = -1 → Q (.inl (some (.int r))) 60 mSH τ) →
    (pfI (DM σ) x i j m = none → ∀ τ, fM σ τ → τ.1 26 20 = -1 → τ.1 26 18 = nI (i + 1) → mK Γ M_X9_freed (d + 5) Q n0 bc bs 60 [(0, .ref 26), (1, .int (nI x))] [] 60 mSH τ) →
    ∀ τ, fM σ τ → τ.1 26 20 = -1 → τ.1 26 18 = nI i → τ.1 26 19 = nI j →
    mK Γ M_X9_freed (d + 5) Q n0 bc bs 84 [(0, .ref 26), (1, .int (nI x))] [] 60 mSH τ
  | 0, j, hm, hS, hN, τ, hF, h20, h18, h19 => by
    have h40 := h.2.1
    have hV' := fM_V hF h
    refine T_X9_freed_26_84 _ ⟨fun _ => ?_, fun c => absurd (by rw [sV_n hV', fM_D hF, h19]; exact nI_le (by omega) (by omega)) c⟩
    refine hN rfl _ (fM_p hF _ (by omega)) ?_ ?_
    · rw [mPI_26, if_neg (by decide)]; exact h20
    · rw [mPI_26, if_pos rfl, h18, nI_1]
  | m + 1, j, hm, hS, hN, τ, hF, h20, h18, h19 => by
    have h40 := h.2.1
    have hV' := fM_V hF h
    rw [pfI] at hS hN
    have nx : ∀ ρ, fM σ ρ → ρ.1 26 = τ.1 26 → fM σ (mPI ρ 26 19 (ρ.1 26 19 + 1)) ∧ (mPI ρ 26 19 (ρ.1 26 19 + 1)).1 26 20 = -1 ∧ (mPI ρ 26 19 (ρ.1 26 19 + 1)).1 26 18 = nI i ∧ (mPI ρ 26 19 (ρ.1 26 19 + 1)).1 26 19 = nI (j + 1) := fun ρ g e => by
      refine ⟨fM_p g _ (by omega), ?_, ?_, ?_⟩
      · rw [mPI_26, if_neg (by decide), e]; exact h20
      · rw [mPI_26, if_neg (by decide), e]; exact h18
      · rw [mPI_26, if_pos rfl, e, h19, nI_1]
    refine T_X9_freed_26_84 _ ⟨fun c => absurd c (by rw [sV_n hV', fM_D hF, h19]; exact nI_ge (by omega) (by omega)), fun _ => ⟨fun c => ?_, fun c => ⟨fun c2 => ?_, fun c2 => ?_⟩⟩⟩
    · rw [h18, nI_eq (by omega) (by omega)] at c
      rw [if_pos c] at hS hN
      obtain ⟨a, b, c', e⟩ := nx τ hF rfl
      exact L_freed3 h hx hi m (j + 1) (by omega) hS hN _ a b c' e
    · rw [h18, nI_eq (by omega) (by omega)] at c
      rw [h19, nI_eq (by omega) (by omega)] at c2
      rw [if_neg c, if_pos c2] at hS hN
      obtain ⟨a, b, c', e⟩ := nx τ hF rfl
      exact L_freed3 h hx hi m (j + 1) (by omega) hS hN _ a b c' e
    · rw [h18, nI_eq (by omega) (by omega)] at c
      rw [h19, nI_eq (by omega) (by omega)] at c2
      rw [if_neg c, if_neg c2] at hS hN
      have hc := coM_2 hV' (show i < 64 by omega) (show j < 64 by omega) h18 h19
      rw [fM_D hF] at hc
      refine S_isFree x h hF hc h20 hx (fun ρ g e r hr => ?_)
      rcases hr with ⟨rfl, w⟩ | ⟨rfl, w⟩
      · rw [if_pos w] at hS
        refine T_X9_freed_26_119a _ _ ⟨fun q => absurd q (by decide), fun _ => ?_⟩
        rw [e, h18, h19]
        exact hS _ rfl ρ g (by rw [e]; exact h20)
      · rw [if_neg w] at hS hN
        refine T_X9_freed_26_119a _ _ ⟨fun _ => ?_, fun q => absurd rfl q⟩
        obtain ⟨a, b, c', e⟩ := nx ρ g e
        exact L_freed3 h hx hi m (j + 1) (by omega) hS hN _ a b c' e
theorem L_freed2 {Γ : Nat × (Nat → Int32)} {d n0 bc bs : Nat} {Q : mQ} {σ : mS} {x : Nat} (h : sV σ) (hx : x < dn (DM σ)) :
    ∀ m i, i + m = dn (DM σ) → (∀ τ, fM σ τ → τ.1 26 20 = -1 → Q (.inl (some (.int (pfO (DM σ) x i m)))) 60 mSH τ) →
    ∀ τ, fM σ τ → τ.1 26 20 = -1 → τ.1 26 18 = nI i →
    mK Γ M_X9_freed (d + 5) Q n0 bc bs 60 [(0, .ref 26), (1, .int (nI x))] [] 60 mSH τ
  | 0, i, hm, hQ, τ, hF, h20, h18 => by
    have h40 := h.2.1
    have hV' := fM_V hF h
    exact T_X9_freed_26_60 _ ⟨fun _ => hQ τ hF h20, fun c => absurd (by rw [sV_n hV', fM_D hF, h18]; exact nI_le (by omega) (by omega)) c⟩
  | m + 1, i, hm, hQ, τ, hF, h20, h18 => by
    have h40 := h.2.1
    have hV' := fM_V hF h
    rw [pfO] at hQ
    refine T_X9_freed_26_60 _ ⟨fun c => absurd c (by rw [sV_n hV', fM_D hF, h18]; exact nI_ge (by omega) (by omega)), fun _ => ?_⟩
    refine L_freed3 h hx (show i < dn (DM σ) by omega) m (i + 1) (by omega) (fun r hr ρ g k20 => ?_) (fun hr ρ g k20 k18 => ?_) _ (fM_p hF _ (by omega)) ?_ ?_ ?_
    · rw [hr] at hQ; exact hQ ρ g k20
    · rw [hr] at hQ; exact L_freed2 h hx m (i + 1) (by omega) hQ ρ g k20 k18
    · rw [mPI_26, if_neg (by decide)]; exact h20
    · rw [mPI_26, if_neg (by decide)]; exact h18
    · rw [mPI_26, if_pos rfl, h18, nI_1]
/-- frees, once the item is not in -/
noncomputable def frG (D : mDeb) (x i m : Nat) : Int32 := if ofF D x i m = -1 then pfO D x 0 (dn D) else 1 + ofF D x i m
noncomputable def frN (D : mDeb) (b : Nat → Int32) (x : Nat) : Int32 := if b x = 1 then 0 else frG D x 0 (dn D)
theorem L_freed1 {Γ : Nat × (Nat → Int32)} {d n0 bc bs : Nat} {Q : mQ} {σ : mS} {x : Nat} (h : sV σ) (hx : x < dn (DM σ)) :
    ∀ m i, i + m = dn (DM σ) → (∀ τ, fM σ τ → τ.1 26 20 = -1 → Q (.inl (some (.int (frG (DM σ) x i m)))) 60 mSH τ) →
    ∀ τ, fM σ τ → τ.1 26 20 = -1 → τ.1 26 19 = -1 → τ.1 26 18 = nI i →
    mK Γ M_X9_freed (d + 5) Q n0 bc bs 5 [(0, .ref 26), (1, .int (nI x))] [] 60 mSH τ
  | 0, i, hm, hQ, τ, hF, h20, h19, h18 => by
    have h40 := h.2.1
    have hV' := fM_V hF h
    rw [frG, ofF, if_pos rfl] at hQ
    refine T_X9_freed_26_5 _ ⟨fun _ => ?_, fun c => absurd (by rw [sV_n hV', fM_D hF, h18]; exact nI_le (by omega) (by omega)) c⟩
    refine L_freed2 h hx (dn (DM σ)) 0 (Nat.zero_add _) hQ _ (fM_p hF _ (by omega)) ?_ ?_
    · rw [mPI_26, if_neg (by decide)]; exact h20
    · rw [mPI_26, if_pos rfl]; rfl
  | m + 1, i, hm, hQ, τ, hF, h20, h19, h18 => by
    have h40 := h.2.1
    have hV' := fM_V hF h
    rw [frG, ofF] at hQ
    have nx : ∀ ρ, fM σ ρ → ρ.1 26 = τ.1 26 → fM σ (mPI ρ 26 18 (ρ.1 26 18 + 1)) ∧ (mPI ρ 26 18 (ρ.1 26 18 + 1)).1 26 20 = -1 ∧ (mPI ρ 26 18 (ρ.1 26 18 + 1)).1 26 19 = -1 ∧ (mPI ρ 26 18 (ρ.1 26 18 + 1)).1 26 18 = nI (i + 1) := fun ρ g e => by
      refine ⟨fM_p g _ (by omega), ?_, ?_, ?_⟩
      · rw [mPI_26, if_neg (by decide), e]; exact h20
      · rw [mPI_26, if_neg (by decide), e]; exact h19
      · rw [mPI_26, if_pos rfl, e, h18, nI_1]
    refine T_X9_freed_26_5 _ ⟨fun c => absurd c (by rw [sV_n hV', fM_D hF, h18]; exact nI_ge (by omega) (by omega)), fun _ => ⟨fun c => ?_, fun c => ?_⟩⟩
    · rw [h18, nI_eq (by omega) (by omega)] at c
      rw [if_pos c] at hQ
      obtain ⟨a, b, c', e⟩ := nx τ hF rfl
      exact L_freed1 h hx m (i + 1) (by omega) hQ _ a b c' e
    · rw [h18, nI_eq (by omega) (by omega)] at c
      rw [if_neg c] at hQ
      have hc := coM_1 hV' (show i < 64 by omega) h18 h19
      rw [fM_D hF] at hc
      refine S_isFree x h hF hc h20 hx (fun ρ g e r hr => ?_)
      rcases hr with ⟨rfl, w⟩ | ⟨rfl, w⟩
      · rw [if_pos w, if_neg (nI_m1 (by omega))] at hQ
        refine T_X9_freed_26_32a _ _ ⟨fun q => absurd q (by decide), fun _ => ?_⟩
        rw [e, h18]
        exact hQ ρ g (by rw [e]; exact h20)
      · rw [if_neg w] at hQ
        refine T_X9_freed_26_32a _ _ ⟨fun _ => ?_, fun q => absurd rfl q⟩
        obtain ⟨a, b, c', e⟩ := nx ρ g e
        exact L_freed1 h hx m (i + 1) (by omega) hQ _ a b c' e
theorem S_freesM {Γ : Nat × (Nat → Int32)} {d : Nat} {Q : mQ} {σ : mS} (x : Nat) (h : sV σ) (hr : hM σ) (hx : x < dn (DM σ))
    (hQ : ∀ τ, fM (th σ 0) τ → hM τ → Q (.inl (some (.int (frN (DM σ) (σ.1 52) x)))) 60 mSH τ) :
    mCall Γ M_X9_frees (d + 6) 0 0 [.ref 26, .int (nI x)] 60 mSH σ Q := by
  have h40 := h.2.1
  have hr0 := th_h hr 0
  refine E_X9_frees_26 (nI x) ⟨isIn01 _ _ _ _, fun c => ?_, fun _ => ⟨vp_in_nI (by omega) (by omega), fun c => ?_, fun c => ?_⟩⟩
  · have := m_isIt1 (th_V h 0) hx
    rw [show mPI σ 26 0 0 = th σ 0 from rfl, this] at c
    exact absurd c (by decide)
  · rw [nI_clamp (by omega)] at c
    rw [frN, if_pos c] at hQ
    exact hQ _ (fM_r _) hr0
  · rw [nI_clamp (by omega)] at c
    rw [frN, if_neg c] at hQ
    refine E_X9_freed_26 (nI x) ?_
    refine L_freed1 (σ := th σ 0) (Q := mRt Γ M_X9_frees (d + 6) Q 60 0 0 36 [(0, .ref 26), (1, .int (nI x))] []) (th_V h 0) hx (dn (DM σ)) 0 (Nat.zero_add _) (fun τ g k20 => ?_) _ (fM_p (fM_r _) _ (by omega)) ?_ ?_ ?_
    · refine T_X9_frees_26_36a _ _ ?_
      refine hQ _ (fM_p (fM_p g _ (by omega)) _ (by omega)) ⟨?_, ?_, ?_⟩
      · rw [mPI_26, if_neg (by decide), mPI_26, if_pos rfl]
      · rw [mPI_26, if_pos rfl]
      · rw [mPI_26, if_neg (by decide), mPI_26, if_neg (by decide)]; exact k20
    · rw [mPI_26, if_neg (by decide)]; exact hr0.2.2
    · rw [mPI_26, if_neg (by decide)]; exact hr0.2.1
    · rw [mPI_26, if_pos rfl]; rfl
theorem S_freesM_x {Γ : Nat × (Nat → Int32)} {d : Nat} {Q : mQ} {σ : mS} (x : Int32) (h : sV σ) (hx : ∀ k, k < dn (DM σ) → x ≠ nI k)
    (hQ : Q (.inl (some (.int 0))) 60 mSH (th σ 1)) : mCall Γ M_X9_frees (d + 6) 0 0 [.ref 26, .int x] 60 mSH σ Q := by
  have e := m_isIt0 (th_V h 0) hx
  refine E_X9_frees_26 x ⟨isIn01 _ _ _ _, fun _ => ?_, fun c => absurd e c⟩
  show Q (.inl (some (.int 0))) 60 mSH (th (th σ 0) 1)
  rw [th_th]; exact hQ
theorem S_concedingM {Γ : Nat × (Nat → Int32)} {d : Nat} {Q : mQ} {σ : mS} (i p : Nat) (h : sV σ) (hr : hM σ) (hi : i < dn (DM σ)) (hp : p < ds (DM σ))
    (hQ : ∀ τ, fM (th σ 0) τ → hM τ → Q (.inl (some (.int (dSup (DM σ) (one1 i) noS p)))) 60 mSH τ) :
    mCall Γ M_X9_conceding (d + 6) 0 0 [.ref 26, .int (nI i), .int (nI p)] 60 mSH σ Q := by
  have e1 := m_isIt1 (th_V h 0) hi
  have e2 := m_isSp1 (th_V h 0) hp
  refine E_X9_conceding_26 (nI i) (nI p) ⟨isIn01 _ _ _ _, fun c => ?_, fun _ => ⟨isIn01 _ _ _ _, fun c => ?_, fun _ => ?_⟩⟩
  · rw [show mPI σ 26 0 0 = th σ 0 from rfl, e1] at c
    exact absurd c (by decide)
  · rw [show mPI σ 26 0 0 = th σ 0 from rfl, e2] at c
    exact absurd c (by decide)
  · refine S_leadWith (σ := th σ 0) i p (th_V h 0) (fM_r _) (th_h hr 0) hi hp (fun ρ g hr' => ?_)
    exact T_X9_conceding_26_33a _ _ _ (hQ ρ g hr')
theorem S_concedingM_x {Γ : Nat × (Nat → Int32)} {d : Nat} {Q : mQ} {σ : mS} (x y : Int32) (h : sV σ) (hx : (∀ k, k < dn (DM σ) → x ≠ nI k) ∨ ∀ k, k < ds (DM σ) → y ≠ nI k)
    (hQ : Q (.inl (some (.int 0))) 60 mSH (th σ 1)) : mCall Γ M_X9_conceding (d + 6) 0 0 [.ref 26, .int x, .int y] 60 mSH σ Q := by
  have hq : Q (.inl (some (.int 0))) 60 mSH (th (th σ 0) 1) := by rw [th_th]; exact hQ
  refine E_X9_conceding_26 x y ⟨isIn01 _ _ _ _, fun _ => hq, fun c => ⟨isIn01 _ _ _ _, fun _ => hq, fun c2 => ?_⟩⟩
  rcases hx with q | q
  · exact absurd (m_isIt0 (th_V h 0) q) c
  · exact absurd (m_isSp0 (th_V h 0) q) c2
