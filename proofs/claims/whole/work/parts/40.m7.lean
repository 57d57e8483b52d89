/-! ===== stand ===== -/
theorem mPI_at (σ : mS) (j k : Nat) (x : Int32) (c : Nat) : (mPI σ j k x).1 j c = if c = k then x else σ.1 j c := by
  show mU2 σ.1 j k x j c = _
  rw [mU2_eq]
theorem mPI_ne {σ : mS} {j k a : Nat} {x : Int32} (h : a ≠ j) : (mPI σ j k x).1 a = σ.1 a := mU2_ne h
def fS_52 (σ τ : mS) : Prop := (∀ a, a ≠ 52 → a ≠ 53 → a ≠ 56 → a ≠ 57 → a ≠ 58 → τ.1 a = σ.1 a) ∧ τ.2 = σ.2
theorem fS_D_52 {σ τ : mS} (h : fS_52 σ τ) : DM τ = DM σ := by
  have g : ∀ a, a = 32 ∨ a = 34 ∨ a = 36 ∨ a = 37 ∨ a = 38 ∨ a = 39 ∨ a = 40 ∨ a = 41 → τ.1 a = σ.1 a := fun a ha => h.1 a (by omega) (by omega) (by omega) (by omega) (by omega)
  rw [DM, DM, h.2, g 32 (by omega), g 34 (by omega), g 36 (by omega), g 37 (by omega), g 38 (by omega), g 39 (by omega), g 40 (by omega), g 41 (by omega)]
theorem fS_c_52 {σ τ : mS} (h : fS_52 σ τ) : coM τ = coM σ ∧ hiM τ = hiM σ := by
  have e := h.1 26 (by decide) (by decide) (by decide) (by decide) (by decide)
  have e1 : oneS τ = oneS σ := by funext k; rw [oneS, oneS, e]
  have e2 : hiM τ = hiM σ := by funext k; rw [hiM, hiM, e]
  exact ⟨by rw [coM, coM, fS_D_52 h, e1], e2⟩
theorem fS_V_52 {σ τ : mS} (h : fS_52 σ τ) (hV : sV σ) : sV τ := by rw [sV, fS_D_52 h]; exact hV
theorem fS_p_52 {σ τ : mS} (h : fS_52 σ τ) {j k : Nat} {x : Int32} (hj : j = 52 ∨ j = 53 ∨ j = 56 ∨ j = 57 ∨ j = 58) : fS_52 σ (mPI τ j k x) := by
  refine ⟨fun a h1 h2 h3 h4 h5 => ?_, h.2⟩
  show mU2 τ.1 j k x a = _
  rw [mU2_ne (by omega)]
  exact h.1 a h1 h2 h3 h4 h5
theorem L_st1_52 {Γ : Nat × (Nat → Int32)} {d n0 bc bs : Nat} {Q : mQ} {σ : mS} (h : sV σ)
    (hX : ∀ τ, fS_52 σ τ → (∀ k, k < dn (DM σ) → τ.1 56 k = -1 ∧ τ.1 52 k = 0 ∧ τ.1 53 k = 0) → mK Γ M_X9_stand (d + 3) Q n0 bc bs 44 [(0, .ref 26), (1, .ref 52), (2, .ref 53), (3, .int (nI (dn (DM σ)) - 1))] [] 60 mSH τ) :
    ∀ m i, i + m = dn (DM σ) → ∀ τ, fS_52 σ τ → (∀ k, k < i → τ.1 56 k = -1 ∧ τ.1 52 k = 0 ∧ τ.1 53 k = 0) → mK Γ M_X9_stand (d + 3) Q n0 bc bs 2 [(0, .ref 26), (1, .ref 52), (2, .ref 53), (3, .int (nI i))] [] 60 mSH τ
  | 0, i, hm, τ, hF, hJ => by
    have h40 := h.2.1
    have hV' := fS_V_52 hF h
    refine T_X9_stand_26_52_53_2 _ ⟨fun _ => ?_, fun c => absurd (by rw [sV_n hV', fS_D_52 hF]; exact nI_le (by omega) (by omega)) c⟩
    rw [sV_n hV', fS_D_52 hF]
    exact hX τ hF (fun k hk => hJ k (by omega))
  | m + 1, i, hm, τ, hF, hJ => by
    have h40 := h.2.1
    have hV' := fS_V_52 hF h
    refine T_X9_stand_26_52_53_2 _ ⟨fun c => absurd c (by rw [sV_n hV', fS_D_52 hF]; exact nI_ge (by omega) (by omega)), fun _ => ⟨vp_in_nI (by omega) (by omega), ?_⟩⟩
    rw [nI_clamp (by omega), nI_1]
    refine L_st1_52 h hX m (i + 1) (by omega) _ (fS_p_52 (fS_p_52 (fS_p_52 hF (by omega)) (by omega)) (by omega)) (fun k hk => ?_)
    rw [mPI_ne (by decide), mPI_ne (by decide), mPI_at, mPI_ne (by decide), mPI_at, mPI_at, mPI_ne (by decide), mPI_ne (by decide)]
    by_cases e : k = i
    · rw [if_pos e, if_pos e, if_pos e]; exact ⟨rfl, rfl, rfl⟩
    · rw [if_neg e, if_neg e, if_neg e]; exact hJ k (by omega)
theorem L_st2_52 {Γ : Nat × (Nat → Int32)} {d n0 bc bs : Nat} {Q : mQ} {σ : mS} (h : sV σ)
    (hX : ∀ τ, fS_52 σ τ → (∀ k, k < dn (DM σ) → τ.1 56 k = nxA (DM σ) k 0 (dn (DM σ)) ∧ τ.1 52 k = 0 ∧ τ.1 53 k = 0) → chM τ → mK Γ M_X9_stand (d + 3) Q n0 bc bs 105 [(0, .ref 26), (1, .ref 52), (2, .ref 53), (3, .int 0)] [] 60 mSH τ) :
    ∀ i, i ≤ dn (DM σ) → ∀ τ, fS_52 σ τ → (∀ k, k < dn (DM σ) → τ.1 56 k = nxA (DM σ) k i (dn (DM σ) - i) ∧ τ.1 52 k = 0 ∧ τ.1 53 k = 0) →
    (∀ a, i ≤ a → a < dn (DM σ) → dst (DM σ) a = true → τ.1 57 a = nxA (DM σ) (uN (dt (DM σ) a)) (a + 1) (dn (DM σ) - a - 1)) →
    mK Γ M_X9_stand (d + 3) Q n0 bc bs 44 [(0, .ref 26), (1, .ref 52), (2, .ref 53), (3, .int (nI i - 1))] [] 60 mSH τ
  | 0, hi, τ, hF, hJ, hC => by
    refine T_X9_stand_26_52_53_44 _ ⟨fun _ => ?_, fun c => absurd (by decide) c⟩
    refine hX τ hF (fun k hk => hJ k hk) ?_
    intro a ha hs
    rw [fS_D_52 hF] at ha hs ⊢
    exact hC a (Nat.zero_le a) ha hs
  | j + 1, hi, τ, hF, hJ, hC => by
    have h40 := h.2.1
    have hV' := fS_V_52 hF h
    have hD := fS_D_52 hF
    have hj : j < dn (DM τ) := by rw [hD]; omega
    have hj' : j < dn (DM σ) := by omega
    have hs := m_strong0 hV' hj
    have hn : dn (DM σ) - j = (dn (DM σ) - (j + 1)) + 1 := by omega
    rw [nI_pred]
    refine T_X9_stand_26_52_53_44 _ ⟨fun c => absurd c (nI_pos (by omega)), fun _ => ⟨vp_in_nI (by omega) (by omega), ?_⟩⟩
    rw [nI_clamp (by omega), m_kind hj, m_target hj, hs, ← Int32.sub_eq_add_neg, hD]
    refine ⟨fun k1 => ?_, fun s => ?_, fun s => ?_⟩
    · rcases dV_k0 h hj' with q | ⟨_, t, ht, q⟩
      · rw [q.1] at k1; exact absurd k1 (by decide)
      · rw [q]; exact vp_in_nI (by omega) (by omega)
    · refine L_st2_52 h hX j (by omega) τ hF (fun k hk => ?_) (fun a h1 h2 h3 => ?_)
      · rw [hn, nxA_s, if_neg (fun q => by rw [s] at q; exact absurd q.1 (by decide))]
        exact hJ k hk
      · by_cases e : a = j
        · subst e; rw [s] at h3; cases h3
        · exact hC a (by omega) h2 h3
    · have s1 : dst (DM σ) j = true := Bool.not_eq_false _ ▸ s
      obtain ⟨t, ht, e⟩ := dV_st h hj' s1
      rw [e, nI_clamp (by omega)]
      refine ⟨vp_in_nI (by omega) (by omega), ?_⟩
      refine L_st2_52 h hX j (by omega) _ (fS_p_52 (fS_p_52 hF (by omega)) (by omega)) (fun k hk => ?_) (fun a h1 h2 h3 => ?_)
      · rw [mPI_at, mPI_ne (by decide), mPI_ne (by decide), mPI_ne (by decide), mPI_ne (by decide), mPI_ne (by decide), hn, nxA_s, e]
        refine ⟨?_, (hJ k hk).2⟩
        by_cases z : k = t
        · rw [if_pos z, if_pos ⟨s1, by rw [z]⟩]
        · rw [if_neg z, if_neg (fun q => z (((nI_eq (by omega) (by omega)).mp q.2).symm))]
          exact (hJ k hk).1
      · rw [mPI_ne (by decide), mPI_at]
        by_cases z : a = j
        · rw [if_pos z, z, e, uN_nI (by omega), (hJ t (by omega)).1]
          rw [show dn (DM σ) - (j + 1) = dn (DM σ) - j - 1 by omega]
        · rw [if_neg z]
          exact hC a (by omega) h2 h3
def fS_54 (σ τ : mS) : Prop := (∀ a, a ≠ 54 → a ≠ 55 → a ≠ 56 → a ≠ 57 → a ≠ 58 → τ.1 a = σ.1 a) ∧ τ.2 = σ.2
theorem fS_D_54 {σ τ : mS} (h : fS_54 σ τ) : DM τ = DM σ := by
  have g : ∀ a, a = 32 ∨ a = 34 ∨ a = 36 ∨ a = 37 ∨ a = 38 ∨ a = 39 ∨ a = 40 ∨ a = 41 → τ.1 a = σ.1 a := fun a ha => h.1 a (by omega) (by omega) (by omega) (by omega) (by omega)
  rw [DM, DM, h.2, g 32 (by omega), g 34 (by omega), g 36 (by omega), g 37 (by omega), g 38 (by omega), g 39 (by omega), g 40 (by omega), g 41 (by omega)]
theorem fS_c_54 {σ τ : mS} (h : fS_54 σ τ) : coM τ = coM σ ∧ hiM τ = hiM σ := by
  have e := h.1 26 (by decide) (by decide) (by decide) (by decide) (by decide)
  have e1 : oneS τ = oneS σ := by funext k; rw [oneS, oneS, e]
  have e2 : hiM τ = hiM σ := by funext k; rw [hiM, hiM, e]
  exact ⟨by rw [coM, coM, fS_D_54 h, e1], e2⟩
theorem fS_V_54 {σ τ : mS} (h : fS_54 σ τ) (hV : sV σ) : sV τ := by rw [sV, fS_D_54 h]; exact hV
theorem fS_p_54 {σ τ : mS} (h : fS_54 σ τ) {j k : Nat} {x : Int32} (hj : j = 54 ∨ j = 55 ∨ j = 56 ∨ j = 57 ∨ j = 58) : fS_54 σ (mPI τ j k x) := by
  refine ⟨fun a h1 h2 h3 h4 h5 => ?_, h.2⟩
  show mU2 τ.1 j k x a = _
  rw [mU2_ne (by omega)]
  exact h.1 a h1 h2 h3 h4 h5
theorem L_st1_54 {Γ : Nat × (Nat → Int32)} {d n0 bc bs : Nat} {Q : mQ} {σ : mS} (h : sV σ)
    (hX : ∀ τ, fS_54 σ τ → (∀ k, k < dn (DM σ) → τ.1 56 k = -1 ∧ τ.1 54 k = 0 ∧ τ.1 55 k = 0) → mK Γ M_X9_stand (d + 3) Q n0 bc bs 44 [(0, .ref 26), (1, .ref 54), (2, .ref 55), (3, .int (nI (dn (DM σ)) - 1))] [] 60 mSH τ) :
    ∀ m i, i + m = dn (DM σ) → ∀ τ, fS_54 σ τ → (∀ k, k < i → τ.1 56 k = -1 ∧ τ.1 54 k = 0 ∧ τ.1 55 k = 0) → mK Γ M_X9_stand (d + 3) Q n0 bc bs 2 [(0, .ref 26), (1, .ref 54), (2, .ref 55), (3, .int (nI i))] [] 60 mSH τ
  | 0, i, hm, τ, hF, hJ => by
    have h40 := h.2.1
    have hV' := fS_V_54 hF h
    refine T_X9_stand_26_54_55_2 _ ⟨fun _ => ?_, fun c => absurd (by rw [sV_n hV', fS_D_54 hF]; exact nI_le (by omega) (by omega)) c⟩
    rw [sV_n hV', fS_D_54 hF]
    exact hX τ hF (fun k hk => hJ k (by omega))
  | m + 1, i, hm, τ, hF, hJ => by
    have h40 := h.2.1
    have hV' := fS_V_54 hF h
    refine T_X9_stand_26_54_55_2 _ ⟨fun c => absurd c (by rw [sV_n hV', fS_D_54 hF]; exact nI_ge (by omega) (by omega)), fun _ => ⟨vp_in_nI (by omega) (by omega), ?_⟩⟩
    rw [nI_clamp (by omega), nI_1]
    refine L_st1_54 h hX m (i + 1) (by omega) _ (fS_p_54 (fS_p_54 (fS_p_54 hF (by omega)) (by omega)) (by omega)) (fun k hk => ?_)
    rw [mPI_ne (by decide), mPI_ne (by decide), mPI_at, mPI_ne (by decide), mPI_at, mPI_at, mPI_ne (by decide), mPI_ne (by decide)]
    by_cases e : k = i
    · rw [if_pos e, if_pos e, if_pos e]; exact ⟨rfl, rfl, rfl⟩
    · rw [if_neg e, if_neg e, if_neg e]; exact hJ k (by omega)
theorem L_st2_54 {Γ : Nat × (Nat → Int32)} {d n0 bc bs : Nat} {Q : mQ} {σ : mS} (h : sV σ)
    (hX : ∀ τ, fS_54 σ τ → (∀ k, k < dn (DM σ) → τ.1 56 k = nxA (DM σ) k 0 (dn (DM σ)) ∧ τ.1 54 k = 0 ∧ τ.1 55 k = 0) → chM τ → mK Γ M_X9_stand (d + 3) Q n0 bc bs 105 [(0, .ref 26), (1, .ref 54), (2, .ref 55), (3, .int 0)] [] 60 mSH τ) :
    ∀ i, i ≤ dn (DM σ) → ∀ τ, fS_54 σ τ → (∀ k, k < dn (DM σ) → τ.1 56 k = nxA (DM σ) k i (dn (DM σ) - i) ∧ τ.1 54 k = 0 ∧ τ.1 55 k = 0) →
    (∀ a, i ≤ a → a < dn (DM σ) → dst (DM σ) a = true → τ.1 57 a = nxA (DM σ) (uN (dt (DM σ) a)) (a + 1) (dn (DM σ) - a - 1)) →
    mK Γ M_X9_stand (d + 3) Q n0 bc bs 44 [(0, .ref 26), (1, .ref 54), (2, .ref 55), (3, .int (nI i - 1))] [] 60 mSH τ
  | 0, hi, τ, hF, hJ, hC => by
    refine T_X9_stand_26_54_55_44 _ ⟨fun _ => ?_, fun c => absurd (by decide) c⟩
    refine hX τ hF (fun k hk => hJ k hk) ?_
    intro a ha hs
    rw [fS_D_54 hF] at ha hs ⊢
    exact hC a (Nat.zero_le a) ha hs
  | j + 1, hi, τ, hF, hJ, hC => by
    have h40 := h.2.1
    have hV' := fS_V_54 hF h
    have hD := fS_D_54 hF
    have hj : j < dn (DM τ) := by rw [hD]; omega
    have hj' : j < dn (DM σ) := by omega
    have hs := m_strong0 hV' hj
    have hn : dn (DM σ) - j = (dn (DM σ) - (j + 1)) + 1 := by omega
    rw [nI_pred]
    refine T_X9_stand_26_54_55_44 _ ⟨fun c => absurd c (nI_pos (by omega)), fun _ => ⟨vp_in_nI (by omega) (by omega), ?_⟩⟩
    rw [nI_clamp (by omega), m_kind hj, m_target hj, hs, ← Int32.sub_eq_add_neg, hD]
    refine ⟨fun k1 => ?_, fun s => ?_, fun s => ?_⟩
    · rcases dV_k0 h hj' with q | ⟨_, t, ht, q⟩
      · rw [q.1] at k1; exact absurd k1 (by decide)
      · rw [q]; exact vp_in_nI (by omega) (by omega)
    · refine L_st2_54 h hX j (by omega) τ hF (fun k hk => ?_) (fun a h1 h2 h3 => ?_)
      · rw [hn, nxA_s, if_neg (fun q => by rw [s] at q; exact absurd q.1 (by decide))]
        exact hJ k hk
      · by_cases e : a = j
        · subst e; rw [s] at h3; cases h3
        · exact hC a (by omega) h2 h3
    · have s1 : dst (DM σ) j = true := Bool.not_eq_false _ ▸ s
      obtain ⟨t, ht, e⟩ := dV_st h hj' s1
      rw [e, nI_clamp (by omega)]
      refine ⟨vp_in_nI (by omega) (by omega), ?_⟩
      refine L_st2_54 h hX j (by omega) _ (fS_p_54 (fS_p_54 hF (by omega)) (by omega)) (fun k hk => ?_) (fun a h1 h2 h3 => ?_)
      · rw [mPI_at, mPI_ne (by decide), mPI_ne (by decide), mPI_ne (by decide), mPI_ne (by decide), mPI_ne (by decide), hn, nxA_s, e]
        refine ⟨?_, (hJ k hk).2⟩
        by_cases z : k = t
        · rw [if_pos z, if_pos ⟨s1, by rw [z]⟩]
        · rw [if_neg z, if_neg (fun q => z (((nI_eq (by omega) (by omega)).mp q.2).symm))]
          exact (hJ k hk).1
      · rw [mPI_ne (by decide), mPI_at]
        by_cases z : a = j
        · rw [if_pos z, z, e, uN_nI (by omega), (hJ t (by omega)).1]
          rw [show dn (DM σ) - (j + 1) = dn (DM σ) - j - 1 by omega]
        · rw [if_neg z]
          exact hC a (by omega) h2 h3
