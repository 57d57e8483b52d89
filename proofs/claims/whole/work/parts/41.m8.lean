/-! ===== stand: a round ===== -/
noncomputable def fdR (σ : mS) (j k : Nat) : Int32 := if stB (DM σ) (coM σ) (hiM σ) j k = 0 then sFinds (DM σ) (coM σ) (hiM σ) (stB (DM σ) (coM σ) (hiM σ) j) k else 0
/-- into and rounded are those of round j; the chains stand -/
def rJ_52 (σ τ : mS) (j : Nat) : Prop := fS_52 σ τ ∧ (∀ a, a < dn (DM σ) → dst (DM σ) a = true → τ.1 57 a = nxA (DM σ) (uN (dt (DM σ) a)) (a + 1) (dn (DM σ) - a - 1)) ∧ (∀ k, k < dn (DM σ) → τ.1 56 k = nxA (DM σ) k 0 (dn (DM σ))) ∧ ∀ k, k < dn (DM σ) → τ.1 52 k = stB (DM σ) (coM σ) (hiM σ) j k ∧ τ.1 53 k = stN (DM σ) (coM σ) (hiM σ) j k
theorem L_st3_52 {Γ : Nat × (Nat → Int32)} {d n0 bc bs j : Nat} {Q : mQ} {σ : mS} (h : sV σ)
    (hX : ∀ τ, rJ_52 σ τ j → (∀ k, k < dn (DM σ) → τ.1 58 k = fdR σ j k) → mK Γ M_X9_stand (d + 3) Q n0 bc bs 157 [(0, .ref 26), (1, .ref 52), (2, .ref 53), (3, .int (nI j)), (4, .int 0), (5, .int 0)] [] 60 mSH τ) :
    ∀ m i, i + m = dn (DM σ) → ∀ τ, rJ_52 σ τ j → (∀ k, k < i → τ.1 58 k = fdR σ j k) →
    mK Γ M_X9_stand (d + 3) Q n0 bc bs 111 [(0, .ref 26), (1, .ref 52), (2, .ref 53), (3, .int (nI j)), (4, .int 0), (5, .int (nI i))] [] 60 mSH τ
  | 0, i, hm, τ, hR, hJ => by
    have h40 := h.2.1
    have hV' := fS_V_52 hR.1 h
    refine T_X9_stand_26_52_53_111 _ _ _ ⟨fun _ => hX τ hR (fun k hk => hJ k (by omega)), fun c => absurd (by rw [sV_n hV', fS_D_52 hR.1]; exact nI_le (by omega) (by omega)) c⟩
  | m + 1, i, hm, τ, hR, hJ => by
    have h40 := h.2.1
    have hV' := fS_V_52 hR.1 h
    have hD := fS_D_52 hR.1
    have hc := fS_c_52 hR.1
    have hi : i < dn (DM σ) := by omega
    have hput : ∀ x, x = fdR σ j i → rJ_52 σ (mPI τ 58 i x) j ∧ ∀ k, k < i + 1 → (mPI τ 58 i x).1 58 k = fdR σ j k := by
      intro x hx
      refine ⟨⟨fS_p_52 hR.1 (by omega), fun a h1 h2 => ?_, fun k hk => ?_, fun k hk => ?_⟩, fun k hk => ?_⟩
      · rw [mPI_ne (by decide)]; exact hR.2.1 a h1 h2
      · rw [mPI_ne (by decide)]; exact hR.2.2.1 k hk
      · rw [mPI_ne (by decide), mPI_ne (by decide)]; exact hR.2.2.2 k hk
      · rw [mPI_at]
        by_cases e : k = i
        · rw [if_pos e, e]; exact hx
        · rw [if_neg e]; exact hJ k (by omega)
    refine T_X9_stand_26_52_53_111 _ _ _ ⟨fun c => absurd c (by rw [sV_n hV', hD]; exact nI_ge (by omega) (by omega)), fun _ => ⟨vp_in_nI (by omega) (by omega), ?_⟩⟩
    rw [nI_clamp (by omega), (hR.2.2.2 i hi).1]
    refine ⟨fun c => ?_, fun c => ?_⟩
    · refine S_finds_52 i hV' (by rw [hD]; exact hi) (fun a h1 h2 => by rw [hD] at h1 h2 ⊢; exact hR.2.1 a h1 h2) (by rw [hD]; exact hR.2.2.1 i hi) ?_
      refine T_X9_stand_26_52_53_143a _ _ _ _ _ ⟨vp_in_nI (by omega) (by omega), ?_⟩
      rw [nI_clamp (by omega), nI_1]
      have hx := hput (sFinds (DM τ) (coM τ) (hiM τ) (τ.1 52) i) (by
        rw [fdR, if_pos c, hD, hc.1, hc.2]
        exact sFinds_congr h (fun k hk => (hR.2.2.2 k hk).1) hi)
      exact L_st3_52 h hX m (i + 1) (by omega) _ hx.1 hx.2
    · rw [nI_1]
      have hx := hput 0 (by rw [fdR, if_neg c])
      exact L_st3_52 h hX m (i + 1) (by omega) _ hx.1 hx.2
/-- into and rounded are those of round j; the chains stand -/
def rJ_54 (σ τ : mS) (j : Nat) : Prop := fS_54 σ τ ∧ (∀ a, a < dn (DM σ) → dst (DM σ) a = true → τ.1 57 a = nxA (DM σ) (uN (dt (DM σ) a)) (a + 1) (dn (DM σ) - a - 1)) ∧ (∀ k, k < dn (DM σ) → τ.1 56 k = nxA (DM σ) k 0 (dn (DM σ))) ∧ ∀ k, k < dn (DM σ) → τ.1 54 k = stB (DM σ) (coM σ) (hiM σ) j k ∧ τ.1 55 k = stN (DM σ) (coM σ) (hiM σ) j k
theorem L_st3_54 {Γ : Nat × (Nat → Int32)} {d n0 bc bs j : Nat} {Q : mQ} {σ : mS} (h : sV σ)
    (hX : ∀ τ, rJ_54 σ τ j → (∀ k, k < dn (DM σ) → τ.1 58 k = fdR σ j k) → mK Γ M_X9_stand (d + 3) Q n0 bc bs 157 [(0, .ref 26), (1, .ref 54), (2, .ref 55), (3, .int (nI j)), (4, .int 0), (5, .int 0)] [] 60 mSH τ) :
    ∀ m i, i + m = dn (DM σ) → ∀ τ, rJ_54 σ τ j → (∀ k, k < i → τ.1 58 k = fdR σ j k) →
    mK Γ M_X9_stand (d + 3) Q n0 bc bs 111 [(0, .ref 26), (1, .ref 54), (2, .ref 55), (3, .int (nI j)), (4, .int 0), (5, .int (nI i))] [] 60 mSH τ
  | 0, i, hm, τ, hR, hJ => by
    have h40 := h.2.1
    have hV' := fS_V_54 hR.1 h
    refine T_X9_stand_26_54_55_111 _ _ _ ⟨fun _ => hX τ hR (fun k hk => hJ k (by omega)), fun c => absurd (by rw [sV_n hV', fS_D_54 hR.1]; exact nI_le (by omega) (by omega)) c⟩
  | m + 1, i, hm, τ, hR, hJ => by
    have h40 := h.2.1
    have hV' := fS_V_54 hR.1 h
    have hD := fS_D_54 hR.1
    have hc := fS_c_54 hR.1
    have hi : i < dn (DM σ) := by omega
    have hput : ∀ x, x = fdR σ j i → rJ_54 σ (mPI τ 58 i x) j ∧ ∀ k, k < i + 1 → (mPI τ 58 i x).1 58 k = fdR σ j k := by
      intro x hx
      refine ⟨⟨fS_p_54 hR.1 (by omega), fun a h1 h2 => ?_, fun k hk => ?_, fun k hk => ?_⟩, fun k hk => ?_⟩
      · rw [mPI_ne (by decide)]; exact hR.2.1 a h1 h2
      · rw [mPI_ne (by decide)]; exact hR.2.2.1 k hk
      · rw [mPI_ne (by decide), mPI_ne (by decide)]; exact hR.2.2.2 k hk
      · rw [mPI_at]
        by_cases e : k = i
        · rw [if_pos e, e]; exact hx
        · rw [if_neg e]; exact hJ k (by omega)
    refine T_X9_stand_26_54_55_111 _ _ _ ⟨fun c => absurd c (by rw [sV_n hV', hD]; exact nI_ge (by omega) (by omega)), fun _ => ⟨vp_in_nI (by omega) (by omega), ?_⟩⟩
    rw [nI_clamp (by omega), (hR.2.2.2 i hi).1]
    refine ⟨fun c => ?_, fun c => ?_⟩
    · refine S_finds_54 i hV' (by rw [hD]; exact hi) (fun a h1 h2 => by rw [hD] at h1 h2 ⊢; exact hR.2.1 a h1 h2) (by rw [hD]; exact hR.2.2.1 i hi) ?_
      refine T_X9_stand_26_54_55_143a _ _ _ _ _ ⟨vp_in_nI (by omega) (by omega), ?_⟩
      rw [nI_clamp (by omega), nI_1]
      have hx := hput (sFinds (DM τ) (coM τ) (hiM τ) (τ.1 54) i) (by
        rw [fdR, if_pos c, hD, hc.1, hc.2]
        exact sFinds_congr h (fun k hk => (hR.2.2.2 k hk).1) hi)
      exact L_st3_54 h hX m (i + 1) (by omega) _ hx.1 hx.2
    · rw [nI_1]
      have hx := hput 0 (by rw [fdR, if_neg c])
      exact L_st3_54 h hX m (i + 1) (by omega) _ hx.1 hx.2
