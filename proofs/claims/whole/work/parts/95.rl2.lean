/-! ===== related again behind a text ===== -/
theorem bec_b {σ τ : mS} {D : mDeb} (h : mD σ D) (kd : kD σ τ) : mD (g_X8_become_32_42 τ) D ∧ (∀ a, (a < 32 ∨ 41 < a) → (g_X8_become_32_42 τ).1 a = τ.1 a ∧ (g_X8_become_32_42 τ).2.1 a = τ.2.1 a) ∧ (g_X8_become_32_42 τ).2.2 = τ.2.2 := by
  have h40 := h.1.2.1
  have h6 := h.1.2.2.2.1
  obtain ⟨d1, d2, d3, d4⟩ := kd
  have g0 : (g_X8_become_32_42 τ).1 32 0 = τ.1 42 0 := by simp [g_X8_become_32_42, g_X8_copy_32_44_34, g_X8_copy_32_46_36, g_X8_copy_32_47_37, g_X8_copy_32_48_38, g_X8_copy_32_49_39, g_X8_copy_32_50_40, g_X8_copy_32_51_41, mRowI, mRowL, mPI_if]
  have g3 : (g_X8_become_32_42 τ).1 32 3 = τ.1 42 3 := by simp [g_X8_become_32_42, g_X8_copy_32_44_34, g_X8_copy_32_46_36, g_X8_copy_32_47_37, g_X8_copy_32_48_38, g_X8_copy_32_49_39, g_X8_copy_32_50_40, g_X8_copy_32_51_41, mRowI, mRowL, mPI_if]
  have gi : ∀ k, k < 40 → (g_X8_become_32_42 τ).1 36 k = τ.1 46 k ∧ (g_X8_become_32_42 τ).1 37 k = τ.1 47 k ∧ (g_X8_become_32_42 τ).1 38 k = τ.1 48 k ∧ (g_X8_become_32_42 τ).1 39 k = τ.1 49 k ∧ (g_X8_become_32_42 τ).1 40 k = τ.1 50 k ∧ (g_X8_become_32_42 τ).1 41 k = τ.1 51 k ∧ (g_X8_become_32_42 τ).2.1 35 k = τ.2.1 45 k := fun k hq => by
    simp [g_X8_become_32_42, g_X8_copy_32_44_34, g_X8_copy_32_46_36, g_X8_copy_32_47_37, g_X8_copy_32_48_38, g_X8_copy_32_49_39, g_X8_copy_32_50_40, g_X8_copy_32_51_41, mRowI, mRowL, mPI_if, mPI_2, cpy_at hq]
  have gs : ∀ k, k < 6 → (g_X8_become_32_42 τ).1 34 k = τ.1 44 k ∧ (g_X8_become_32_42 τ).2.1 33 k = τ.2.1 43 k := fun k hq => by
    simp [g_X8_become_32_42, g_X8_copy_32_44_34, g_X8_copy_32_46_36, g_X8_copy_32_47_37, g_X8_copy_32_48_38, g_X8_copy_32_49_39, g_X8_copy_32_50_40, g_X8_copy_32_51_41, mRowI, mRowL, mPI_if, mPI_2, cpy_at hq]
  refine ⟨⟨h.1, ?_⟩, fun a ha => ⟨?_, ?_⟩, rfl⟩
  · rw [← h.2]
    refine DM_of (g3.trans d2) (g0.trans d1) (fun k hk => ?_) (fun k hk => ?_)
    · have hk : k < dn D := by rw [mD_n h, uN_nI (by omega)] at hk; exact hk
      obtain ⟨b1, b2, b3, b4, b5, b6, b7⟩ := gi k (by omega)
      obtain ⟨c1, c2, c3, c4, c5, c6, c7⟩ := d3 k (by omega)
      exact ⟨b1.trans c1, b2.trans c2, b3.trans c3, b4.trans c4, b5.trans c5, b6.trans c6, b7.trans c7⟩
    · have hk : k < ds D := by rw [mD_s h, uN_nI (by omega)] at hk; exact hk
      obtain ⟨b1, b2⟩ := gs k (by omega)
      obtain ⟨c1, c2⟩ := d4 k (by omega)
      exact ⟨b1.trans c1, b2.trans c2⟩
  · have n : ∀ j, 32 ≤ j → j ≤ 41 → a ≠ j := fun j h1 h2 => by omega
    funext k
    simp [g_X8_become_32_42, g_X8_copy_32_44_34, g_X8_copy_32_46_36, g_X8_copy_32_47_37, g_X8_copy_32_48_38, g_X8_copy_32_49_39, g_X8_copy_32_50_40, g_X8_copy_32_51_41, mRowI, mRowL, mPI_if, n]
  · have n : ∀ j, 32 ≤ j → j ≤ 41 → a ≠ j := fun j h1 h2 => by omega
    funext k
    simp [g_X8_become_32_42, g_X8_copy_32_44_34, g_X8_copy_32_46_36, g_X8_copy_32_47_37, g_X8_copy_32_48_38, g_X8_copy_32_49_39, g_X8_copy_32_50_40, g_X8_copy_32_51_41, mRowI, mRowL, mPI_2, n]
def RSD (ρ : mS) (D : mDeb) : Prop := ρ.2.1 16 2 = ρ.2.1 5 11 ∧ ρ.2.1 16 3 = sSet (bF D) 1 ∧ ρ.2.1 16 4 = sSet (bF D) 2 ∧ ρ.1 16 5 = nI (rF D) ∧ ∀ k, k < 40 → ρ.1 17 k = nF D k
def RMD (ρ : mS) (D : mDeb) : Prop := (∀ k, k < dn D → ρ.1 52 k = bF D k ∧ ρ.1 53 k = nF D k) ∧ ρ.1 26 15 = nI (rF D) ∧ hM ρ
theorem Rel_mk {ρ : mS} {D : mDeb} (c : cD ρ D) (m : mD ρ D) (n : nmD D) (s : RSD ρ D) (r : RMD ρ D) (t : RT ρ) (p : RP ρ) (e : ρ.1 0 8 = ρ.1 26 1) : Rel ρ := by
  obtain ⟨hV, rfl⟩ := m
  exact ⟨⟨c.1, c.2, n⟩, s, r, t, p, e⟩
theorem Rel_un {ρ : mS} (h : Rel ρ) : cD ρ (DM ρ) ∧ mD ρ (DM ρ) ∧ nmD (DM ρ) ∧ RSD ρ (DM ρ) ∧ RMD ρ (DM ρ) := ⟨⟨h.V, h.D⟩, ⟨h.S, rfl⟩, h.1.2.2, h.2.1, h.2.2.1⟩
/-- what stands is found anew -/
theorem se_RS {τ : mS} {D : mDeb} (h : cD τ D) {ρ : mS} (e : ρ = sT_16 τ (τ.2.1 5 11 ||| 0) 0 (stR (DC τ) (bB (τ.2.1 5 11 ||| 0)) (bB 0))) : cD ρ D ∧ RSD ρ D ∧ (∀ a, a ≠ 16 → a ≠ 17 → ρ.1 a = τ.1 a) ∧ (∀ a, a ≠ 16 → ρ.2.1 a = τ.2.1 a) ∧ ρ.2.2 = τ.2.2 := by
  subst e
  have hV := h.1
  have eD := h.2
  rw [sT_16, co_eq hV, eD, bB_noS]
  refine ⟨⟨hV, eD⟩, ⟨?_, ?_, ?_, ?_, fun k hk => ?_⟩, fun a h1 h2 => ?_, fun a h1 => ?_, rfl⟩
  · have o : τ.2.1 5 11 ||| 0 = τ.2.1 5 11 := Int64.or_zero
    simp [sSt_16, o]
  · simp [sSt_16]; rfl
  · simp [sSt_16]; rfl
  · simp [sSt_16]; rfl
  · simp [sSt_16, hk]; rfl
  · simp [sSt_16, h1, h2]
  · simp [sSt_16, h1]
theorem S_seC {Γ : Nat × (Nat → Int32)} {d : Nat} {Q : mQ} {τ : mS} {D : mDeb} (h : cD τ D) (hQ : ∀ ρ, cD ρ D → RSD ρ D → (∀ a, a ≠ 16 → a ≠ 17 → ρ.1 a = τ.1 a) → (∀ a, a ≠ 16 → ρ.2.1 a = τ.2.1 a) → ρ.2.2 = τ.2.2 → Q (.inl none) 60 mSH ρ) : mCall Γ M_X4_settle (d + 5) 0 0 [.ref 16, .long 0, .long 0] 60 mSH τ Q := by
  refine S_settle_16 0 0 h.1 ?_
  obtain ⟨a, b, c, d', e⟩ := se_RS h rfl
  exact hQ _ a b c d' e
/-- the model finds anew what stands -/
theorem S_stR {Γ : Nat × (Nat → Int32)} {d : Nat} {Q : mQ} {τ : mS} {D : mDeb} (h : mD τ D) (hH : hM τ) (hQ : ∀ ρ, fS_52 τ ρ → (∀ k, k < dn D → ρ.1 52 k = bF D k ∧ ρ.1 53 k = nF D k) → Q (.inl (some (.int (nI (rF D))))) 60 mSH ρ) : mCall Γ M_X9_stand (d + 3) 0 0 [.ref 26, .ref 52, .ref 53] 60 mSH τ Q := by
  have hV : sV τ := by rw [sV, h.2]; exact h.1
  have c1 := coM_0 hV hH.1 hH.2.1
  have c2 := hiM_0 hV hH.2.2
  have eR : stR (DM τ) (coM τ) (hiM τ) = rF D := by rw [stR_congr hV c1 c2, h.2]; rfl
  refine S_stand_52 hV (fun ρ f hk => ?_)
  rw [eR] at hk ⊢
  refine hQ ρ f (fun k hk' => ?_)
  obtain ⟨a, b⟩ := hk k (by rw [h.2]; exact hk')
  rw [a, b, stF_congr hV c1 c2, stN_congr hV c1 c2, h.2]
  exact ⟨rfl, rfl⟩
theorem gLi_24 {K : Nat → Nat} {t : Nat} (h : (gLi K (t, true)).2 = true) : K (t + 1) = 24 := by
  by_cases k0 : K t = 0
  · exact (gLi_0 k0 h).1
  by_cases k2 : K t = 2
  · exact (gLi_2 k2 h).1
  by_cases k5 : K t = 5
  · exact (gMv_g (gLi_5 k5 h).1).1
  by_cases k6 : K t = 6
  · exact (gMv_g (gLi_6 k6 h).1).1
  · exact (gLi_k k0 k2 k5 k6 h).2.1
/-- an error of a line is at a token -/
def eOk (M : Nat) (x : Int32) (e : gE) : Prop := e = (0, x) ∨ ∃ n j, e = (nI n, nI j) ∧ 0 < n ∧ n < 8 ∧ j < M
theorem L_carT2 {Γ : Nat × (Nat → Int32)} {d n0 bc bs : Nat} {Q : mQ} {σ : mS} {K P : Nat → Nat} {V : Nat → Int64} {M E : Nat} {D0 : mDeb} (hC : tC σ K P V M) (hE : gEnd K E) (hM : E < M) (hE4 : E ≤ 400) (hW : ∀ j, K j = 24 → wOK (V j)) :
    ∀ m i t D e τ, i + m = 400 → t ≤ E → (gTx K m (t, true)).2 = true → tI σ τ D t e → ext D0 D → nmD D → (∀ τ' t', tI σ τ' (CO K V m t D e).1 t' (CO K V m t D e).2 → ext D0 (CO K V m t D e).1 → nmD (CO K V m t D e).1 → Q (.inl (some (.int (CO K V m t D e).2.1))) 60 mSH τ') →
      mK Γ M_X5_carryOut (d + 26) Q n0 bc bs 12 [(0, .ref 25), (1, .int (nI i))] [] 60 mSH τ
  | 0, i, t, D, e, τ, hi, ht, hg, hI, hx, hn, hQ => T_X5_carryOut_25_12 _ ⟨fun _ => by rw [hI.2.2.2.1]; exact hQ τ t hI hx hn, fun c => absurd (by rw [i400]; exact nI_le (by omega) (by omega)) c⟩
  | m + 1, i, t, D, e, τ, hi, ht, hg, hI, hx, hn, hQ => by
    rw [CO] at hQ
    have stop : ¬ (e.1 = 0 ∧ K t ≠ 26) → Q (.inl (some (.int e.1))) 60 mSH τ := fun q => by rw [if_neg q] at hQ; exact hQ τ t hI hx hn
    refine T_X5_carryOut_25_12 _ ⟨fun c => absurd c (by rw [i400]; exact nI_ge (by omega) (by omega)), fun _ => ?_⟩
    rw [hI.2.2.2.1]
    refine ⟨fun z => ?_, fun z => stop (fun q => z q.1)⟩
    refine S_seesT 26 hC hI (by omega) (by decide) (fun q => T_X5_carryOut_25_33a _ _ ⟨fun c => absurd c one_ne, fun _ => ?_⟩) (fun q => T_X5_carryOut_25_33a _ _ ⟨fun _ => ?_, fun c => absurd rfl c⟩)
    · rw [hI.2.2.2.1]; exact stop (fun y => y.2 q)
    · rw [if_pos ⟨z, q⟩] at hQ
      obtain ⟨g1, g2, g3⟩ := gTx_ln hg q
      obtain ⟨x1, x2⟩ := ln_D (t := t) (e := e) (cD_V hI.2.1) hn (hW _ (gLi_24 g1))
      refine S_kindT hC hI (by omega) (S_lnT hC hE hM hE4 hI ht g1 (fun τ' h' => ?_))
      rw [nI_1]
      exact L_carT2 hC hE hM hE4 hW m (i + 1) _ _ _ τ' (by omega) (lt_E hE g2 (by decide) (gLi_le (s := (t, true)) hE ht)) (by rw [← g3]; exact hg) h' (ext_t hx x1) x2 hQ
theorem S_carT2 {Γ : Nat × (Nat → Int32)} {d : Nat} {Q : mQ} {σ : mS} {K P : Nat → Nat} {V : Nat → Int64} {M E : Nat} {D : mDeb} (hC : tC σ K P V M) (hE : gEnd K E) (hM : E < M) (hE4 : E ≤ 400) (hW : ∀ j, K j = 24 → wOK (V j)) (hD : cD σ D) (hn : nmD D) (hg : (gTx K 400 (0, true)).2 = true)
    (hQ : ∀ τ' t', tI σ τ' (CO K V 400 0 D (0, σ.1 25 5)).1 t' (CO K V 400 0 D (0, σ.1 25 5)).2 → ext D (CO K V 400 0 D (0, σ.1 25 5)).1 → nmD (CO K V 400 0 D (0, σ.1 25 5)).1 → Q (.inl (some (.int (CO K V 400 0 D (0, σ.1 25 5)).2.1))) 60 mSH τ') : mCall Γ M_X5_carryOut (d + 26) 0 0 [.ref 25] 60 mSH σ Q := by
  refine E_X5_carryOut_25 (L_carT2 hC hE hM hE4 hW 400 0 0 D (0, σ.1 25 5) _ rfl (Nat.zero_le _) hg ⟨fK_t (fK_25 _ _ _) (fK_25 _ _ _), hD, ?_, ?_, ?_⟩ (ext_r D) hn hQ)
  · rw [mPI_at, if_neg (by decide), mPI_at, if_pos rfl]; rfl
  · rw [mPI_at, if_pos rfl]
  · rw [mPI_at, if_neg (by decide), mPI_at, if_neg (by decide)]
