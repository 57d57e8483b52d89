/-! ===== keep, go back; become ===== -/
theorem cpy_at {α : Type} {f g : Nat → α} {n k : Nat} (h : k < n) : va_cpy f g 0 0 n k = f k := by
  simp [va_cpy, h]
theorem keep_if (σ : mS) : (∀ a k, a ≠ 15 → (a = 5 → k ≠ 13 ∧ k ≠ 14) → (g_X0_keep_5 σ).1 a k = σ.1 a k) ∧ (∀ a k, (a = 5 → k ≠ 15) → (g_X0_keep_5 σ).2.1 a k = σ.2.1 a k) ∧ (g_X0_keep_5 σ).2.2 = σ.2.2 ∧ (g_X0_keep_5 σ).1 5 13 = σ.1 5 2 ∧ (g_X0_keep_5 σ).1 5 14 = σ.1 5 10 ∧ (g_X0_keep_5 σ).2.1 5 15 = σ.2.1 5 11 ∧ ∀ k, k < 6 → (g_X0_keep_5 σ).1 15 k = σ.1 7 k := by
  refine ⟨fun a k h1 h2 => ?_, fun a k h1 => ?_, rfl, ?_, ?_, ?_, fun k hk => ?_⟩
  · rw [g_X0_keep_5, mPL_1, mPI_if, mPI_if]
    by_cases e : a = 5
    · rw [if_pos e, if_neg (h2 e).2, if_pos e, if_neg (h2 e).1]; simp [mRowI, h1]
    · rw [if_neg e, if_neg e]; simp [mRowI, h1]
  · rw [g_X0_keep_5, mPL_if]
    by_cases e : a = 5
    · rw [if_pos e, if_neg (h1 e)]; rfl
    · rw [if_neg e]; rfl
  · simp [g_X0_keep_5, mPL_1, mPI_if, mRowI]
  · simp [g_X0_keep_5, mPL_1, mPI_if, mRowI]
  · simp [g_X0_keep_5, mPL_if, mPI_2, mPI_if, mRowI]
  · simp [g_X0_keep_5, mPL_1, mPI_if, mRowI, cpy_at hk]
theorem back_if (σ : mS) : (∀ a k, a ≠ 7 → (a = 5 → k ≠ 2 ∧ k ≠ 10) → (g_X0_goBack_5 σ).1 a k = σ.1 a k) ∧ (∀ a k, (a = 5 → k ≠ 11) → (g_X0_goBack_5 σ).2.1 a k = σ.2.1 a k) ∧ (g_X0_goBack_5 σ).2.2 = σ.2.2 ∧ (g_X0_goBack_5 σ).1 5 2 = σ.1 5 13 ∧ (g_X0_goBack_5 σ).1 5 10 = σ.1 5 14 ∧ (g_X0_goBack_5 σ).2.1 5 11 = σ.2.1 5 15 ∧ ∀ k, k < 6 → (g_X0_goBack_5 σ).1 7 k = σ.1 15 k := by
  refine ⟨fun a k h1 h2 => ?_, fun a k h1 => ?_, rfl, ?_, ?_, ?_, fun k hk => ?_⟩
  · rw [g_X0_goBack_5, mPL_1, mPI_if, mPI_if]
    by_cases e : a = 5
    · rw [if_pos e, if_neg (h2 e).2, if_pos e, if_neg (h2 e).1]; simp [mRowI, h1]
    · rw [if_neg e, if_neg e]; simp [mRowI, h1]
  · rw [g_X0_goBack_5, mPL_if]
    by_cases e : a = 5
    · rw [if_pos e, if_neg (h1 e)]; rfl
    · rw [if_neg e]; rfl
  · simp [g_X0_goBack_5, mPL_1, mPI_if, mRowI]
  · simp [g_X0_goBack_5, mPL_1, mPI_if, mRowI]
  · simp [g_X0_goBack_5, mPL_if, mPI_2, mPI_if, mRowI]
  · simp [g_X0_goBack_5, mPL_1, mPI_if, mRowI, cpy_at hk]
theorem keep_D {σ : mS} {D : mDeb} (h : cD σ D) : cD (g_X0_keep_5 σ) D := by
  obtain ⟨k1, k2, _⟩ := keep_if σ
  have st := cD_st h
  refine cD_mk ?_ (cD_V h) ⟨fun k hk => ?_, fun k hk => ?_⟩
  · have e : DC (g_X0_keep_5 σ) = DC σ := by
      refine DC_of ?_ ?_ (fun k hk => ?_) (fun k hk => ?_)
      · exact k1 5 10 (by decide) (fun _ => by decide)
      · exact k1 5 2 (by decide) (fun _ => by decide)
      · rw [k1 9 k (by decide) (fun q => absurd q (by decide)), k1 10 k (by decide) (fun q => absurd q (by decide)), k1 11 k (by decide) (fun q => absurd q (by decide)), k1 12 k (by decide) (fun q => absurd q (by decide)), k1 13 k (by decide) (fun q => absurd q (by decide)), k2 5 11 (by decide), k2 8 k (fun q => absurd q (by decide))]
        exact ⟨rfl, rfl, rfl, rfl, rfl, rfl, rfl⟩
      · rw [k1 7 k (by decide) (fun q => absurd q (by decide)), k2 6 k (fun q => absurd q (by decide))]; exact ⟨rfl, rfl⟩
    rw [e]; exact h.2
  · rw [k1 14 k (by decide) (fun q => absurd q (by decide))]; exact st.1 k hk
  · rw [k2 5 11 (by decide)]; exact st.2 k hk
/-- back to what was kept -/
theorem back_D {σ τ : mS} {D D' : mDeb} (h : cD σ D) (h' : cD τ D') (x : ext D D') (kp : τ.1 5 13 = σ.1 5 2 ∧ τ.1 5 14 = σ.1 5 10 ∧ τ.2.1 5 15 = σ.2.1 5 11 ∧ ∀ k, k < 6 → τ.1 15 k = σ.1 7 k) : cD (g_X0_goBack_5 τ) D := by
  obtain ⟨k1, k2, _, k4, k5, k6, k7⟩ := back_if τ
  have st := cD_st h
  have st' := cD_st h'
  have hV := cD_V h
  have h6 := hV.2.2.2.1
  refine cD_mk ?_ hV ⟨fun k hk => ?_, fun k hk => ?_⟩
  · rw [← h.2]
    refine DC_of (k5.trans kp.2.1) (k4.trans kp.1) (fun k hk => ?_) (fun k hk => ?_)
    · have hk : k < dn D := by rw [cD_n h, uN_nI (by have := hV.2.1; omega)] at hk; exact hk
      obtain ⟨a1, a2, a3, a4, a5, a6⟩ := x.2.2.1 k hk
      obtain ⟨b1, b2, b3, b4, b5, b6, b7⟩ := cD_i h hk
      obtain ⟨c1, c2, c3, c4, c5, c6, c7⟩ := cD_i h' (Nat.lt_of_lt_of_le hk x.1)
      rw [k1 9 k (by decide) (fun q => absurd q (by decide)), k1 10 k (by decide) (fun q => absurd q (by decide)), k1 11 k (by decide) (fun q => absurd q (by decide)), k1 12 k (by decide) (fun q => absurd q (by decide)), k1 13 k (by decide) (fun q => absurd q (by decide)), k6, kp.2.2.1, k2 8 k (fun q => absurd q (by decide))]
      exact ⟨by rw [c1, a1, b1], by rw [c2, a2, b2], by rw [c3, a3, b3], by rw [c4, a4, b4], by rw [c5, a5, b5], rfl, by rw [c7, a6, b7]⟩
    · have hk : k < ds D := by rw [cD_s h, uN_nI (by omega)] at hk; exact hk
      have b := cD_p h hk
      have c := cD_p h' (Nat.lt_of_lt_of_le hk x.2.1)
      rw [k7 k (by omega), kp.2.2.2 k (by omega), k2 6 k (fun q => absurd q (by decide))]
      exact ⟨rfl, by rw [c.2, x.2.2.2 k hk, b.2]⟩
  · rw [k1 14 k (by decide) (fun q => absurd q (by decide)), st'.1 k (Nat.lt_of_lt_of_le hk x.1), dst_eq hV x hk]
  · rw [k6, kp.2.2.1]; exact st.2 k hk
/-- the model's kept debate -/
def kD (σ τ : mS) : Prop := τ.1 42 0 = σ.1 32 0 ∧ τ.1 42 3 = σ.1 32 3 ∧ (∀ k, k < 40 → τ.1 46 k = σ.1 36 k ∧ τ.1 47 k = σ.1 37 k ∧ τ.1 48 k = σ.1 38 k ∧ τ.1 49 k = σ.1 39 k ∧ τ.1 50 k = σ.1 40 k ∧ τ.1 51 k = σ.1 41 k ∧ τ.2.1 45 k = σ.2.1 35 k) ∧ ∀ k, k < 6 → τ.1 44 k = σ.1 34 k ∧ τ.2.1 43 k = σ.2.1 33 k
theorem bec_k (σ : mS) : kD σ (g_X8_become_42_32 σ) ∧ (∀ a, (a < 42 ∨ 51 < a) → (g_X8_become_42_32 σ).1 a = σ.1 a ∧ (g_X8_become_42_32 σ).2.1 a = σ.2.1 a) ∧ (g_X8_become_42_32 σ).2.2 = σ.2.2 := by
  refine ⟨⟨?_, ?_, fun k hk => ⟨?_, ?_, ?_, ?_, ?_, ?_, ?_⟩, fun k hk => ⟨?_, ?_⟩⟩, fun a h => ⟨?_, ?_⟩, rfl⟩
  · simp [g_X8_become_42_32, g_X8_copy_42_34_44, g_X8_copy_42_36_46, g_X8_copy_42_37_47, g_X8_copy_42_38_48, g_X8_copy_42_39_49, g_X8_copy_42_40_50, g_X8_copy_42_41_51, mRowI, mRowL, mPI_if]
  · simp [g_X8_become_42_32, g_X8_copy_42_34_44, g_X8_copy_42_36_46, g_X8_copy_42_37_47, g_X8_copy_42_38_48, g_X8_copy_42_39_49, g_X8_copy_42_40_50, g_X8_copy_42_41_51, mRowI, mRowL, mPI_if]
  all_goals first
    | (have hq := hk; simp [g_X8_become_42_32, g_X8_copy_42_34_44, g_X8_copy_42_36_46, g_X8_copy_42_37_47, g_X8_copy_42_38_48, g_X8_copy_42_39_49, g_X8_copy_42_40_50, g_X8_copy_42_41_51, mRowI, mRowL, mPI_if, mPI_2, cpy_at hq]; done)
    | skip
  · have n : ∀ j, 42 ≤ j → j ≤ 51 → a ≠ j := fun j h1 h2 => by omega
    funext k
    simp [g_X8_become_42_32, g_X8_copy_42_34_44, g_X8_copy_42_36_46, g_X8_copy_42_37_47, g_X8_copy_42_38_48, g_X8_copy_42_39_49, g_X8_copy_42_40_50, g_X8_copy_42_41_51, mRowI, mRowL, mPI_if, n]
  · have n : ∀ j, 42 ≤ j → j ≤ 51 → a ≠ j := fun j h1 h2 => by omega
    funext k
    simp [g_X8_become_42_32, g_X8_copy_42_34_44, g_X8_copy_42_36_46, g_X8_copy_42_37_47, g_X8_copy_42_38_48, g_X8_copy_42_39_49, g_X8_copy_42_40_50, g_X8_copy_42_41_51, mRowI, mRowL, mPI_2, n]
