theorem L_leaderM {Γ : Nat × (Nat → Int32)} {d n0 bc bs : Nat} {Q : mQ} {σ : mS} (h : sV σ) : ∀ m i, i + m = ds (DM σ) → Q (.inl (some (.int (dLeader (DM σ) (coM σ) (σ.1 52))))) 60 mSH σ →
    mK Γ M_X9_leader (d + 3) Q n0 bc bs 9 [(0, .ref 26), (1, .int (if i = 0 then -1 else nI (ldB (DM σ) (coM σ) (σ.1 52) i))), (2, .int (nI i))] [] 60 mSH σ
  | 0, i, hm, hQ => by
    have h6 := h.2.2.2.1
    refine T_X9_leader_26_9 _ _ ⟨fun _ => ?_, fun c => absurd (by rw [sV_s h]; exact nI_le (by omega) (by omega)) c⟩
    rw [show i = ds (DM σ) by omega]
    exact hQ
  | m + 1, i, hm, hQ => by
    have h6 := h.2.2.2.1
    have ih := L_leaderM (d := d) (n0 := n0) (bc := bc) (bs := bs) (Γ := Γ) h m (i + 1) (by omega) hQ
    rw [if_neg (by omega), ldB] at ih
    refine T_X9_leader_26_9 _ _ ⟨fun c => absurd c (by rw [sV_s h]; exact nI_ge (by omega) (by omega)), fun _ => ?_⟩
    by_cases e : i = 0
    · subst e
      rw [if_pos rfl] at ih ⊢
      exact ⟨fun _ => ih, fun c => absurd rfl c⟩
    · obtain ⟨j, rfl⟩ : ∃ j, i = j + 1 := ⟨i - 1, by omega⟩
      have hl := ldB_lt (DM σ) (coM σ) (σ.1 52) j
      rw [if_neg e] at ih ⊢
      refine ⟨fun c => absurd c (nI_m1 (by omega)), fun _ => ?_⟩
      refine S_score_52 (j + 1) h (by omega) ?_
      refine T_X9_leader_26_34a _ _ _ ?_
      refine S_score_52 _ h (by omega) ?_
      refine T_X9_leader_26_43a _ _ _ _ ⟨fun c => ?_, fun c => ?_⟩
      · rw [if_pos c] at ih; rw [nI_1]; exact ih
      · rw [if_neg c] at ih; rw [nI_1]; exact ih
theorem S_leaderM {Γ : Nat × (Nat → Int32)} {d : Nat} {Q : mQ} {σ : mS} (h : sV σ) (hQ : Q (.inl (some (.int (dLeader (DM σ) (coM σ) (σ.1 52))))) 60 mSH (mPI σ 26 0 0)) : mCall Γ M_X9_leader (d + 3) 0 0 [.ref 26] 60 mSH σ Q :=
  E_X9_leader_26 (L_leaderM (σ := mPI σ 26 0 0) h (ds (DM σ)) 0 (Nat.zero_add _) hQ)
