theorem L_leader {Γ : Nat × (Nat → Int32)} {d n0 bc bs : Nat} {Q : mQ} {σ : mS} {b : Nat → Int32} (h : sI_16 σ b) : ∀ m i, i + m = ds (DC σ) → Q (.inl (some (.int (dLeader (DC σ) (bB (σ.2.1 16 2)) b)))) 60 mSH σ →
    mK Γ M_X7_leader (d + 5) Q n0 bc bs 4 [(0, .ref 0), (1, .int (if i = 0 then -1 else nI (ldB (DC σ) (bB (σ.2.1 16 2)) b i))), (2, .int (nI i))] [] 60 mSH σ
  | 0, i, hm, hQ => by
    have h6 := h.1.1.2.2.2.1
    refine T_X7_leader_0_4 _ _ ⟨fun _ => ?_, fun c => absurd (by rw [show f_X0_speakers_5 σ = nI (ds (DC σ)) from cV_s h.1]; exact nI_le (by omega) (by omega)) c⟩
    rw [show i = ds (DC σ) by omega]
    exact hQ
  | m + 1, i, hm, hQ => by
    have h6 := h.1.1.2.2.2.1
    have ih := L_leader (d := d) (n0 := n0) (bc := bc) (bs := bs) (Γ := Γ) h m (i + 1) (by omega) hQ
    rw [if_neg (by omega), ldB] at ih
    refine T_X7_leader_0_4 _ _ ⟨fun c => absurd c (by rw [show f_X0_speakers_5 σ = nI (ds (DC σ)) from cV_s h.1]; exact nI_ge (by omega) (by omega)), fun _ => ?_⟩
    by_cases e : i = 0
    · subst e
      rw [if_pos rfl] at ih ⊢
      exact ⟨fun _ => ih, fun c => absurd rfl c⟩
    · obtain ⟨j, rfl⟩ : ∃ j, i = j + 1 := ⟨i - 1, by omega⟩
      have hl := ldB_lt (DC σ) (bB (σ.2.1 16 2)) b j
      rw [if_neg e] at ih ⊢
      refine ⟨fun c => absurd c (nI_m1 (by omega)), fun _ => ?_⟩
      refine S_scoreOf_16 (b := b) (j + 1) h.1 h.2.1 h.2.2.1 h.2.2.2 (by omega) ?_
      refine T_X7_leader_0_28a _ _ _ ?_
      refine S_scoreOf_16 (b := b) _ h.1 h.2.1 h.2.2.1 h.2.2.2 (by omega) ?_
      refine T_X7_leader_0_36a _ _ _ _ ⟨fun c => ?_, fun c => ?_⟩
      · rw [if_pos c] at ih; rw [nI_1]; exact ih
      · rw [if_neg c] at ih; rw [nI_1]; exact ih
theorem S_leader {Γ : Nat × (Nat → Int32)} {d : Nat} {Q : mQ} {σ : mS} {b : Nat → Int32} (h : sI_16 σ b) (hQ : Q (.inl (some (.int (dLeader (DC σ) (bB (σ.2.1 16 2)) b)))) 60 mSH σ) : mCall Γ M_X7_leader (d + 5) 0 0 [.ref 0] 60 mSH σ Q :=
  E_X7_leader_0 (L_leader h (ds (DC σ)) 0 (by omega) hQ)
theorem L_why {Γ : Nat × (Nat → Int32)} {d n0 bc bs : Nat} {Q : mQ} {σ : mS} {b : Nat → Int32} {x : Nat} (h : sI_16 σ b) (hx : x < dn (DC σ)) : ∀ m i, i + m = dn (DC σ) → Q (.inl (some (.int (whF (DC σ) b x i m)))) 60 mSH σ →
    mK Γ M_X7_why (d + 3) Q n0 bc bs 20 [(0, .ref 0), (1, .int (nI x)), (2, .int (nI i))] [] 60 mSH σ
  | 0, i, hm, hQ => by
    have hn := h.1.1.2.1
    refine T_X7_why_0_20 _ _ ⟨fun _ => ?_, fun c => absurd (by rw [show f_X0_items_5 σ = nI (dn (DC σ)) from cV_n h.1]; exact nI_le (by omega) (by omega)) c⟩
    rw [c_conc h.1 hx]
    rw [whF] at hQ
    by_cases e : dc (DC σ) x = 1
    · rw [if_pos e] at hQ ⊢; exact ⟨fun c => absurd c (by decide), fun _ => hQ⟩
    · rw [if_neg e] at hQ ⊢; exact ⟨fun _ => hQ, fun c => absurd rfl c⟩
  | m + 1, i, hm, hQ => by
    have hn := h.1.1.2.1
    rw [whF] at hQ
    refine T_X7_why_0_20 _ _ ⟨fun c => absurd c (by rw [show f_X0_items_5 σ = nI (dn (DC σ)) from cV_n h.1]; exact nI_ge (by omega) (by omega)), fun _ => ?_⟩
    rw [c_target h.1 (by omega), c_strong0 h.1 (by omega), c_isIn0_16 hn h.2.1 h.2.2.1 (by omega), nI_1]
    refine ⟨fun c1 => ⟨fun c2 => ?_, fun c2 => ⟨fun c3 => ?_, fun c3 => ?_⟩⟩, fun c1 => ?_⟩
    · rw [if_neg (fun q => by rw [c2] at q; exact absurd q.2.1 (by decide))] at hQ
      exact L_why h hx m (i + 1) (by omega) hQ
    · rw [if_neg (fun q => c3 q.2.2)] at hQ
      exact L_why h hx m (i + 1) (by omega) hQ
    · rw [if_pos ⟨c1, Bool.not_eq_false _ ▸ c2, Classical.not_not.mp c3⟩] at hQ
      exact hQ
    · rw [if_neg (fun q => c1 q.1)] at hQ
      exact L_why h hx m (i + 1) (by omega) hQ
theorem S_why {Γ : Nat × (Nat → Int32)} {d : Nat} {Q : mQ} {σ : mS} {b : Nat → Int32} (x : Nat) (h : sI_16 σ b) (hx : x < dn (DC σ)) (hQ : Q (.inl (some (.int (dWhy (DC σ) b x)))) 60 mSH σ) : mCall Γ M_X7_why (d + 3) 1 6 [.ref 0, .int (nI x)] 60 mSH σ Q := by
  have hn := h.1.1.2.1
  refine E_X7_why_0 (nI x) ⟨fun c => ?_, fun _ => ?_⟩
  · rw [c_hasItem h.1 hx] at c; exact absurd c (by decide)
  · rw [c_isOut0_16 hn h.2.1 h.2.2.2 (by omega)]
    rw [dWhy] at hQ
    refine ⟨fun c => ?_, fun c => ?_⟩
    · rw [if_neg c] at hQ; exact hQ
    · rw [if_pos (Classical.not_not.mp c)] at hQ
      exact L_why h hx (dn (DC σ)) 0 (by omega) hQ
theorem S_why_x {Γ : Nat × (Nat → Int32)} {d : Nat} {Q : mQ} {σ : mS} (x : Int32) (h : cV σ) (hx : ∀ k, k < dn (DC σ) → x ≠ nI k) (hQ : Q (.inr "java/lang/IndexOutOfBoundsException") 60 mSH σ) : mCall Γ M_X7_why (d + 3) 1 6 [.ref 0, .int x] 60 mSH σ Q :=
  E_X7_why_0 x ⟨fun _ => hQ, fun c => absurd (c_hasItem_0 h hx) c⟩
theorem L_far {Γ : Nat × (Nat → Int32)} {d n0 bc bs : Nat} {Q : mQ} {σ : mS} (h : cV σ) : ∀ f s (t : Int32), s + f = 40 → (t = -1 ∨ ∃ j, j < dn (DC σ) ∧ t = nI j) → Q (.inl (some (.int (nI (s + farN (DC σ) f t))))) 60 mSH σ →
    mK Γ M_X7_far (d + 3) Q n0 bc bs 16 [(0, .ref 0), (2, .int (nI s)), (3, .int t)] [] 60 mSH σ
  | 0, s, t, hs, ht, hQ => T_X7_far_0_16 _ _ ⟨fun _ => hQ, fun _ => ⟨fun _ => hQ, fun c => absurd (by rw [i40]; exact nI_le (by omega) (by omega)) c⟩⟩
  | f + 1, s, t, hs, ht, hQ => by
    have hn := h.1.2.1
    rw [farN] at hQ
    refine T_X7_far_0_16 _ _ ⟨fun c => ?_, fun c => ⟨fun c2 => absurd c2 (by rw [i40]; exact nI_ge (by omega) (by omega)), fun _ => ?_⟩⟩
    · rw [if_pos c] at hQ; exact hQ
    · rw [if_neg c] at hQ
      rcases ht with e | ⟨j, hj, rfl⟩
      · exact absurd e c
      · rw [uN_nI (by omega)] at hQ
        rw [c_target h hj, nI_1]
        refine L_far h f (s + 1) _ (by omega) ?_ (by rw [show s + 1 + farN (DC σ) f (dt (DC σ) j) = s + (farN (DC σ) f (dt (DC σ) j) + 1) by omega]; exact hQ)
        rcases dV_t h.1 hj with e | ⟨i, hi, e⟩
        · exact .inl e
        · exact .inr ⟨i, by omega, e⟩
theorem S_far {Γ : Nat × (Nat → Int32)} {d : Nat} {Q : mQ} {σ : mS} (x : Nat) (h : cV σ) (hx : x < dn (DC σ)) (hQ : Q (.inl (some (.int (dFar (DC σ) x)))) 60 mSH σ) : mCall Γ M_X7_far (d + 3) 1 6 [.ref 0, .int (nI x)] 60 mSH σ Q := by
  refine E_X7_far_0 (nI x) ⟨fun c => ?_, fun _ => ?_⟩
  · rw [c_hasItem h hx] at c; exact absurd c (by decide)
  · rw [c_target h hx]
    refine L_far h 40 0 _ (by omega) ?_ (by rw [Nat.zero_add]; exact hQ)
    rcases dV_t h.1 hx with e | ⟨i, hi, e⟩
    · exact .inl e
    · exact .inr ⟨i, by omega, e⟩
theorem S_far_x {Γ : Nat × (Nat → Int32)} {d : Nat} {Q : mQ} {σ : mS} (x : Int32) (h : cV σ) (hx : ∀ k, k < dn (DC σ) → x ≠ nI k) (hQ : Q (.inr "java/lang/IndexOutOfBoundsException") 60 mSH σ) : mCall Γ M_X7_far (d + 3) 1 6 [.ref 0, .int x] 60 mSH σ Q :=
  E_X7_far_0 x ⟨fun _ => hQ, fun c => absurd (c_hasItem_0 h hx) c⟩
