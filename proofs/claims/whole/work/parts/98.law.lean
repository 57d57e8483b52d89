/-! ===== the law: a weaker end of a call ===== -/
theorem mCall_mono {Γ : Nat × (Nat → Int32)} {I : mM} {d c s : Nat} {av : List Value} {N : Nat} {sh : mH} {σ : mS} {Q Q' : mQ} (h : mCall Γ I d c s av N sh σ Q) (hq : ∀ o M th τ, Q o M th τ → Q' o M th τ) : mCall Γ I d c s av N sh σ Q' := by
  intro l D cd ad aC sz hl
  refine MetFree.mono (h l D cd ad aC sz hl) (fun a s h => h) (fun _ _ _ _ _ h => h) (fun a st o t _ hQ => ?_)
  rcases hQ with ⟨⟨v, N', sh', σ', ad', aC', h1, ⟨h2, h3⟩, h4⟩, h5⟩ | ⟨q, e, E, ce, L, ⟨N', sh', σ', ad', aC', h1, h2⟩, h3⟩
  · exact .inl ⟨⟨v, N', sh', σ', ad', aC', h1, ⟨hq _ _ _ _ h2, h3⟩, h4⟩, h5⟩
  · exact .inr ⟨q, e, E, ce, L, ⟨N', sh', σ', ad', aC', hq _ _ _ _ h1, h2⟩, h3⟩
/-- the end of a wrapper: what the class told goes to the cell 59 -/
def mQw (Q : mQ) (E1 E2 : String) : mQ := fun o N sh τ => N = 60 ∧ sh = mSH ∧
  ((∃ v, o = .inl (some (.int v)) ∧ Q (.inl (some (.int 0))) 60 mSH (mPL τ 59 0 v.toInt64)) ∨ (o = .inr E1 ∧ Q (.inl (some (.int 1))) 60 mSH τ) ∨ (E2 ≠ E1 ∧ o = .inr E2 ∧ Q (.inl (some (.int 2))) 60 mSH τ))
theorem W_count {Γ : Nat × (Nat → Int32)} {d c s : Nat} {Q : mQ} {σ : mS} (x : Int32) (h : mCall Γ M_X7_count d c s [.ref 0, .int x] 60 mSH σ (mQw Q xIO xIO)) : mCall Γ M_L_count (d + 1) c s [.ref 0, .int x, .ref 59] 60 mSH σ Q := by
  refine mCall_ofH (by decide) (by decide) (Nat.le_of_ble_eq_true rfl) (mOkC (mOk_lo (Nat.le_of_ble_eq_true rfl)) (mOkC mOk_i (mOkC (mOk_lo (Nat.le_of_ble_eq_true rfl)) mOkN))) ?_
  show mK Γ M_L_count (d + 1) Q 60 c s 0 [(0, .ref 0), (1, .int x), (2, .ref 59)] [] 60 mSH σ
  refine mK_aload_n dL_count_0 rfl rfl (.tail _ (.tail _ (.head _))) ?_
  refine mK_iconst dL_count_1 rfl qic_0 ?_
  refine mK_aload_n dL_count_2 rfl rfl (.head _) ?_
  refine mK_iload_n dL_count_3 rfl rfl (.tail _ (.head _)) ?_
  refine mK_invVH (J := M_X7_count) (k := 1) (as := [.int x]) (st := [.int 0, .ref 59]) (c1 := c) (s1 := s) dL_count_4 jw_X7_count jn_X7_count rfl (Nat.le_of_ble_eq_true rfl) (Nat.le_refl _) (Nat.le_refl _) (by decide +kernel) (by decide +kernel) (by decide +kernel) (b := 0) (Nat.le_of_ble_eq_true rfl) (Nat.le_of_ble_eq_true rfl) rfl ?_
  refine mCall_mono h (fun o M th τ hq => ?_)
  obtain ⟨rfl, rfl, hq⟩ := hq
  have bad : ∀ E, E = xIO → Q (.inl (some (.int 1))) 60 mSH τ → mRh Γ M_L_count (d + 1) Q 60 (c - c) (s - s) 4 [(0, .ref 0), (1, .int x), (2, .ref 59)] [.int 0, .ref 59] (.inr E) 60 mSH τ := fun E e q => by
    subst e
    refine ⟨13, 3, ⟨[], _, [], "java/lang/IndexOutOfBoundsException", rfl, fun z hz => absurd hz List.not_mem_nil, rfl, by decide, by decide +kernel, by decide +kernel, by decide, .inl ⟨3, dL_count_12, rfl, rfl⟩⟩, ?_⟩
    refine mK_iconst dL_count_13 rfl qic_1 ?_
    exact mK_iret dL_count_14 rfl q
  rcases hq with ⟨v, rfl, q⟩ | ⟨rfl, q⟩ | ⟨ne, _⟩
  · show mK Γ M_L_count (d + 1) Q 60 (c - c) (s - s) 7 [(0, .ref 0), (1, .int x), (2, .ref 59)] [.int v, .int 0, .ref 59] 60 mSH τ
    refine mK_i2l dL_count_7 rfl ?_
    refine ru_last (n := 1) dL_count_8 rfl rfl (by have := vp_in_nI (show 0 < 1 by decide) (show 1 < 2 ^ 31 by decide); exact this) ?_
    refine mK_goto (tgt := 15) dL_count_9 (by decide) ?_
    refine mK_iconst dL_count_15 rfl qic_0 ?_
    exact mK_iret dL_count_16 rfl q
  · exact bad _ rfl q
  · exact absurd rfl ne
