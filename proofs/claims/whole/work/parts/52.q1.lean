/-! ===== pairs of calls that only ask ===== -/
theorem noQ {Q : mQ} {τ : mS} {k : Int32} (h : Q (.inl (some (.int 0))) 60 mSH (th τ k)) : Q (.inl (some (.int (h_X9_no_26 (mPI τ 26 0 0) k).1))) 60 mSH (h_X9_no_26 (mPI τ 26 0 0) k).2 := by
  show Q (.inl (some (.int 0))) 60 mSH (th (th τ 0) k)
  rw [th_th]; exact h
theorem isIt1 {τ : mS} (h : Rel τ) {k : Nat} (hk : k < dn (DM τ)) : f_X9_isItem_26 (mPI τ 26 0 0) (nI k) = 1 := m_isIt1 (th_V h.S 0) hk
theorem isIt0 {τ : mS} (h : Rel τ) {x : Int32} (hx : ∀ k, k < dn (DM τ) → x ≠ nI k) : f_X9_isItem_26 (mPI τ 26 0 0) x = 0 := m_isIt0 (th_V h.S 0) hx
theorem isSp1 {τ : mS} (h : Rel τ) {k : Nat} (hk : k < ds (DM τ)) : f_X9_isSpeaker_26 (mPI τ 26 0 0) (nI k) = 1 := m_isSp1 (th_V h.S 0) hk
theorem isSp0 {τ : mS} (h : Rel τ) {x : Int32} (hx : ∀ k, k < ds (DM τ) → x ≠ nI k) : f_X9_isSpeaker_26 (mPI τ 26 0 0) x = 0 := m_isSp0 (th_V h.S 0) hx
theorem ab1 {x : Int32} {P : Prop} (h : x = 1) (c : x = 0) : P := absurd (h.symm.trans c) (by decide)
theorem c_hasSp1 {σ : mS} (h : cV σ) {k : Nat} (hk : k < ds (DC σ)) : f_X0_hasSpeaker_5 σ (nI k) = 1 := by
  have h6 := h.1.2.2.2.1
  rw [f_X0_hasSpeaker_5, cV_s h, if_neg (nI_pos (by omega)), if_neg (nI_ge hk (by omega)), if_neg (by rw [i6]; exact nI_ge (by omega) (by omega))]
theorem c_hasSp0 {σ : mS} (h : cV σ) {x : Int32} (hx : ∀ k, k < ds (DC σ) → x ≠ nI k) : f_X0_hasSpeaker_5 σ x = 0 := by
  have h6 := h.1.2.2.2.1
  rw [f_X0_hasSpeaker_5]
  by_cases a : x < 0
  · rw [if_pos a]
  · obtain ⟨j, hj, rfl⟩ := nI_of a
    rw [if_neg a, cV_s h]
    by_cases b : nI (ds (DC σ)) ≤ nI j
    · rw [if_pos b]
    · exact absurd rfl (hx j (by rw [nI_leI (by omega) hj] at b; omega))
theorem Rel.hi1 {σ : mS} (h : Rel σ) {k : Nat} (hk : k < dn (DM σ)) : f_X0_hasItem_5 σ (nI k) = 1 := c_hasItem h.V (by rw [h.D]; exact hk)
theorem Rel.hi0 {σ : mS} (h : Rel σ) {x : Int32} (hx : ∀ k, k < dn (DM σ) → x ≠ nI k) : f_X0_hasItem_5 σ x = 0 := c_hasItem_0 h.V (by rw [h.D]; exact hx)
theorem Rel.hs1 {σ : mS} (h : Rel σ) {k : Nat} (hk : k < ds (DM σ)) : f_X0_hasSpeaker_5 σ (nI k) = 1 := c_hasSp1 h.V (by rw [h.D]; exact hk)
theorem Rel.hs0 {σ : mS} (h : Rel σ) {x : Int32} (hx : ∀ k, k < ds (DM σ) → x ≠ nI k) : f_X0_hasSpeaker_5 σ x = 0 := c_hasSp0 h.V (by rw [h.D]; exact hx)
theorem Rel.n40 {σ : mS} (h : Rel σ) : dn (DM σ) ≤ 40 := h.S.2.1
theorem Rel.s6 {σ : mS} (h : Rel σ) : ds (DM σ) ≤ 6 := h.S.2.2.2.1
theorem Rel.cn {σ : mS} (h : Rel σ) : cnt (σ.1 5 10) 40 := ⟨dn (DM σ), h.n40, by rw [← h.D]; exact cV_n h.V⟩
theorem P_why {Γ : Nat × (Nat → Int32)} {d : Nat} {σ : mS} (h : Rel σ) (x : Int32) : mCall Γ M_X7_why (d + 12) 1 6 [.ref 0, .int x] 60 mSH σ (PO Γ (d + 12) xIO xIO M_X9_why 0 0 [.ref 26, .int x]) := by
  rcases itemCase (dn (DM σ)) x with ⟨k, hk, rfl⟩ | hx
  · refine S_why (b := bF (DM σ)) k h.I (by rw [h.D]; exact hk) ?_
    rw [h.D]
    refine PO_q h (FQ_r σ) 0 _ (.inl ⟨rfl, rfl⟩) (fun τ hτ e _ Q hQ => ?_)
    have hk' : k < dn (DM τ) := by rw [e]; exact hk
    refine E_X9_why_26 (nI k) ⟨isIn01 _ _ _ _, fun c => ab1 (isIt1 hτ hk') c, fun _ => ?_⟩
    refine S_whyOf (σ := th τ 0) k (th_V hτ.S 0) hk' (T_X9_why_26_18a _ _ ?_)
    rw [dWhy_congr (Rel_th hτ 0).B hk', show DM (th τ 0) = DM σ from e]
    exact hQ _ (Rel_q hτ 0)
  · refine S_why_x x h.V (by rw [h.D]; exact hx) (PO_q h (FQ_r σ) 1 0 (.inr (.inl ⟨rfl, rfl⟩)) (fun τ hτ e _ Q hQ => ?_))
    exact E_X9_why_26 x ⟨isIn01 _ _ _ _, fun _ => noQ (hQ _ (Rel_q hτ 1)), fun c => absurd (isIt0 hτ (by rw [e]; exact hx)) c⟩
theorem P_far {Γ : Nat × (Nat → Int32)} {d : Nat} {σ : mS} (h : Rel σ) (x : Int32) : mCall Γ M_X7_far (d + 12) 1 6 [.ref 0, .int x] 60 mSH σ (PO Γ (d + 12) xIO xIO M_X9_far 0 0 [.ref 26, .int x]) := by
  rcases itemCase (dn (DM σ)) x with ⟨k, hk, rfl⟩ | hx
  · refine S_far k h.V (by rw [h.D]; exact hk) ?_
    rw [h.D]
    refine PO_q h (FQ_r σ) 0 _ (.inl ⟨rfl, rfl⟩) (fun τ hτ e _ Q hQ => ?_)
    have hk' : k < dn (DM τ) := by rw [e]; exact hk
    refine E_X9_far_26 (nI k) ⟨isIn01 _ _ _ _, fun c => ab1 (isIt1 hτ hk') c, fun _ => ?_⟩
    refine S_farOf (σ := th τ 0) k (th_V hτ.S 0) hk' (T_X9_far_26_18a _ _ ?_)
    rw [show DM (th τ 0) = DM σ from e]
    exact hQ _ (Rel_q hτ 0)
  · refine S_far_x x h.V (by rw [h.D]; exact hx) (PO_q h (FQ_r σ) 1 0 (.inr (.inl ⟨rfl, rfl⟩)) (fun τ hτ e _ Q hQ => ?_))
    exact E_X9_far_26 x ⟨isIn01 _ _ _ _, fun _ => noQ (hQ _ (Rel_q hτ 1)), fun c => absurd (isIt0 hτ (by rw [e]; exact hx)) c⟩
theorem P_least {Γ : Nat × (Nat → Int32)} {d : Nat} {σ : mS} (h : Rel σ) (x : Int32) : mCall Γ M_X7_least (d + 12) 1 6 [.ref 0, .int x] 60 mSH σ (PO Γ (d + 12) xIO xIO M_X9_least 0 0 [.ref 26, .int x]) := by
  rcases itemCase (dn (DM σ)) x with ⟨k, hk, rfl⟩ | hx
  · refine C_X7_least_0 (nI k) ⟨fun c => ab1 (h.hi1 hk) c, fun _ => ?_⟩
    rw [c_least h.V (by rw [h.D]; exact hk), h.D]
    refine PO_q h (FQ_r σ) 0 _ (.inl ⟨rfl, rfl⟩) (fun τ hτ e _ Q hQ => ?_)
    have h40 := hτ.n40
    have hk' : k < dn (DM τ) := by rw [e]; exact hk
    refine C_X9_least_26 (nI k) ⟨isIn01 _ _ _ _, fun c => ab1 (isIt1 hτ hk') c, fun _ => ⟨vp_in_nI (by omega) (by omega), ?_⟩⟩
    have := m_least (σ := th τ 0) hk' h40
    rw [show f_X9_leastOf_26 (mPI τ 26 0 0) (nI k) = dLeast (DM (th τ 0)) k from this, show DM (th τ 0) = DM σ from e]
    exact hQ _ (Rel_q hτ 0)
  · refine C_X7_least_0 x ⟨fun _ => ?_, fun c => absurd (h.hi0 hx) c⟩
    refine PO_q h (FQ_r σ) 1 0 (.inr (.inl ⟨rfl, rfl⟩)) (fun τ hτ e _ Q hQ => ?_)
    exact C_X9_least_26 x ⟨isIn01 _ _ _ _, fun _ => noQ (hQ _ (Rel_q hτ 1)), fun c => absurd (isIt0 hτ (by rw [e]; exact hx)) c⟩
theorem P_leader {Γ : Nat × (Nat → Int32)} {d : Nat} {σ : mS} (h : Rel σ) : mCall Γ M_X7_leader (d + 12) 0 0 [.ref 0] 60 mSH σ (PO Γ (d + 12) xIO xIO M_X9_leader 0 0 [.ref 26]) := by
  refine S_leader (b := bF (DM σ)) h.I ?_
  rw [h.D, h.C]
  refine PO_q h (FQ_r σ) 0 _ (.inl ⟨rfl, rfl⟩) (fun τ hτ e _ Q hQ => ?_)
  refine S_leaderM hτ.S ?_
  rw [dLeader_congr hτ.S hτ.O hτ.B, e]
  exact hQ _ (Rel_q hτ 0)
theorem P_errorAt {Γ : Nat × (Nat → Int32)} {d : Nat} {σ : mS} (h : Rel σ) : mCall Γ M_X7_errorAt (d + 12) 0 0 [.ref 0] 60 mSH σ (PO Γ (d + 12) xIO xIO M_X9_errorAt 0 0 [.ref 26]) := by
  refine S_X7_errorAt_0 ?_
  refine PO_q h (FQ_r σ) 0 _ (.inl ⟨rfl, rfl⟩) (fun τ hτ e f Q hQ => ?_)
  refine S_X9_errorAt_26 ?_
  have : f_X7_errorAt_0 σ = (h_X9_errorAt_26 τ).1 := by
    show σ.1 0 8 = τ.1 26 1
    rw [← hτ.2.2.2.2.2, f.1 0 (by decide) (by decide)]
  rw [← this]
  exact hQ _ (Rel_q hτ 0)
theorem P_conceding {Γ : Nat × (Nat → Int32)} {d : Nat} {σ : mS} (h : Rel σ) (x y : Int32) : mCall Γ M_X7_conceding (d + 12) 2 12 [.ref 0, .int x, .int y] 60 mSH σ (PO Γ (d + 12) xIO xIO M_X9_conceding 0 0 [.ref 26, .int x, .int y]) := by
  have h40 := h.n40
  rcases itemCase (dn (DM σ)) x with ⟨k, hk, rfl⟩ | hx
  · rcases itemCase (ds (DM σ)) y with ⟨p, hp, rfl⟩ | hy
    · refine E_X7_conceding_0 (nI k) (nI p) ⟨fun c => ab1 (h.hi1 hk) c, fun _ => ⟨fun c => ab1 (h.hs1 hp) c, fun _ => ⟨h.V, ?_⟩⟩⟩
      refine S_sup (σ := σ) h.V (F18_r σ) (f_X7_bit σ (nI k)) 0 p (by rw [h.D]; exact hp) (fun τ hF => T_X7_conceding_0_30a _ _ _ ?_)
      rw [h.D, bB_one σ (by omega), bB_noS]
      refine PO_q h (FQ_18 hF) 0 _ (.inl ⟨rfl, rfl⟩) (fun τ hτ e _ Q hQ => ?_)
      refine S_concedingM k p hτ.S hτ.H (by rw [e]; exact hk) (by rw [e]; exact hp) (fun ρ g hr => ?_)
      rw [e]
      exact hQ _ (Rel_fth hτ g hr)
    · refine E_X7_conceding_0 (nI k) y ⟨fun c => ab1 (h.hi1 hk) c, fun _ => ⟨fun _ => ?_, fun c => absurd (h.hs0 hy) c⟩⟩
      refine PO_q h (FQ_r σ) 1 0 (.inr (.inl ⟨rfl, rfl⟩)) (fun τ hτ e _ Q hQ => ?_)
      exact S_concedingM_x _ _ hτ.S (.inr (by rw [e]; exact hy)) (hQ _ (Rel_q hτ 1))
  · refine E_X7_conceding_0 x y ⟨fun _ => ?_, fun c => absurd (h.hi0 hx) c⟩
    refine PO_q h (FQ_r σ) 1 0 (.inr (.inl ⟨rfl, rfl⟩)) (fun τ hτ e _ Q hQ => ?_)
    exact S_concedingM_x _ _ hτ.S (.inl (by rw [e]; exact hx)) (hQ _ (Rel_q hτ 1))
theorem bfG_congr {p p' : Nat → Bool} {ld ld' : Nat → Int32} {g : Int32} : ∀ n, (∀ k, k < n → p k = p' k ∧ ld k = ld' k) → bfG p ld g n = bfG p' ld' g n
  | 0, _ => rfl
  | n + 1, h => by rw [bfG_s, bfG_s, bfG_congr n (fun k hk => h k (by omega)), (h n (by omega)).1, (h n (by omega)).2]
theorem Rel.own {σ : mS} (h : Rel σ) (y : Int32) {k : Nat} (hk : k < dn (DM σ)) : bB (f_X0_itemsOfSpeaker_5 σ y) k = decide (db (DM σ) k = y) := by
  have h40 := h.n40
  have hn : (σ.1 5 10).toNatClampNeg = dn (DM σ) := by rw [← h.D]; rfl
  have hb : σ.1 10 k = db (DM σ) k := by
    rw [← h.D]
    show _ = mkI (dn (DC σ)) (σ.1 10) k
    rw [mkI, if_pos (by rw [h.D]; exact hk)]
  rw [f_X0_itemsOfSpeaker_5, hn, bB_setP _ _ h40, hb]
  simp [hk]
theorem P_concede {Γ : Nat × (Nat → Int32)} {d : Nat} {σ : mS} (h : Rel σ) (y : Int32) : mCall Γ M_X7_concede (d + 12) 1 6 [.ref 0, .int y] 60 mSH σ (PO Γ (d + 12) xIO xIO M_X9_concede 0 0 [.ref 26, .int y]) := by
  rcases itemCase (ds (DM σ)) y with ⟨p, hp, rfl⟩ | hy
  · refine E_X7_concede_0 (nI p) ⟨fun c => ab1 (h.hs1 hp) c, fun _ => ⟨h.cn, ?_⟩⟩
    refine S_bestFor (b := bF (DM σ)) p _ 1 h.I (by rw [h.D]; exact hp) (fun τ hF => T_X7_concede_0_19a _ _ ?_)
    rw [h.D, h.C]
    refine PO_q h (FQ_18 hF) 0 _ (.inl ⟨rfl, rfl⟩) (fun τ hτ e _ Q hQ => ?_)
    refine S_concedeM p hτ.S hτ.H (by rw [e]; exact hp) (fun ρ g hr => ?_)
    rw [dLead_congr hτ.S hτ.O hτ.B, e]
    rw [bfG_congr (p' := fun k => decide (db (DM σ) k = nI p)) (ld' := fun k => dSup (DM σ) (one1 k) noS p) (dn (DM σ)) (fun k hk => ⟨h.own _ hk, by rw [bfL, if_neg (by decide)]⟩)] at hQ
    exact hQ _ (Rel_fth hτ g hr)
  · refine E_X7_concede_0 y ⟨fun _ => ?_, fun c => absurd (h.hs0 hy) c⟩
    refine PO_q h (FQ_r σ) 1 0 (.inr (.inl ⟨rfl, rfl⟩)) (fun τ hτ e _ Q hQ => ?_)
    exact S_concedeM_x _ hτ.S (by rw [e]; exact hy) (hQ _ (Rel_q hτ 1))
theorem i50 : (50 : Int32) = nI 50 := by decide
theorem P_advise {Γ : Nat × (Nat → Int32)} {d : Nat} {σ : mS} (h : Rel σ) (y f : Int32) : mCall Γ M_X7_advise (d + 12) 2 12 [.ref 0, .int y, .int f] 60 mSH σ (PO Γ (d + 12) xIO xIA M_X9_advise 0 0 [.ref 26, .int y, .int f]) := by
  have h40 := h.n40
  rcases itemCase (ds (DM σ)) y with ⟨p, hp, rfl⟩ | hy
  · have bad : f < 1 ∨ 50 < f → PO Γ (d + 12) xIO xIA M_X9_advise 0 0 [.ref 26, .int (nI p), .int f] (.inr xIA) 60 mSH σ := fun hf => by
      refine PO_q h (FQ_r σ) 2 0 (.inr (.inr ⟨rfl, by decide, rfl⟩)) (fun τ hτ e _ Q hQ => ?_)
      exact S_adviseM_y p f hτ.S (by rw [e]; exact hp) hf (hQ _ (Rel_q hτ 2))
    refine E_X7_advise_0 (nI p) f ⟨fun c => ab1 (h.hs1 hp) c, fun _ => ⟨fun c => bad (.inl c), fun c1 => ⟨fun c2 => ⟨h.cn, ?_⟩, fun c2 => bad (.inr (Int32.not_le.mp c2))⟩⟩⟩
    refine S_bestFor (b := bF (DM σ)) p _ 0 h.I (by rw [h.D]; exact hp) (fun τ hF => T_X7_advise_0_63a _ _ _ _ ?_)
    rw [h.D, h.C]
    refine PO_q h (FQ_18 hF) 0 _ (.inl ⟨rfl, rfl⟩) (fun τ hτ e _ Q hQ => ?_)
    refine S_adviseM p f hτ.S hτ.H (by rw [e]; exact hp) ⟨c1, Int32.not_lt.mpr c2⟩ (fun ρ g hr => ?_)
    rw [dLead_congr hτ.S hτ.O hτ.B, e]
    rw [bfG_congr (p' := adP (DM σ) p f) (ld' := fun k => dSup (DM σ) noS (one1 k) p) (dn (DM σ)) (fun k hk => ⟨?_, by rw [bfL, if_pos rfl]⟩)] at hQ
    · exact hQ _ (Rel_fth hτ g hr)
    · have hn : (σ.1 5 10).toNatClampNeg = dn (DM σ) := by rw [← h.D]; rfl
      rw [bB_and, bB_and, bB_not _ (by omega), h.own _ hk, bB_setP _ _ (by omega), hn, f_X0_allItems_5, show σ.1 5 10 = nI (dn (DM σ)) by rw [← h.D]; exact cV_n h.V, bB_all σ (by omega), c_least h.V (by rw [h.D]; exact hk), h.D, adP]
      simp [hk]
  · refine E_X7_advise_0 y f ⟨fun _ => ?_, fun c => absurd (h.hs0 hy) c⟩
    refine PO_q h (FQ_r σ) 1 0 (.inr (.inl ⟨rfl, rfl⟩)) (fun τ hτ e _ Q hQ => ?_)
    exact S_adviseM_x _ _ hτ.S (by rw [e]; exact hy) (hQ _ (Rel_q hτ 1))
theorem P_frees {Γ : Nat × (Nat → Int32)} {d : Nat} {σ : mS} (h : Rel σ) (x : Int32) : mCall Γ M_X7_frees (d + 12) 1 6 [.ref 0, .int x] 60 mSH σ (PO Γ (d + 12) xIO xIO M_X9_frees 0 0 [.ref 26, .int x]) := by
  have h40 := h.n40
  rcases itemCase (dn (DM σ)) x with ⟨k, hk, rfl⟩ | hx
  · have mm : ∀ ρ, F18 σ ρ → PO Γ (d + 12) xIO xIO M_X9_frees 0 0 [.ref 26, .int (nI k)] (.inl (some (.int (frN (DM σ) (bF (DM σ)) k)))) 60 mSH ρ := fun ρ hF => by
      refine PO_q h (FQ_18 hF) 0 _ (.inl ⟨rfl, rfl⟩) (fun τ hτ e _ Q hQ => ?_)
      refine S_freesM k hτ.S hτ.H (by rw [e]; exact hk) (fun ρ g hr => ?_)
      have := hQ _ (Rel_fth hτ g hr)
      rw [frN, ← e, ← hτ.B k (by rw [e]; exact hk), ← frN] at this
      exact this
    have hk' : k < dn (DC σ) := by rw [h.D]; exact hk
    refine E_X7_frees_0 (nI k) ⟨fun c => ab1 (h.hi1 hk) c, fun _ => ?_⟩
    rw [c_isIn0_16 (b := bF (DM σ)) h40 (stB_ok _ _ _ _) h.2.1.2.1 (by omega)]
    refine ⟨fun c => ?_, fun c => ?_⟩
    · have e0 : frN (DM σ) (bF (DM σ)) k = frG (DM σ) k 0 (dn (DM σ)) := by rw [frN, if_neg c]
      rw [e0] at mm
      refine S_oneThat k h.V hk' (fun τ hF => ?_)
      rw [h.D]
      refine T_X7_frees_0_23a _ _ ⟨fun w => ?_, fun w => ?_⟩
      · rw [frG, if_pos w] at mm
        have hV' := F18_V hF h.V
        refine S_pairThat (σ := τ) k hV' (by rw [F18_D hF]; exact hk') (fun ρ hG => ?_)
        rw [F18_D hF, h.D]
        refine T_X7_frees_0_40a _ _ _ ?_
        exact mm ρ ⟨fun a h1 h2 => (hG.1 a h1 h2).trans (hF.1 a h1 h2), fun a h1 => (hG.2.1 a h1).trans (hF.2.1 a h1), hG.2.2.trans hF.2.2⟩
      · rw [frG, if_neg w] at mm
        exact mm τ hF
    · have e0 : frN (DM σ) (bF (DM σ)) k = 0 := by rw [frN, if_pos (Classical.not_not.mp c)]
      rw [e0] at mm
      exact mm σ (F18_r σ)
  · refine E_X7_frees_0 x ⟨fun _ => ?_, fun c => absurd (h.hi0 hx) c⟩
    refine PO_q h (FQ_r σ) 1 0 (.inr (.inl ⟨rfl, rfl⟩)) (fun τ hτ e _ Q hQ => ?_)
    exact S_freesM_x _ hτ.S (by rw [e]; exact hx) (hQ _ (Rel_q hτ 1))
theorem P_byteAt {Γ : Nat × (Nat → Int32)} {d : Nat} {σ : mS} (h : Rel σ) (x : Int32) : mCall Γ M_X7_byteAt (d + 12) 1 6 [.ref 0, .int x] 60 mSH σ (PO Γ (d + 12) xIO xIO M_X9_byteAt 0 0 [.ref 26, .int x]) := by
  obtain ⟨n, hn, hc, hm, hb⟩ := h.2.2.2.2.1
  have bad : (∀ k, k < n → x ≠ nI k) → PO Γ (d + 12) xIO xIO M_X9_byteAt 0 0 [.ref 26, .int x] (.inr xIO) 60 mSH σ := fun hx => by
    refine PO_q h (FQ_r σ) 1 0 (.inr (.inl ⟨rfl, rfl⟩)) (fun τ hτ e f Q hQ => ?_)
    refine C_X9_byteAt_26 x ⟨fun _ => noQ (hQ _ (Rel_q hτ 1)), fun c => absurd ?_ c⟩
    rw [f.1 26 (by decide) (by decide), hm, f_X9_isIn]
    by_cases a : x < 0
    · rw [if_pos a]
    · obtain ⟨j, hj, rfl⟩ := nI_of a
      rw [if_neg a]
      have hjn : n ≤ j := by
        apply Classical.byContradiction
        intro q
        exact hx j (by omega) rfl
      cases n with
      | zero =>
        rw [if_pos]
        rw [Int32.lt_iff_toInt_lt, nI_toInt hj]
        have : (nI 0 - 1).toInt = -1 := by decide
        omega
      | succ n => rw [nI_pred, if_pos (nI_lt (by omega) hj)]
  rcases itemCase n x with ⟨k, hk, rfl⟩ | hx
  · refine C_X7_byteAt_0 (nI k) ⟨fun c => absurd c (nI_pos (by omega)), fun c0 => ⟨fun _ => ?_, fun c => absurd (by rw [f_X3_length_3, hc]; exact nI_lt hk (by omega)) c⟩⟩
    rw [f_X3_at_3, if_neg c0, if_neg (by rw [hc]; exact nI_ge hk (by omega)), if_neg (by rw [show (920 : Int32) = nI 920 by decide]; exact nI_ge (by omega) (by omega)), nI_clamp (by omega), hb k hk]
    refine PO_q h (FQ_r σ) 0 _ (.inl ⟨rfl, rfl⟩) (fun τ hτ e f Q hQ => ?_)
    refine C_X9_byteAt_26 (nI k) ⟨fun c => ab1 ?_ c, fun _ => ⟨vp_in_nI (by omega) (by omega), ?_⟩⟩
    · obtain ⟨m, rfl⟩ : ∃ m, n = m + 1 := ⟨n - 1, by omega⟩
      rw [f.1 26 (by decide) (by decide), hm, f_X9_isIn, if_neg c0, nI_pred, if_neg (nI_nlt (by omega) (by omega))]
    · rw [nI_clamp (by omega), f.1 28 (by decide) (by decide)]
      exact hQ _ (Rel_q hτ 0)
  · refine C_X7_byteAt_0 x ⟨fun _ => bad hx, fun c0 => ⟨fun c => ?_, fun _ => bad hx⟩⟩
    obtain ⟨j, hj, rfl⟩ := nI_of c0
    rw [f_X3_length_3, hc, nI_ltI hj (by omega)] at c
    exact absurd rfl (hx j c)
