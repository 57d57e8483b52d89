/-! ===== what never throws ===== -/
theorem PN_leader {Γ : Nat × (Nat → Int32)} {d : Nat} {σ : mS} (h : Rel σ) : mCall Γ M_X7_leader (d + 12) 0 0 [.ref 0] 60 mSH σ (PN Γ (d + 12) M_X9_leader 0 0 [.ref 26]) := by
  refine S_leader (b := bF (DM σ)) h.I ?_
  rw [h.D, h.C]
  refine fun E1 E2 => PO_q h (FQ_r σ) 0 _ (.inl ⟨rfl, rfl⟩) (fun τ hτ e _ Q hQ => ?_)
  refine S_leaderM hτ.S ?_
  rw [dLeader_congr hτ.S hτ.O hτ.B, e]
  exact hQ _ (Rel_q hτ 0)
theorem PN_errorAt {Γ : Nat × (Nat → Int32)} {d : Nat} {σ : mS} (h : Rel σ) : mCall Γ M_X7_errorAt (d + 12) 0 0 [.ref 0] 60 mSH σ (PN Γ (d + 12) M_X9_errorAt 0 0 [.ref 26]) := by
  refine S_X7_errorAt_0 ?_
  refine fun E1 E2 => PO_q h (FQ_r σ) 0 _ (.inl ⟨rfl, rfl⟩) (fun τ hτ e f Q hQ => ?_)
  refine S_X9_errorAt_26 ?_
  have : f_X7_errorAt_0 σ = (h_X9_errorAt_26 τ).1 := by
    show σ.1 0 8 = τ.1 26 1
    rw [← hτ.2.2.2.2.2, f.1 0 (by decide) (by decide)]
  rw [← this]
  exact hQ _ (Rel_q hτ 0)
theorem PN_sheet {Γ : Nat × (Nat → Int32)} {d : Nat} {σ : mS} (h : Rel σ) : mCall Γ M_X7_sheet (d + 12) 0 0 [.ref 0] 60 mSH σ (PN Γ (d + 12) M_X9_sheet 0 0 [.ref 26]) := by
  have h40 := h.n40
  have l0 := shL_len (DM σ) (bF (DM σ)) (dn (DM σ))
  obtain ⟨n, hn, hc, hm, hb⟩ := h.2.2.2.2.1
  refine E_X7_sheet_0 ?_
  have e0 : g_X3_shortenTo_3 σ 0 = mPI σ 3 1 0 := by
    rw [g_X3_shortenTo_3, if_neg (by decide), hc, if_neg (nI_pos (by omega))]
  have p0 : pX σ (g_X3_shortenTo_3 σ 0) [] := by
    rw [e0]
    exact ⟨fun a h1 h2 => mPI_ne h1, rfl, by rw [mPI_at, if_pos rfl]; rfl, fun i hi => absurd hi (Nat.not_lt_zero _)⟩
  refine L_sheetC h (fun τ1 p1 => ?_) (dn (DM σ)) 0 (Nat.zero_add _) _ p0
  refine fun E1 E2 => ⟨rfl, rfl, 0, _, .inl ⟨rfl, rfl⟩, fun τ e Q hQ => ?_⟩
  have a1 : ∀ a, a ≠ 3 → a ≠ 4 → τ.1 a = σ.1 a := fun a h3 h4 => by rw [e.1]; exact p1.1 a h3 h4
  have a2 : ∀ a, a ≠ 59 → τ.2.1 a = σ.2.1 a := fun a h59 => by rw [e.2.1 a h59, p1.2.1]
  have eD : DM τ = DM σ := by
    rw [DM, DM, a1 32 (by decide) (by decide), a1 34 (by decide) (by decide), a1 36 (by decide) (by decide), a1 37 (by decide) (by decide), a1 38 (by decide) (by decide), a1 39 (by decide) (by decide), a1 40 (by decide) (by decide), a1 41 (by decide) (by decide), a2 35 (by decide), a2 33 (by decide)]
  refine E_X9_sheet_26 ?_
  have eθ : DM (mPI (mPI τ 26 0 0) 26 4 0) = DM σ := eD
  have q0 : mXp (mPI (mPI τ 26 0 0) 26 4 0) (mPI (mPI τ 26 0 0) 26 4 0) [] := ⟨fun _ _ _ => rfl, fun _ _ => rfl, rfl, by rw [mPI_at, if_pos rfl]; rfl, fun i hi => absurd hi (Nat.not_lt_zero _)⟩
  have hBτ : agr (dn (DM σ)) (τ.1 52) (bF (DM σ)) := by rw [a1 52 (by decide) (by decide)]; exact h.B
  refine L_sheetM (σ := mPI (mPI τ 26 0 0) 26 4 0) (by rw [sV, eθ]; exact h.S) (by rw [eθ]; exact h.1.2.2) (by rw [eθ, mPI_ne (by decide), mPI_ne (by decide)]; exact hBτ) (fun ρ p2 => ?_) (dn (DM (mPI (mPI τ 26 0 0) 26 4 0))) 0 (Nat.zero_add _) _ q0
  rw [eθ] at p2 ⊢
  refine hQ ρ ⟨Rel_P h (fun a ha h1 h2 h3 h4 => ?_) (fun k k0 k4 => ?_) (fun a ha => ?_) ⟨(shL (DM σ) (bF (DM σ)) (dn (DM σ))).length, by omega, ?_, p2.2.2.2.1, fun i hi => ?_⟩, ?_, ?_⟩
  · rw [p2.1 a h3 h4, mPI_ne h3, mPI_ne h3]; exact a1 a h1 h2
  · rw [p2.2.1 k k4, mPI_at, if_neg k4, mPI_at, if_neg k0]; rw [a1 26 (by decide) (by decide)]
  · rw [p2.2.2.1]; exact a2 a (by omega)
  · rw [p2.1 3 (by decide) (by decide), mPI_ne (by decide), mPI_ne (by decide), e.1]; exact p1.2.2.1
  · rw [p2.1 4 (by decide) (by decide), mPI_ne (by decide), mPI_ne (by decide), e.1, p1.2.2.2 i hi, p2.2.2.2.2 i hi]
  · rw [p2.2.1 0 (by decide), mPI_at, if_neg (by decide), mPI_at, if_pos rfl]
  · rw [p2.2.2.1]; rfl
theorem PN_tell {Γ : Nat × (Nat → Int32)} {d : Nat} {σ : mS} (h : Rel σ) : mCall Γ M_X7_tell (d + 36) 0 0 [.ref 0] 60 mSH σ (PN Γ (d + 36) M_X9_tell 0 0 [.ref 26]) := by
  obtain ⟨n, hn, hc, hm, hbt⟩ := h.2.2.2.1
  obtain ⟨cD0, mD0, nm0, rs0, rm0⟩ := Rel_un h
  have hb : bytes n (σ.1 27) := fun i hi => by rw [← hbt i hi]; exact and255 _
  have tC0 : tapeC σ n (σ.1 27) := ⟨hc, hbt⟩
  refine E_X7_tell_0 (S_readFrom (d := d + 31) tC0 hn (fun J τ hJ hR hend => T_X7_tell_0_11a ?_))
  obtain ⟨r1, r2, r3, r4⟩ := hR
  have eg : g_X3_shortenTo_1 τ 0 = mPI τ 1 1 0 := by
    rw [g_X3_shortenTo_1, if_neg (by decide), r1 1 (by decide) (by decide), hc, if_neg (nI_pos (by omega))]
  rw [eg]
  have tC2 : tC (mPI τ 1 1 0) (KT n (σ.1 27)) (pT n (σ.1 27)) (VT n (σ.1 27)) (J + 1) := by
    refine ⟨⟨by rw [mPI_ne (by decide)]; exact r3, by omega⟩, KT_lt n _, fun i => Nat.le_trans (pT_le n _ i) hn, fun i hi => ?_⟩
    rw [mPI_ne (show 22 ≠ 1 by decide)]
    exact r4 i hi
  have s1 : ∀ a, a ≠ 1 → a ≠ 20 → a ≠ 22 → (mPI τ 1 1 0).1 a = σ.1 a := fun a h1 h2 h3 => by rw [mPI_ne h1]; exact r1 a h2 h3
  have s11 : (mPI τ 1 1 0).1 1 1 = 0 := by rw [mPI_at, if_pos rfl]
  have s2 : ∀ a, a ≠ 23 → (mPI τ 1 1 0).2.1 a = σ.2.1 a := fun a h1 => r2 a h1
  generalize mPI τ 1 1 0 = τ2 at *
  have hE : gEnd (KT n (σ.1 27)) J := hend
  have pl := gTx_le hE 400 (0, true) (Nat.zero_le J)
  -- the model's side, for every way the class may end
  have model : ∀ (ρ : mS) (x : Int32) (v : Int32), fC σ ρ →
      ((gTx (KT n (σ.1 27)) 400 (0, true)).2 = false → v = 1 ∧ cD ρ (DM σ) ∧ RSD ρ (DM σ) ∧ ρ.1 0 8 = nI (pT n (σ.1 27) (gTx (KT n (σ.1 27)) 400 (0, true)).1)) →
      ((gTx (KT n (σ.1 27)) 400 (0, true)).2 = true → ∀ c j, (CO (KT n (σ.1 27)) (VT n (σ.1 27)) 400 0 (DM σ) (0, x)).2 = (nI c, nI j) → 0 < c → c < 8 → j ≤ J → v = nI c ∧ cD ρ (DM σ) ∧ RSD ρ (DM σ) ∧ ρ.1 0 8 = nI (pT n (σ.1 27) j)) →
      ((gTx (KT n (σ.1 27)) 400 (0, true)).2 = true → (CO (KT n (σ.1 27)) (VT n (σ.1 27)) 400 0 (DM σ) (0, x)).2.1 = 0 → v = 0 ∧ cD ρ (CO (KT n (σ.1 27)) (VT n (σ.1 27)) 400 0 (DM σ) (0, x)).1 ∧ nmD (CO (KT n (σ.1 27)) (VT n (σ.1 27)) 400 0 (DM σ) (0, x)).1 ∧ RSD ρ (CO (KT n (σ.1 27)) (VT n (σ.1 27)) 400 0 (DM σ) (0, x)).1 ∧ ρ.1 0 8 = -1) →
      PN Γ (d + 36) M_X9_tell 0 0 [.ref 26] (.inl (some (.int v))) 60 mSH ρ := by
    intro ρ x v fc g1 g2 g3
    refine fun E1 E2 => ⟨rfl, rfl, 0, v, .inl ⟨rfl, rfl⟩, fun τm e Q hQ => ?_⟩
    have tm : tapeM τm n (σ.1 27) := by rw [tapeM, e.1, fc.1 26 (by decide), fc.1 27 (by decide)]; exact ⟨hm, fun i _ => rfl⟩
    have mDm : mD τm (DM σ) := mD_c mD0 (fun a h1 h2 => by rw [e.1]; exact fc.1 a (by omega)) (fun a h1 h2 => by rw [e.2.1 a (by omega)]; exact fc.2.1 a (by omega))
    have e26 : τm.1 26 = σ.1 26 := by rw [e.1]; exact fc.1 26 (by decide)
    have hHm : hM τm := by rw [hM, e26]; exact h.H
    have keepR : ∀ ρ2, fT τm ρ2 → ρ2.1 52 = τm.1 52 → ρ2.1 53 = τm.1 53 → ρ2.1 26 15 = τm.1 26 15 → RMD ρ2 (DM σ) := fun ρ2 f h52 h53 h15 => by
      refine ⟨fun k hk => ?_, ?_, ?_⟩
      · rw [h52, h53, e.1, fc.1 52 (by decide), fc.1 53 (by decide)]; exact rm0.1 k hk
      · rw [h15, e26]; exact rm0.2.1
      · rw [hM, f.2.2.1 18 (by decide) (by decide) (by decide) (by decide) (by decide) (by decide), f.2.2.1 19 (by decide) (by decide) (by decide) (by decide) (by decide) (by decide), f.2.2.1 20 (by decide) (by decide) (by decide) (by decide) (by decide) (by decide), e26]; exact h.H
    have e59' : ∀ ρ2, fT τm ρ2 → ρ2.2.1 59 = τm.2.1 59 := fun ρ2 f => f.2.2.2.1 59 (by decide)
    refine S_tellM x tm hn hb mDm hHm (fun bad ρ2 f m h52 h53 h15 her => ?_) (fun good c j ρ2 ee c0 c8 j4 jm f m h52 h53 h15 her => ?_) (fun good z ρ2 f m hk h15 her => ?_)
    · obtain ⟨v1, c1, rs, er⟩ := g1 bad
      rw [v1] at hQ
      exact hQ ρ2 ⟨Rel_fin h fc e f c1 rs m nm0 (keepR ρ2 f h52 h53 h15) (er.trans her.symm), f.2.2.2.2.2.1, e59' ρ2 f⟩
    · obtain ⟨v1, c1, rs, er⟩ := g2 good c j ee c0 c8 (jm J hJ hend)
      rw [v1] at hQ
      exact hQ ρ2 ⟨Rel_fin h fc e f c1 rs m nm0 (keepR ρ2 f h52 h53 h15) (er.trans her.symm), f.2.2.2.2.2.1, e59' ρ2 f⟩
    · obtain ⟨v1, c1, nm1, rs, er⟩ := g3 good z
      rw [v1] at hQ
      refine hQ ρ2 ⟨Rel_fin h fc e f c1 rs m nm1 ⟨hk, h15, ?_⟩ (er.trans her.symm), f.2.2.2.2.2.1, e59' ρ2 f⟩
      rw [hM, f.2.2.1 18 (by decide) (by decide) (by decide) (by decide) (by decide) (by decide), f.2.2.1 19 (by decide) (by decide) (by decide) (by decide) (by decide) (by decide), f.2.2.1 20 (by decide) (by decide) (by decide) (by decide) (by decide) (by decide), e26]; exact h.H
  refine S_textG (d := d + 15) tC2 hE (Nat.lt_succ_self J) (T_X7_tell_0_27a _ ⟨fun c => ?_, fun c => ?_⟩)
  · -- the text is one
    have good : (gTx (KT n (σ.1 27)) 400 (0, true)).2 = true := Classical.byContradiction fun z => by
      rw [if_neg z] at c
      exact nI_m1 (by have := pT_le n (σ.1 27) (gTx (KT n (σ.1 27)) 400 (0, true)).1; omega) c
    rw [if_pos good]
    have u1 : ∀ a, a ≠ 0 → a ≠ 1 → a ≠ 20 → a ≠ 22 → a ≠ 24 → (mPI (gS τ2 (gTx (KT n (σ.1 27)) 400 (0, true))) 0 8 (-1)).1 a = σ.1 a := fun a h0 h1 h2 h3 h4 => by rw [mPI_ne h0, gS_ne _ _ h4]; exact s1 a h1 h2 h3
    have u11 : (mPI (gS τ2 (gTx (KT n (σ.1 27)) 400 (0, true))) 0 8 (-1)).1 1 1 = 0 := by rw [mPI_ne (by decide), gS_ne _ _ (by decide)]; exact s11
    have u08 : (mPI (gS τ2 (gTx (KT n (σ.1 27)) 400 (0, true))) 0 8 (-1)).1 0 8 = -1 := by rw [mPI_at, if_pos rfl]
    have u2 : ∀ a, a ≠ 23 → (mPI (gS τ2 (gTx (KT n (σ.1 27)) 400 (0, true))) 0 8 (-1)).2.1 a = σ.2.1 a := fun a h1 => s2 a h1
    have tC3 : tC (mPI (gS τ2 (gTx (KT n (σ.1 27)) 400 (0, true))) 0 8 (-1)) (KT n (σ.1 27)) (pT n (σ.1 27)) (VT n (σ.1 27)) (J + 1) := by
      rw [tC, mPI_ne (show 20 ≠ 0 by decide), mPI_ne (show 22 ≠ 0 by decide), gS_ne _ _ (by decide), gS_ne _ _ (by decide)]; exact tC2
    generalize mPI (gS τ2 (gTx (KT n (σ.1 27)) 400 (0, true))) 0 8 (-1) = μ at *
    have cDμ : cD μ (DM σ) := cD_c cD0 (fun a h1 h2 => u1 a (by omega) (by omega) (by omega) (by omega) (by omega)) (fun a h1 h2 => u2 a (by omega))
    obtain ⟨q1, q2, q3, q4, q5, q6, q7⟩ := keep_if μ
    have cDκ := keep_D cDμ
    refine S_X0_keep_5 (T_X7_tell_0_47a ?_)
    have q1' : ∀ a, a ≠ 5 → a ≠ 15 → (g_X0_keep_5 μ).1 a = μ.1 a := fun a h1 h2 => funext fun k => q1 a k h2 (fun e => absurd e h1)
    have q2' : ∀ a, a ≠ 5 → (g_X0_keep_5 μ).2.1 a = μ.2.1 a := fun a h1 => funext fun k => q2 a k (fun e => absurd e h1)
    have tCκ : tC (g_X0_keep_5 μ) (KT n (σ.1 27)) (pT n (σ.1 27)) (VT n (σ.1 27)) (J + 1) := by
      rw [tC, q1' 20 (by decide) (by decide), q1' 22 (by decide) (by decide), q2' 23 (by decide), q3]; exact tC3
    generalize g_X0_keep_5 μ = κ at *
    refine S_carT2 (d := d + 9) tCκ hE (Nat.lt_succ_self J) hJ (tK_T hb) cDκ nm0 good (fun τ' t' hI hx hn' => T_X7_tell_0_54a _ ⟨fun z => ?_, fun z => ?_⟩)
    · -- all lines are carried out
      refine S_seC (d := d + 30) hI.2.1 (fun ρ c1 rs w1 w2 _ => T_X7_tell_0_86a _ ?_)
      have fx : ∀ a, a < 5 ∨ 17 < a → a ≠ 25 → ρ.1 a = μ.1 a := fun a h1 h2 => by rw [w1 a (by omega) (by omega), hI.1.1 a (by omega) (by omega) (by omega) h2, q1' a (by omega) (by omega)]
      refine model ρ (κ.1 25 5) _ ⟨fun a ha => ?_, fun a ha => ?_, ?_, ?_, ?_⟩ (fun bad => absurd (good.symm.trans bad) (by decide)) (fun _ c' j ee c0 c8 jJ => ?_) (fun _ _ => ⟨z, c1, hn', rs, ?_⟩)
      · rw [fx a (by omega) (by omega)]; exact u1 a (by omega) (by omega) (by omega) (by omega) (by omega)
      · rw [w2 a (by omega), hI.1.2.2.1 a (by omega) (by omega), q2' a (by omega)]; exact u2 a (by omega)
      · rw [fx 3 (by decide) (by decide)]; exact u1 3 (by decide) (by decide) (by decide) (by decide) (by decide)
      · rw [fx 4 (by decide) (by decide)]; exact u1 4 (by decide) (by decide) (by decide) (by decide) (by decide)
      · rw [fx 1 (by decide) (by decide)]; exact u11
      · rw [ee] at z
        have := (nI_eq (show c' < 2 ^ 31 by omega) (by decide)).mp (z.trans nI_0.symm)
        omega
      · rw [fx 0 (by decide) (by decide)]; exact u08
    · -- a line is wrong
      refine S_X5_errorPlace_25 (d := d + 33) (fun a b c' => sz401 a c') (T_X7_tell_0_67a _ _ ?_)
      have cD1 : cD (mPI τ' 0 8 (f_X5_errorPlace_25 τ')) (CO (KT n (σ.1 27)) (VT n (σ.1 27)) 400 0 (DM σ) (0, κ.1 25 5)).1 := cD_c hI.2.1 (fun a h1 h2 => mPI_ne (by omega)) (fun a h1 h2 => rfl)
      have kp : (mPI τ' 0 8 (f_X5_errorPlace_25 τ')).1 5 13 = μ.1 5 2 ∧ (mPI τ' 0 8 (f_X5_errorPlace_25 τ')).1 5 14 = μ.1 5 10 ∧ (mPI τ' 0 8 (f_X5_errorPlace_25 τ')).2.1 5 15 = μ.2.1 5 11 ∧ ∀ k, k < 6 → (mPI τ' 0 8 (f_X5_errorPlace_25 τ')).1 15 k = μ.1 7 k := by
        refine ⟨?_, ?_, ?_, fun k hk => ?_⟩
        · rw [mPI_ne (by decide), hI.1.2.1 13 (by decide) (by decide)]; exact q4
        · rw [mPI_ne (by decide), hI.1.2.1 14 (by decide) (by decide)]; exact q5
        · rw [mPI_2, hI.1.2.2.2.1 15 (by decide)]; exact q6
        · rw [mPI_ne (by decide), hI.1.1 15 (by decide) (by decide) (by decide) (by decide)]; exact q7 k hk
      have cB := back_D cDμ cD1 hx kp
      obtain ⟨p1, p2, _⟩ := back_if (mPI τ' 0 8 (f_X5_errorPlace_25 τ'))
      refine S_X0_goBack_5 (d := d + 34) (T_X7_tell_0_77a _ (S_seC (d := d + 30) cB (fun ρ c1 rs w1 w2 _ => T_X7_tell_0_86a _ ?_)))
      have fx : ∀ a, a < 5 ∨ 17 < a → a ≠ 25 → a ≠ 0 → ρ.1 a = μ.1 a := fun a h1 h2 h0 => by
        rw [w1 a (by omega) (by omega), show (g_X0_goBack_5 (mPI τ' 0 8 (f_X5_errorPlace_25 τ'))).1 a = (mPI τ' 0 8 (f_X5_errorPlace_25 τ')).1 a from funext fun k => p1 a k (by omega) (fun e => by omega), mPI_ne h0, hI.1.1 a (by omega) (by omega) (by omega) h2, q1' a (by omega) (by omega)]
      have f08 : ρ.1 0 8 = f_X5_errorPlace_25 τ' := by
        rw [w1 0 (by decide) (by decide), p1 0 8 (by decide) (fun e => absurd e (by decide)), mPI_at, if_pos rfl]
      refine model ρ (κ.1 25 5) _ ⟨fun a ha => ?_, fun a ha => ?_, ?_, ?_, ?_⟩ (fun bad => absurd (good.symm.trans bad) (by decide)) (fun _ c' j ee c0 c8 jJ => ⟨by rw [ee], c1, rs, ?_⟩) (fun _ z0 => absurd z0 z)
      · rw [fx a (by omega) (by omega) (by omega)]; exact u1 a (by omega) (by omega) (by omega) (by omega) (by omega)
      · rw [w2 a (by omega), show (g_X0_goBack_5 (mPI τ' 0 8 (f_X5_errorPlace_25 τ'))).2.1 a = τ'.2.1 a from funext fun k => p2 a k (fun e => by omega), hI.1.2.2.1 a (by omega) (by omega), q2' a (by omega)]; exact u2 a (by omega)
      · rw [fx 3 (by decide) (by decide) (by decide)]; exact u1 3 (by decide) (by decide) (by decide) (by decide) (by decide)
      · rw [fx 4 (by decide) (by decide) (by decide)]; exact u1 4 (by decide) (by decide) (by decide) (by decide) (by decide)
      · rw [fx 1 (by decide) (by decide) (by decide)]; exact u11
      · have tC' := fK_tC hI.1 tCκ
        have e5 := hI.2.2.2.2
        rw [ee] at e5
        have e5 : τ'.1 25 5 = nI j := e5
        rw [f08, f_X5_errorPlace_25, e5, f_X6_placeOf_20, if_neg (nI_pos (by omega)), tC'.1.1, if_neg (nI_ge (show j < J + 1 by omega) (by omega)), if_neg (by rw [i400]; exact nI_nlt (by omega) (by omega)), nI_clamp (by omega)]
        exact (tC'.2.2.2 j (by omega)).2.1
  · -- the text is none
    have bad : (gTx (KT n (σ.1 27)) 400 (0, true)).2 = false := bTF fun z => c (if_pos z)
    rw [if_neg (by rw [bad]; decide)]
    have u1 : ∀ a, a ≠ 0 → a ≠ 1 → a ≠ 20 → a ≠ 22 → a ≠ 24 → (mPI (gS τ2 (gTx (KT n (σ.1 27)) 400 (0, true))) 0 8 (nI (pT n (σ.1 27) (gTx (KT n (σ.1 27)) 400 (0, true)).1))).1 a = σ.1 a := fun a h0 h1 h2 h3 h4 => by rw [mPI_ne h0, gS_ne _ _ h4]; exact s1 a h1 h2 h3
    have u11 : (mPI (gS τ2 (gTx (KT n (σ.1 27)) 400 (0, true))) 0 8 (nI (pT n (σ.1 27) (gTx (KT n (σ.1 27)) 400 (0, true)).1))).1 1 1 = 0 := by rw [mPI_ne (by decide), gS_ne _ _ (by decide)]; exact s11
    have u08 : (mPI (gS τ2 (gTx (KT n (σ.1 27)) 400 (0, true))) 0 8 (nI (pT n (σ.1 27) (gTx (KT n (σ.1 27)) 400 (0, true)).1))).1 0 8 = nI (pT n (σ.1 27) (gTx (KT n (σ.1 27)) 400 (0, true)).1) := by rw [mPI_at, if_pos rfl]
    have u2 : ∀ a, a ≠ 23 → (mPI (gS τ2 (gTx (KT n (σ.1 27)) 400 (0, true))) 0 8 (nI (pT n (σ.1 27) (gTx (KT n (σ.1 27)) 400 (0, true)).1))).2.1 a = σ.2.1 a := fun a h1 => s2 a h1
    refine model _ 0 1 ⟨fun a ha => u1 a (by omega) (by omega) (by omega) (by omega) (by omega), fun a ha => u2 a (by omega), u1 3 (by decide) (by decide) (by decide) (by decide) (by decide), u1 4 (by decide) (by decide) (by decide) (by decide) (by decide), u11⟩ (fun _ => ⟨rfl, ?_, ?_, u08⟩) (fun good => absurd (good.symm.trans bad) (by decide)) (fun good => absurd (good.symm.trans bad) (by decide))
    · exact cD_c cD0 (fun a h1 h2 => u1 a (by omega) (by omega) (by omega) (by omega) (by omega)) (fun a h1 h2 => u2 a (by omega))
    · rw [RSD, u2 16 (by decide), u2 5 (by decide), u1 16 (by decide) (by decide) (by decide) (by decide) (by decide), u1 17 (by decide) (by decide) (by decide) (by decide) (by decide)]; exact rs0
