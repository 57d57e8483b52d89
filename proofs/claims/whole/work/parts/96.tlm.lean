/-! ===== the model's tell ===== -/
def fT (μ ρ : mS) : Prop := (∀ a, a < 26 → ρ.1 a = μ.1 a) ∧ ρ.1 28 = μ.1 28 ∧ (∀ k, k ≠ 0 → k ≠ 1 → k ≠ 2 → k ≠ 6 → k ≠ 10 → k ≠ 15 → ρ.1 26 k = μ.1 26 k) ∧ (∀ a, (a < 26 ∨ 51 < a) → ρ.2.1 a = μ.2.1 a) ∧ ρ.2.2 = μ.2.2 ∧ ρ.1 26 0 = 0 ∧ ρ.1 26 2 = 0
theorem mD_c {σ τ : mS} {D : mDeb} (h : mD σ D) (h1 : ∀ a, 32 ≤ a → a ≤ 41 → τ.1 a = σ.1 a) (h2 : ∀ a, 32 ≤ a → a ≤ 41 → τ.2.1 a = σ.2.1 a) : mD τ D := by
  refine ⟨h.1, ?_⟩
  rw [← h.2, DM, DM, h1 32 (by decide) (by decide), h1 34 (by decide) (by decide), h1 36 (by decide) (by decide), h1 37 (by decide) (by decide), h1 38 (by decide) (by decide), h1 39 (by decide) (by decide), h1 40 (by decide) (by decide), h1 41 (by decide) (by decide), h2 35 (by decide) (by decide), h2 33 (by decide) (by decide)]
theorem S_tellM {Γ : Nat × (Nat → Int32)} {d : Nat} {Q : mQ} {μ : mS} {n : Nat} {f : Nat → Int32} {D : mDeb} (x : Int32) (ht : tapeM μ n f) (hn : n ≤ 2000) (hb : bytes n f) (hD : mD μ D) (hH : hM μ)
    (hBad : (gTx (KT n f) 400 (0, true)).2 = false → ∀ ρ, fT μ ρ → mD ρ D → ρ.1 52 = μ.1 52 → ρ.1 53 = μ.1 53 → ρ.1 26 15 = μ.1 26 15 → ρ.1 26 1 = nI (pT n f (gTx (KT n f) 400 (0, true)).1) → Q (.inl (some (.int 1))) 60 mSH ρ)
    (hErr : (gTx (KT n f) 400 (0, true)).2 = true → ∀ c j ρ, (CO (KT n f) (VT n f) 400 0 D (0, x)).2 = (nI c, nI j) → 0 < c → c < 8 → j ≤ 400 → (∀ J, J ≤ 400 → (KT n f J = 26 ∨ KT n f J = 27) → j ≤ J) → fT μ ρ → mD ρ D → ρ.1 52 = μ.1 52 → ρ.1 53 = μ.1 53 → ρ.1 26 15 = μ.1 26 15 → ρ.1 26 1 = nI (pT n f j) → Q (.inl (some (.int (nI c)))) 60 mSH ρ)
    (hOk : (gTx (KT n f) 400 (0, true)).2 = true → (CO (KT n f) (VT n f) 400 0 D (0, x)).2.1 = 0 → ∀ ρ, fT μ ρ → mD ρ (CO (KT n f) (VT n f) 400 0 D (0, x)).1 → (∀ k, k < dn (CO (KT n f) (VT n f) 400 0 D (0, x)).1 → ρ.1 52 k = bF (CO (KT n f) (VT n f) 400 0 D (0, x)).1 k ∧ ρ.1 53 k = nF (CO (KT n f) (VT n f) 400 0 D (0, x)).1 k) → ρ.1 26 15 = nI (rF (CO (KT n f) (VT n f) 400 0 D (0, x)).1) → ρ.1 26 1 = -1 → Q (.inl (some (.int 0))) 60 mSH ρ) :
    mCall Γ M_X9_tell (d + 36) 0 0 [.ref 26] 60 mSH μ Q := by
  refine E_X9_tell_26 ?_
  have ht0 : tapeM (mPI (mPI μ 26 0 0) 26 1 (-1)) n f := by
    rw [tapeM, mPI_at, if_neg (by decide), mPI_at, if_neg (by decide), mPI_ne (show 27 ≠ 26 by decide), mPI_ne (show 27 ≠ 26 by decide)]; exact ht
  refine S_read (d := d + 33) ht0 hn hb (fun E τ hE4 hR hend hpre => T_X9_tell_26_14a ?_)
  obtain ⟨r1, r2, r3, r4, r5, r6⟩ := hR
  have hE : gEnd (KT n f) E := hend
  have hF := tF_T hb
  have hN := tN_T hb
  -- where the model stands when it has read
  have c1 : ∀ a, a ≠ 26 → a ≠ 29 → a ≠ 30 → (mPI τ 26 2 0).1 a = μ.1 a := fun a h1 h2 h3 => by rw [mPI_ne h1, r1 a h1 h2 h3, mPI_ne h1, mPI_ne h1]
  have c26 : ∀ k, k ≠ 0 → k ≠ 1 → k ≠ 2 → k ≠ 6 → (mPI τ 26 2 0).1 26 k = μ.1 26 k := fun k h0 h1 h2 h6 => by rw [mPI_at, if_neg h2, r2 k h6, mPI_at, if_neg h1, mPI_at, if_neg h0]
  have c0 : (mPI τ 26 2 0).1 26 0 = 0 := by rw [mPI_at, if_neg (by decide), r2 0 (by decide), mPI_at, if_neg (by decide), mPI_at, if_pos rfl]
  have cE : (mPI τ 26 2 0).1 26 1 = -1 := by rw [mPI_at, if_neg (by decide), r2 1 (by decide), mPI_at, if_pos rfl]
  have c2' : (mPI τ 26 2 0).1 26 2 = 0 := by rw [mPI_at, if_pos rfl]
  have cl : ∀ a, a ≠ 31 → (mPI τ 26 2 0).2.1 a = μ.2.1 a := fun a h => r3 a h
  have cr : (mPI τ 26 2 0).2.2 = μ.2.2 := r4
  have tm : tM (mPI τ 26 2 0) (KT n f) (pT n f) (VT n f) (E + 1) := by
    refine ⟨by omega, KT_lt n f, fun i => Nat.le_trans (pT_le n f i) hn, fun i hi => ?_⟩
    rw [mPI_ne (show 29 ≠ 26 by decide), mPI_ne (show 30 ≠ 26 by decide)]
    exact r6 i hi
  have mDm : mD (mPI τ 26 2 0) D := mD_c hD (fun a h1 h2 => c1 a (by omega) (by omega) (by omega)) (fun a h1 h2 => cl a (by omega))
  have hHm : hM (mPI τ 26 2 0) := by rw [hM, c26 18 (by decide) (by decide) (by decide) (by decide), c26 19 (by decide) (by decide) (by decide) (by decide), c26 20 (by decide) (by decide) (by decide) (by decide)]; exact hH
  generalize mPI τ 26 2 0 = μ2 at *
  have pl := gTx_le hE 400 (0, true) (Nat.zero_le E)
  refine S_textM (d := d + 3) tm hF hE (Nat.lt_succ_self E) hE4 (T_X9_tell_26_23a _ ⟨fun z => ?_, fun z => ?_⟩)
  · have bad := b01_0.mp z
    rw [mgS_t]
    refine ⟨vp_in_nI (by omega) (by omega), ?_⟩
    rw [h_X9_fail_26, nI_clamp (by omega)]
    have e30 : (mgS μ2 (gTx (KT n f) 400 (0, true)).1).1 30 (gTx (KT n f) 400 (0, true)).1 = nI (pT n f (gTx (KT n f) 400 (0, true)).1) := by
      rw [mgS, mPI_ne (by decide)]; exact (tm.2.2.2 _ (by omega)).2.1
    rw [e30]
    refine hBad bad _ ⟨fun a h => ?_, ?_, fun k h0 h1 h2 h6 h10 _ => ?_, fun a h => cl a (by omega), cr, ?_, ?_⟩ mDm ?_ ?_ ?_ ?_
    · rw [mPI_ne (by omega), mgS, mPI_ne (by omega)]; exact c1 a (by omega) (by omega) (by omega)
    · rw [mPI_ne (by omega), mgS, mPI_ne (by omega)]; exact c1 28 (by omega) (by omega) (by omega)
    · rw [mPI_at, if_neg h1, mgS, mPI_at, if_neg h10]; exact c26 k h0 h1 h2 h6
    · rw [mPI_at, if_neg (by decide), mgS, mPI_at, if_neg (by decide)]; exact c0
    · rw [mPI_at, if_neg (by decide), mgS, mPI_at, if_neg (by decide)]; exact c2'
    · rw [mPI_ne (by omega), mgS, mPI_ne (by omega)]; exact c1 52 (by omega) (by omega) (by omega)
    · rw [mPI_ne (by omega), mgS, mPI_ne (by omega)]; exact c1 53 (by omega) (by omega) (by omega)
    · rw [mPI_at, if_neg (by decide), mgS, mPI_at, if_neg (by decide)]; exact c26 15 (by decide) (by decide) (by decide) (by decide)
    · rw [mPI_at, if_pos rfl]
  · have good := b01_n0.mp z
    refine S_X8_become_42_32 (d := d + 33) (T_X9_tell_26_47a ?_)
    have mDg : mD (mgS μ2 (gTx (KT n f) 400 (0, true)).1) D := mDm
    obtain ⟨kd, bf, br⟩ := bec_k (mgS μ2 (gTx (KT n f) 400 (0, true)).1)
    have bg : ∀ a, (a < 42 ∨ 51 < a) → (g_X8_become_42_32 (mgS μ2 (gTx (KT n f) 400 (0, true)).1)).1 a = (mgS μ2 (gTx (KT n f) 400 (0, true)).1).1 a := fun a h => (bf a h).1
    have bl : ∀ a, (a < 42 ∨ 51 < a) → (g_X8_become_42_32 (mgS μ2 (gTx (KT n f) 400 (0, true)).1)).2.1 a = μ2.2.1 a := fun a h => (bf a h).2
    have b1 : ∀ a, a ≠ 26 → (a < 42 ∨ 51 < a) → (g_X8_become_42_32 (mgS μ2 (gTx (KT n f) 400 (0, true)).1)).1 a = μ2.1 a := fun a h h' => by rw [bg a h', mgS, mPI_ne h]
    have b26 : ∀ k, k ≠ 10 → (g_X8_become_42_32 (mgS μ2 (gTx (KT n f) 400 (0, true)).1)).1 26 k = μ2.1 26 k := fun k h => by rw [bg 26 (by decide), mgS, mPI_at, if_neg h]
    have tm3 : tM (g_X8_become_42_32 (mgS μ2 (gTx (KT n f) 400 (0, true)).1)) (KT n f) (pT n f) (VT n f) (E + 1) := by
      rw [tM, b1 29 (by decide) (by decide), b1 30 (by decide) (by decide), bl 31 (by decide)]; exact tm
    have mD3 : mD (g_X8_become_42_32 (mgS μ2 (gTx (KT n f) 400 (0, true)).1)) D := mD_c mDm (fun a h1 h2 => b1 a (by omega) (by omega)) (fun a h1 h2 => bl a (by omega))
    have hH3 : hM (g_X8_become_42_32 (mgS μ2 (gTx (KT n f) 400 (0, true)).1)) := by rw [hM, b26 18 (by decide), b26 19 (by decide), b26 20 (by decide)]; exact hHm
    have br' : (g_X8_become_42_32 (mgS μ2 (gTx (KT n f) 400 (0, true)).1)).2.2 = μ2.2.2 := br
    generalize g_X8_become_42_32 (mgS μ2 (gTx (KT n f) 400 (0, true)).1) = μ3 at *
    refine S_mco (d := d + 1) (x := x) tm3 hF hN hH3 hE (Nat.lt_succ_self E) hE4 mD3 good ⟨fun z0 τ' t' h' => T_X9_tell_26_51a _ ⟨fun _ => ?_, fun c => absurd (show (0 : Int32) ≤ 0 by decide) c⟩, fun c j τ' ee c0' c8 hj f' p' => T_X9_tell_26_51a _ ⟨fun q => absurd ((nI_le0 c8).mp q) (by omega), fun _ => ?_⟩⟩
    · have hH' : hM τ' := by rw [hM, h'.1.2.1 18 (by decide), h'.1.2.1 19 (by decide), h'.1.2.1 20 (by decide)]; exact hH3
      refine S_stR (d := d + 32) h'.2.1 hH' (fun ρ g hk => T_X9_tell_26_83a _ _ ?_)
      have fe : ∀ k, k ≠ 10 → ρ.1 26 k = μ2.1 26 k := fun k h1 => by rw [g.1 26 (by decide) (by decide) (by decide) (by decide) (by decide), h'.1.2.1 k h1, b26 k h1]
      have fa : ∀ a, a ≠ 26 → a < 29 → ρ.1 a = μ2.1 a := fun a h1 h2 => by rw [g.1 a (by omega) (by omega) (by omega) (by omega) (by omega), h'.1.1 a h1 (by omega) (by omega), b1 a h1 (by omega)]
      refine hOk good z0 _ ⟨fun a h => ?_, ?_, fun k h0 h1 h2 h6 h10 h15 => ?_, fun a h => ?_, ?_, ?_, ?_⟩ (mD_c h'.2.1 (fun a h1 h2 => ?_) (fun a h1 h2 => ?_)) (fun k hk' => ?_) ?_ ?_
      · rw [mPI_ne (by omega), fa a (by omega) (by omega)]; exact c1 a (by omega) (by omega) (by omega)
      · rw [mPI_ne (by omega), fa 28 (by omega) (by omega)]; exact c1 28 (by omega) (by omega) (by omega)
      · rw [mPI_at, if_neg h15, fe k h10]; exact c26 k h0 h1 h2 h6
      · rw [mPI_2, g.2, h'.1.2.2.1 a (by omega), bl a (by omega)]; exact cl a (by omega)
      · rw [mPI_2, g.2, h'.1.2.2.2, br']; exact cr
      · rw [mPI_at, if_neg (by decide), fe 0 (by decide)]; exact c0
      · rw [mPI_at, if_neg (by decide), fe 2 (by decide)]; exact c2'
      · rw [mPI_ne (by omega)]; exact g.1 a (by omega) (by omega) (by omega) (by omega) (by omega)
      · rw [mPI_2, g.2]
      · rw [mPI_ne (by decide), mPI_ne (by decide)]; exact hk k hk'
      · rw [mPI_at, if_pos rfl]
      · rw [mPI_at, if_neg (by decide), fe 1 (by decide)]; exact cE
    · refine S_X8_become_32_42 (d := d + 33) (T_X9_tell_26_67a _ ?_)
      have kd' : kD (mgS μ2 (gTx (KT n f) 400 (0, true)).1) τ' := by
        obtain ⟨k1, k2, k3, k4⟩ := kd
        have fq : ∀ a, 42 ≤ a → a ≤ 51 → τ'.1 a = μ3.1 a ∧ τ'.2.1 a = μ3.2.1 a := fun a h1 h2 => ⟨f'.1 a (by omega) (by omega) (by omega), f'.2.2.1 a (by omega)⟩
        refine ⟨?_, ?_, fun k hk => ?_, fun k hk => ?_⟩
        · rw [(fq 42 (by decide) (by decide)).1]; exact k1
        · rw [(fq 42 (by decide) (by decide)).1]; exact k2
        · rw [(fq 46 (by decide) (by decide)).1, (fq 47 (by decide) (by decide)).1, (fq 48 (by decide) (by decide)).1, (fq 49 (by decide) (by decide)).1, (fq 50 (by decide) (by decide)).1, (fq 51 (by decide) (by decide)).1, (fq 45 (by decide) (by decide)).2]; exact k3 k hk
        · rw [(fq 44 (by decide) (by decide)).1, (fq 43 (by decide) (by decide)).2]; exact k4 k hk
      obtain ⟨m1, m2, m3⟩ := bec_b mDg kd'
      have ga : ∀ a, a ≠ 26 → (a < 29 ∨ a = 52 ∨ a = 53) → (g_X8_become_32_42 τ').1 a = μ2.1 a := fun a h1 h2 => by rw [(m2 a (by omega)).1, f'.1 a h1 (by omega) (by omega), b1 a h1 (by omega)]
      have g26 : ∀ k, k ≠ 1 → k ≠ 10 → (g_X8_become_32_42 τ').1 26 k = μ2.1 26 k := fun k h1 h2 => by rw [(m2 26 (by decide)).1, f'.2.1 k h1 h2, b26 k h2]
      refine hErr good c j _ ee c0' c8 (by omega) (fun J hJ hJ' => ?_) ⟨fun a h => ?_, ?_, fun k h0 h1 h2 h6 h10 _ => ?_, fun a h => ?_, ?_, ?_, ?_⟩ m1 ?_ ?_ ?_ ?_
      · have : ¬ J < E := fun w => by have := hpre J w; omega
        omega
      · rw [ga a (by omega) (by omega)]; exact c1 a (by omega) (by omega) (by omega)
      · rw [ga 28 (by omega) (by omega)]; exact c1 28 (by omega) (by omega) (by omega)
      · rw [g26 k h1 h10]; exact c26 k h0 h1 h2 h6
      · rw [(m2 a (by omega)).2, f'.2.2.1 a (by omega), bl a (by omega)]; exact cl a (by omega)
      · rw [m3, f'.2.2.2, br']; exact cr
      · rw [g26 0 (by decide) (by decide)]; exact c0
      · rw [g26 2 (by decide) (by decide)]; exact c2'
      · rw [ga 52 (by decide) (by decide)]; exact c1 52 (by decide) (by decide) (by decide)
      · rw [ga 53 (by decide) (by decide)]; exact c1 53 (by decide) (by decide) (by decide)
      · rw [g26 15 (by decide) (by decide)]; exact c26 15 (by decide) (by decide) (by decide) (by decide)
      · rw [(m2 26 (by decide)).1]; exact p'
