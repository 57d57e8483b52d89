/-! ===== the model's tests ===== -/
def noU (D : mDeb) (K : Nat → Nat) (V : Nat → Int64) (a b : Nat) : Prop := ∀ k, a ≤ k → k < b → K k = 24 → dF D (V k) ≠ -1
theorem noU_s {D : mDeb} {K : Nat → Nat} {V : Nat → Int64} {a b a' b' : Nat} (h : noU D K V a b) (h1 : a ≤ a') (h2 : b' ≤ b) : noU D K V a' b' := fun k x y z => h k (by omega) (by omega) z
/-- what stands, in the model's row of ifs -/
def tU (D : mDeb) (τ : mS) : Prop := ∀ k, k < dn D → τ.1 54 k = bF D k
def hMg (Γ : Nat × (Nat → Int32)) (σ : mS) (D : mDeb) (K : Nat → Nat) (V : Nat → Int64) (E d : Nat) (g : gP → gP) (h : Nat → Bool) : Prop :=
  ∀ t, t ≤ E → (g (t, true)).2 = true → noU D K V t (g (t, true)).1 → ∀ Q : mQ, Q (.inl (some (.int (b01 (h t))))) 60 mSH (mgS σ (g (t, true)).1) → mCall Γ M_X9_singleHolds d 0 0 [.ref 26] 60 mSH (mgS σ t) Q
theorem L_bothH {Γ : Nat × (Nat → Int32)} {d n0 bc bs : Nat} {Q : mQ} {σ : mS} {K P : Nat → Nat} {V : Nat → Int64} {M E : Nat} {D : mDeb} {g : gP → gP} {h : Nat → Bool} (hC : tM σ K P V M) (hF : tF K V) (hE : gEnd K E) (hM : E < M) (hE4 : E ≤ 400) (hg : ∀ s : gP, s.1 ≤ E → (g s).1 ≤ E) (hm : ∀ s : gP, s.1 ≤ (g s).1)
    (hS : hMg Γ σ D K V E (d + 7) g h) :
    ∀ m t cur, E ≤ t + m → t ≤ E → (gL K g 400 (t, true)).2 = true → noU D K V t (gL K g 400 (t, true)).1 →
      (∀ s' b', K s' ≠ 19 → gL K g 400 (s', true) = gL K g 400 (t, true) → (∀ acc, hL K g h 400 acc b' (s', true) = hL K g h 400 acc cur (t, true)) → t ≤ s' → s' ≤ E → Q (.inl (some (.int (b01 b')))) 60 mSH (mgS σ s')) →
      mK Γ M_X9_bothHold (d + 8) Q n0 bc bs 5 [(0, .ref 26), (1, .int (b01 cur))] [] 60 mSH (mgS σ t)
  | m, t, cur, hmt, ht, hgd, hU, hQ => by
    refine T_X9_bothHold_26_5 _ (S_wordM 19 hC hF (by omega) (by decide) (fun q => T_X9_bothHold_26_11a _ _ ⟨fun c => absurd c one_ne, fun _ => ?_⟩) (fun q => T_X9_bothHold_26_11a _ _ ⟨fun _ => ⟨b01_01 _, hQ t cur q rfl (fun _ => rfl) (Nat.le_refl _) ht⟩, fun c => absurd rfl c⟩))
    have l := lt_E hE q (by decide) ht
    have st := LL_and hE hE4 hg hm ht (.inl q)
    rw [st] at hgd hU
    have f := gL_good hgd
    have gl := hg (t + 1, true) (show t + 1 ≤ E from l)
    have gm : t + 1 ≤ (g (t + 1, true)).1 := hm (t + 1, true)
    have gG := gL_ge (K := K) hm 400 (g (t + 1, true))
    have e1 := gP_t f
    refine hS (t + 1) l f (noU_s hU (by omega) gG) _ (T_X9_bothHold_26_19a _ _ _ ?_)
    rw [b01_and]
    match m, hmt with
    | 0, hmt => exact absurd hmt (by omega)
    | m + 1, hmt =>
      refine L_bothH hC hF hE hM hE4 hg hm hS m _ _ (by omega) gl (by rw [← e1]; exact hgd) (by rw [← e1]; exact noU_s hU (by omega) (Nat.le_refl _)) (fun s' b' a3 a4 a5 a6 a7 => hQ s' b' a3 ?_ (fun acc => ?_) (by omega) a7)
      · rw [a4, st, ← e1]
      · rw [a5, hL_and hE hE4 hg hm ht q, ← e1]
theorem S_bothH {Γ : Nat × (Nat → Int32)} {d : Nat} {Q : mQ} {σ : mS} {K P : Nat → Nat} {V : Nat → Int64} {M E : Nat} {D : mDeb} {g : gP → gP} {h : Nat → Bool} (hC : tM σ K P V M) (hF : tF K V) (hE : gEnd K E) (hM : E < M) (hE4 : E ≤ 400) (hg : ∀ s : gP, s.1 ≤ E → (g s).1 ≤ E) (hm : ∀ s : gP, s.1 ≤ (g s).1)
    (hS : hMg Γ σ D K V E (d + 7) g h) (t : Nat) (ht : t ≤ E) (hgd : (gL K g 400 (g (t, true))).2 = true) (hU : noU D K V t (gL K g 400 (g (t, true))).1)
    (hQ : ∀ s' b', K s' ≠ 19 → gL K g 400 (s', true) = gL K g 400 (g (t, true)) → (∀ acc, hL K g h 400 acc b' (s', true) = hL K g h 400 acc (h t) (g (t, true))) → t ≤ s' → s' ≤ E → Q (.inl (some (.int (b01 b')))) 60 mSH (mgS σ s')) :
    mCall Γ M_X9_bothHold (d + 8) 0 0 [.ref 26] 60 mSH (mgS σ t) Q := by
  have f := gL_good hgd
  have gl := hg (t, true) ht
  have gm : t ≤ (g (t, true)).1 := hm (t, true)
  have gG := gL_ge (K := K) hm 400 (g (t, true))
  have e1 := gP_t f
  refine E_X9_bothHold_26 (hS t ht f (noU_s hU (Nat.le_refl _) gG) _ (T_X9_bothHold_26_4a _ ?_))
  refine L_bothH hC hF hE hM hE4 hg hm hS E _ _ (by omega) gl (by rw [← e1]; exact hgd) (by rw [← e1]; exact noU_s hU gm (Nat.le_refl _)) (fun s' b' a3 a4 a5 a6 a7 => hQ s' b' a3 ?_ (fun acc => ?_) (by omega) a7)
  · rw [a4, ← e1]
  · rw [a5, ← e1]
theorem L_testH {Γ : Nat × (Nat → Int32)} {d n0 bc bs : Nat} {Q : mQ} {σ : mS} {K P : Nat → Nat} {V : Nat → Int64} {M E : Nat} {D : mDeb} {g : gP → gP} {h : Nat → Bool} (hC : tM σ K P V M) (hF : tF K V) (hE : gEnd K E) (hM : E < M) (hE4 : E ≤ 400) (hg : ∀ s : gP, s.1 ≤ E → (g s).1 ≤ E) (hm : ∀ s : gP, s.1 ≤ (g s).1)
    (hS : hMg Γ σ D K V E (d + 7) g h) :
    ∀ m t acc, E ≤ t + m → t ≤ E → (gL K g 400 (t, true)).2 = true → noU D K V t (gL K g 400 (t, true)).1 → K t ≠ 19 →
      Q (.inl (some (.int (b01 (hL K g h 400 false acc (t, true)))))) 60 mSH (mgS σ (gL K g 400 (t, true)).1) →
      mK Γ M_X9_testHolds (d + 9) Q n0 bc bs 5 [(0, .ref 26), (1, .int (b01 acc))] [] 60 mSH (mgS σ t)
  | m, t, acc, hmt, ht, hgd, hU, h19, hQ => by
    refine T_X9_testHolds_26_5 _ (S_wordM 20 hC hF (by omega) (by decide) (fun q => T_X9_testHolds_26_11a _ _ ⟨fun c => absurd c one_ne, fun _ => ?_⟩) (fun q => T_X9_testHolds_26_11a _ _ ⟨fun _ => ⟨b01_01 _, ?_⟩, fun c => absurd rfl c⟩))
    · have l := lt_E hE q (by decide) ht
      have st := LL_and hE hE4 hg hm ht (.inr q)
      have sh := hL_or (h := h) hE hE4 hg hm ht q false acc
      rw [st] at hgd hU
      refine S_bothH hC hF hE hM hE4 hg hm hS (t + 1) l hgd (noU_s hU (by omega) (Nat.le_refl _)) (fun s' b' a3 a4 a5 a6 a7 => T_X9_testHolds_26_19a _ _ _ ?_)
      rw [b01_or]
      match m, hmt with
      | 0, hmt => exact absurd hmt (by omega)
      | m + 1, hmt =>
        refine L_testH hC hF hE hM hE4 hg hm hS m s' _ (by omega) a7 (by rw [a4]; exact hgd) (by rw [a4]; exact noU_s hU (by omega) (Nat.le_refl _)) a3 ?_
        rw [sh, Bool.false_or, ← a5, hL_mv a3, st, ← a4] at hQ
        exact hQ
    · rw [LL_stop (fun z => z.elim (fun y => h19 (gT_1.mp y)) (fun y => q (gT_1.mp y))), hL_stop h19 q, Bool.false_or] at hQ
      exact hQ
theorem S_testH {Γ : Nat × (Nat → Int32)} {d : Nat} {Q : mQ} {σ : mS} {K P : Nat → Nat} {V : Nat → Int64} {M E : Nat} {D : mDeb} {g : gP → gP} {h : Nat → Bool} (hC : tM σ K P V M) (hF : tF K V) (hE : gEnd K E) (hM : E < M) (hE4 : E ≤ 400) (hg : ∀ s : gP, s.1 ≤ E → (g s).1 ≤ E) (hm : ∀ s : gP, s.1 ≤ (g s).1)
    (hS : hMg Γ σ D K V E (d + 7) g h) (t : Nat) (ht : t ≤ E) (hgd : (gTst K g (t, true)).2 = true) (hU : noU D K V t (gTst K g (t, true)).1)
    (hQ : Q (.inl (some (.int (b01 (hL K g h 400 false (h t) (g (t, true))))))) 60 mSH (mgS σ (gTst K g (t, true)).1)) :
    mCall Γ M_X9_testHolds (d + 9) 0 0 [.ref 26] 60 mSH (mgS σ t) Q := by
  rw [gTst] at hgd hU hQ
  refine E_X9_testHolds_26 (S_bothH hC hF hE hM hE4 hg hm hS t ht hgd hU (fun s' b' a3 a4 a5 a6 a7 => T_X9_testHolds_26_4a _ ?_))
  refine L_testH hC hF hE hM hE4 hg hm hS E s' _ (by omega) a7 (by rw [a4]; exact hgd) (by rw [a4]; exact noU_s hU a6 (Nat.le_refl _)) a3 ?_
  rw [← a5, ← a4] at hQ
  exact hQ
theorem S_atomH {Γ : Nat × (Nat → Int32)} {d n0 bc bs : Nat} {Q : mQ} {σ : mS} {K P : Nat → Nat} {V : Nat → Int64} {M t : Nat} {D : mDeb} (hC : tM σ K P V M) (hF : tF K V) (hD : mD σ D) (hW : tU D σ) (ht : t + 1 < M) (hk : 14 ≤ K t ∧ K t ≤ 17) (hn : K (t + 1) = 24) (hU : noU D K V t (t + 2))
    (hQ : Q (.inl (some (.int (b01 (aV D K V t))))) 60 mSH (mgS σ (t + 2))) :
    mCall Γ M_X9_word (d + 7) 0 0 [.ref 26, .ref 1218] 60 mSH (mgS σ t) (mRt Γ M_X9_singleHolds (d + 8) Q n0 bc bs 6 [(0, .ref 26)] []) := by
  have hMM := hC.1
  have h40 := hD.1.2.1
  have nf := hU (t + 1) (by omega) (by omega) hn
  obtain ⟨i, hi, ei⟩ := (dF_sp D (V (t + 1))).resolve_left nf
  have ev : (mgS σ t).2.1 31 (t + 1) = V (t + 1) := tM_v hC ht (.inl hn)
  have hD' : mD (mgS σ t) D := hD
  have s54 : (mgS σ t).1 54 i = bF D i := by rw [mgS, mPI_ne (by decide)]; exact hW i hi
  have s41 : (mgS σ t).1 41 i = dc D i := by rw [mgS, mPI_ne (by decide)]; exact (mD_i hD hi).2.2.2.2.2.1
  have last : ∀ (x1 x2 : Int32), ((x1 = 0 ∧ K t ≠ 17 ∧ x2 = if K t = 14 then 1 else if K t = 15 then 2 else 0) ∨ (x1 = 1 ∧ K t = 17)) → mRt Γ M_X9_singleHolds (d + 8) Q n0 bc bs 105 [(0, .ref 26), (1, .int x1), (2, .int x2)] [] (.inl (some (.int (dF D (V (t + 1)))))) 60 mSH (mgS σ t) := by
    intro x1 x2 hx
    have a0 : aV D K V t = if K t = 17 then decide (dc D i = 1) else decide (bF D i = if K t = 14 then 1 else if K t = 15 then 2 else 0) := by rw [aV, if_neg nf, ei, uN_nI (by omega)]
    refine T_X9_singleHolds_26_105a _ _ _ ?_
    rw [ei, nI_clamp (by omega), s54, s41, mgS_t, nI_2]
    have eS : mPI (mgS σ t) 26 10 (nI (t + 2)) = mgS σ (t + 2) := by
      have := mgS_A σ t
      refine mS_ext (fun a k => ?_) rfl
      rw [mPI_if, mgS, mPI_if, mgS, mPI_if]
      by_cases e : a = 26
      · rw [if_pos e, if_pos e, if_pos e]; by_cases q : k = 10
        · rw [if_pos q, if_pos q]
        · rw [if_neg q, if_neg q, if_neg q]
      · rw [if_neg e, if_neg e, if_neg e]
    rw [eS]
    rw [a0] at hQ
    rcases hx with ⟨h1, h2, h3⟩ | ⟨h1, h2⟩
    · rw [if_neg h2, ← h3] at hQ
      refine ⟨fun _ => ⟨vp_in_nI (by omega) (by omega), fun c => ?_, fun c => ?_⟩, fun c => absurd h1 c⟩
      · rw [decide_eq_true c] at hQ; exact hQ
      · rw [decide_eq_false c] at hQ; exact hQ
    · rw [if_pos h2] at hQ
      refine ⟨fun c => absurd (h1.symm.trans c) one_ne, fun _ => ⟨vp_in_nI (by omega) (by omega), fun c => ?_, fun c => ?_⟩⟩
      · rw [decide_eq_true c] at hQ; exact hQ
      · rw [decide_eq_false c] at hQ; exact hQ
  have it : ∀ (x1 x2 : Int32), ((x1 = 0 ∧ K t ≠ 17 ∧ x2 = if K t = 14 then 1 else if K t = 15 then 2 else 0) ∨ (x1 = 1 ∧ K t = 17)) → (vp_in ((mgS σ t).1 26 10 + 1) 402) ∧ mCall Γ M_X8_itemOf (d + 7) 0 0 [.ref 32, .long ((mgS σ t).2.1 31 ((mgS σ t).1 26 10 + 1).toNatClampNeg)] 60 mSH (mgS σ t) (mRt Γ M_X9_singleHolds (d + 8) Q n0 bc bs 105 [(0, .ref 26), (1, .int x1), (2, .int x2)] []) := by
    intro x1 x2 hx
    rw [mgS_t, nI_1, nI_clamp (by omega), ev]
    exact ⟨vp_in_nI (by omega) (by omega), S_itM _ hD' (last x1 x2 hx)⟩
  refine S_wordM 18 hC hF (by omega) (by decide) (fun q => absurd q (by omega)) (fun _ => T_X9_singleHolds_26_6a _ ⟨fun _ => ?_, fun c => absurd rfl c⟩)
  refine S_symM 91 21 hC (by omega) (by decide) (by decide) (by decide) (fun q => absurd q (by omega)) (fun _ => T_X9_singleHolds_26_29a _ (S_past0 (T_X9_singleHolds_26_32a _ ⟨fun _ => ?_, fun c => absurd rfl c⟩)))
  have go : ∀ r : Int32, ((r = 0 ∧ K t ≠ 17) ∨ (r = 1 ∧ K t = 17)) → mRt Γ M_X9_singleHolds (d + 8) Q n0 bc bs 58 [(0, .ref 26)] [] (.inl (some (.int r))) 60 mSH (mgS σ t) := by
    intro r hr
    refine T_X9_singleHolds_26_58a _ (S_isM 14 hC hF (by omega) (by decide) (fun q => T_X9_singleHolds_26_65a _ _ ⟨fun c => absurd c one_ne, fun _ => it _ _ ?_⟩) (fun q14 => T_X9_singleHolds_26_65a _ _ ⟨fun _ => ?_, fun c => absurd rfl c⟩))
    · rcases hr with z | z
      · exact .inl ⟨z.1, z.2, by rw [if_pos q]⟩
      · omega
    · refine S_isM 15 hC hF (by omega) (by decide) (fun q => T_X9_singleHolds_26_78a _ _ ⟨fun c => absurd c one_ne, fun _ => it _ _ ?_⟩) (fun q15 => T_X9_singleHolds_26_78a _ _ ⟨fun _ => it _ _ ?_, fun c => absurd rfl c⟩)
      · rcases hr with z | z
        · exact .inl ⟨z.1, z.2, by rw [if_neg q14, if_pos q]⟩
        · omega
      · rcases hr with z | z
        · exact .inl ⟨z.1, z.2, by rw [if_neg q14, if_neg q15]⟩
        · exact .inr z
  exact S_isM 17 hC hF (by omega) (by decide) (fun q => go 1 (.inr ⟨rfl, q⟩)) (fun q => go 0 (.inl ⟨rfl, q⟩))
theorem S_singleH {Γ : Nat × (Nat → Int32)} {σ : mS} {K P : Nat → Nat} {V : Nat → Int64} {M E : Nat} {D : mDeb} (hC : tM σ K P V M) (hF : tF K V) (hD : mD σ D) (hW : tU D σ) (hE : gEnd K E) (hM : E < M) (hE4 : E ≤ 400) : ∀ r, r ≤ 6 → ∀ d, hMg Γ σ D K V E (d + 3 * r + 9) (gSg K r) (hS K (aV D K V) r)
  | 0, hr, d, t, ht, hgd, hU, Q, hQ => by
    obtain ⟨k1, k2, eg⟩ := gSg0_good hgd
    rw [eg] at hQ hU
    have l : t + 1 ≤ E := lt_E hE rfl (show K t < 26 by omega) ht
    exact E_X9_singleHolds_26 (S_atomH (d := d + 3 * 0 + 1) hC hF hD hW (by omega) k1 k2 hU hQ)
  | r + 1, hr, d, t, ht, hgd, hU, Q, hQ => by
    have l : ∀ k, K t = k → k < 26 → t + 1 ≤ E := fun k q hk => lt_E hE q hk ht
    rw [show d + 3 * (r + 1) + 9 = (d + 3 * r + 10) + 2 by omega]
    rcases gSgS_good hgd with ⟨k1, k2, eg⟩ | ⟨k1, eg⟩ | ⟨k1, f, k3, eg⟩
    · rw [eg] at hQ hU
      have l1 := l _ rfl (show K t < 26 by omega)
      have hv : hS K (aV D K V) (r + 1) t = aV D K V t := by rw [hS, if_neg (by omega), if_neg (by omega)]
      rw [hv] at hQ
      exact E_X9_singleHolds_26 (S_atomH (d := d + 3 * r + 4) hC hF hD hW (by omega) k1 k2 hU hQ)
    · rw [eg] at hQ hgd hU
      have l1 := l 18 k1 (by decide)
      have hv : hS K (aV D K V) (r + 1) t = !hS K (aV D K V) r (t + 1) := by rw [hS, if_pos k1]
      rw [hv] at hQ
      have rc := S_singleH (Γ := Γ) (D := D) hC hF hD hW hE hM hE4 r (by omega) (d + 2) (t + 1) l1 hgd (noU_s hU (by omega) (Nat.le_refl _)) (mRt Γ M_X9_singleHolds (d + 3 * r + 10 + 2) Q 60 0 0 13 [(0, .ref 26)] [])
      rw [show d + 2 + 3 * r + 9 = d + 3 * r + 10 + 1 by omega] at rc
      refine E_X9_singleHolds_26 (S_wordM 18 hC hF (by omega) (by decide) (fun _ => T_X9_singleHolds_26_6a _ ⟨fun c => absurd c one_ne, fun _ => rc (T_X9_singleHolds_26_13a _ ⟨fun z => ?_, fun z => ?_⟩)⟩) (fun q => absurd k1 q))
      · rw [b01_0.mp z] at hQ; exact hQ
      · rw [b01_n0.mp z] at hQ; exact hQ
    · rw [eg] at hQ hU
      have l1 := l 21 k1 (by decide)
      have hv : hS K (aV D K V) (r + 1) t = hL K (gSg K r) (hS K (aV D K V) r) 400 false (hS K (aV D K V) r (t + 1)) (gSg K r (t + 1, true)) := by rw [hS, if_neg (by omega), if_pos k1]
      rw [hv] at hQ
      refine E_X9_singleHolds_26 (S_wordM 18 hC hF (by omega) (by decide) (fun q => absurd q (by omega)) (fun _ => T_X9_singleHolds_26_6a _ ⟨fun _ => ?_, fun c => absurd rfl c⟩))
      refine S_symM 91 21 hC (by omega) (by decide) (by decide) (by decide) (fun _ => T_X9_singleHolds_26_29a _ (S_past1 (T_X9_singleHolds_26_32a _ ⟨fun c => absurd c one_ne, fun _ => ?_⟩))) (fun q => absurd k1 q)
      refine S_testH (d := d + 3 * r + 2) hC hF hE hM hE4 (gSg_le hE r) (gSg_ge r) (S_singleH hC hF hD hW hE hM hE4 r (by omega) d) (t + 1) l1 f (noU_s hU (by omega) (by omega)) (T_X9_singleHolds_26_39a _ ⟨b01_01 _, ?_⟩)
      rw [mgS_t, mgS_A]
      exact hQ
