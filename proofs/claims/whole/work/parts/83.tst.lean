/-! ===== the class's tests ===== -/
theorem eR_le {D : mDeb} {K : Nat → Nat} {V : Nat → Int64} {a b : Nat} {e : gE} (h : a ≤ b) (hk : K b ≠ 24) : eR D K V a (b + 1) e = eR D K V a b e := by rw [eR_t h (by omega), eR_k _ hk]
/-- what a single of the class does -/
def hSg (Γ : Nat × (Nat → Int32)) (σ : mS) (D : mDeb) (K : Nat → Nat) (V : Nat → Int64) (E d : Nat) (x : Int32) (g : gP → gP) (h : Nat → Bool) : Prop :=
  ∀ (t : Nat) (e : gE) (τ : mS), t ≤ E → (g (t, true)).2 = true → tI σ τ D t e → tW D τ → ∀ Q : mQ, (∀ τ', tI σ τ' D (g (t, true)).1 (eR D K V t (g (t, true)).1 e) → τ'.2 = τ.2 → Q (.inl (some (.int (b01 (h t))))) 60 mSH τ') → mCall Γ M_X5_takeSingle d 0 0 [.ref 25, .int x] 60 mSH τ Q
theorem L_bothT {Γ : Nat × (Nat → Int32)} {d n0 bc bs : Nat} {Q : mQ} {σ : mS} {K P : Nat → Nat} {V : Nat → Int64} {M E : Nat} {D : mDeb} {x : Int32} {g : gP → gP} {h : Nat → Bool} (hC : tC σ K P V M) (hE : gEnd K E) (hM : E < M) (hE4 : E ≤ 400) (hg : ∀ s : gP, s.1 ≤ E → (g s).1 ≤ E) (hm : ∀ s : gP, s.1 ≤ (g s).1)
    (hS : hSg Γ σ D K V E (d + 4) x g h) :
    ∀ m i t e cur τ, E ≤ t + m → i ≤ t → t ≤ E → (gL K g 400 (t, true)).2 = true → tI σ τ D t e → tW D τ →
      (∀ τ' s' b', tI σ τ' D s' (eR D K V t s' e) → τ'.2 = τ.2 → K s' ≠ 19 → gL K g 400 (s', true) = gL K g 400 (t, true) → (∀ acc, hL K g h 400 acc b' (s', true) = hL K g h 400 acc cur (t, true)) → t ≤ s' → s' ≤ E → Q (.inl (some (.int (b01 b')))) 60 mSH τ') →
      mK Γ M_X5_takeBoth (d + 5) Q n0 bc bs 8 [(0, .ref 25), (1, .int x), (2, .int (b01 cur)), (3, .int (nI i))] [] 60 mSH τ
  | m, i, t, e, cur, τ, hmt, hi, ht, hgd, hI, hW, hQ => by
    have stop : K t ≠ 19 → (b01 cur = 0 ∨ b01 cur = 1) ∧ Q (.inl (some (.int (b01 cur)))) 60 mSH τ := fun q => ⟨b01_01 _, hQ τ t cur (by rw [eR_r]; exact hI) rfl q rfl (fun _ => rfl) (Nat.le_refl _) ht⟩
    refine T_X5_takeBoth_25_8 _ _ _ ⟨fun c => stop ?_, fun _ => ?_⟩
    · rw [i400, nI_leI (by omega) (by omega)] at c
      have : t = E := by omega
      rw [this]; rcases hE with z | z <;> omega
    · refine S_seesT 19 hC hI (by omega) (by decide) (fun q => T_X5_takeBoth_25_22a _ _ _ _ ⟨fun c => absurd c one_ne, fun _ => ?_⟩) (fun q => T_X5_takeBoth_25_22a _ _ _ _ ⟨fun _ => stop q, fun c => absurd rfl c⟩)
      have l := lt_E hE q (by decide) ht
      have st := LL_and hE hE4 hg hm ht (.inl q)
      rw [st] at hgd
      have f := gL_good hgd
      have gl := hg (t + 1, true) (show t + 1 ≤ E from l)
      have gm : t + 1 ≤ (g (t + 1, true)).1 := hm (t + 1, true)
      have e1 := gP_t f
      rw [hI.2.2.1, nI_1]
      refine hS (t + 1) e _ l f (tI_mv hI (t + 1)) (tW_2 hW rfl) _ (fun τ' h1 e2 => T_X5_takeBoth_25_41a _ _ _ _ _ ?_)
      rw [b01_and, nI_1]
      match m, hmt with
      | 0, hmt => exact absurd hmt (by omega)
      | m + 1, hmt =>
        refine L_bothT hC hE hM hE4 hg hm hS m (i + 1) _ _ _ τ' (by omega) (by omega) gl (by rw [← e1]; exact hgd) h1 (tW_2 hW e2) (fun τ2 s' b' a1 a2 a3 a4 a5 a6 a7 => hQ τ2 s' b' ?_ (a2.trans e2) a3 ?_ (fun acc => ?_) (by omega) a7)
        · rw [eR_t (a := t) (b := t + 1) (by omega) (by omega), eR_k e (by omega), eR_t gm a6]; exact a1
        · rw [a4, st, ← e1]
        · rw [a5, hL_and hE hE4 hg hm ht q, ← e1]
theorem S_bothT {Γ : Nat × (Nat → Int32)} {d : Nat} {Q : mQ} {σ : mS} {K P : Nat → Nat} {V : Nat → Int64} {M E : Nat} {D : mDeb} {x : Int32} {g : gP → gP} {h : Nat → Bool} (hC : tC σ K P V M) (hE : gEnd K E) (hM : E < M) (hE4 : E ≤ 400) (hg : ∀ s : gP, s.1 ≤ E → (g s).1 ≤ E) (hm : ∀ s : gP, s.1 ≤ (g s).1)
    (hS : hSg Γ σ D K V E (d + 4) x g h) (t : Nat) (e : gE) (τ : mS) (ht : t ≤ E) (hgd : (gL K g 400 (g (t, true))).2 = true) (hI : tI σ τ D t e) (hW : tW D τ)
    (hQ : ∀ τ' s' b', tI σ τ' D s' (eR D K V t s' e) → τ'.2 = τ.2 → K s' ≠ 19 → gL K g 400 (s', true) = gL K g 400 (g (t, true)) → (∀ acc, hL K g h 400 acc b' (s', true) = hL K g h 400 acc (h t) (g (t, true))) → t ≤ s' → s' ≤ E → Q (.inl (some (.int (b01 b')))) 60 mSH τ') :
    mCall Γ M_X5_takeBoth (d + 5) 0 0 [.ref 25, .int x] 60 mSH τ Q := by
  have f := gL_good hgd
  have gl := hg (t, true) ht
  have gm : t ≤ (g (t, true)).1 := hm (t, true)
  have e1 := gP_t f
  refine E_X5_takeBoth_25 _ (hS t e τ ht f hI hW _ (fun τ' h1 e2 => T_X5_takeBoth_25_5a _ _ ?_))
  refine L_bothT hC hE hM hE4 hg hm hS E 0 _ _ _ τ' (by omega) (Nat.zero_le _) gl (by rw [← e1]; exact hgd) h1 (tW_2 hW e2) (fun τ2 s' b' a1 a2 a3 a4 a5 a6 a7 => hQ τ2 s' b' ?_ (a2.trans e2) a3 ?_ (fun acc => ?_) (by omega) a7)
  · rw [eR_t gm a6]; exact a1
  · rw [a4, ← e1]
  · rw [a5, ← e1]
theorem L_testT {Γ : Nat × (Nat → Int32)} {d n0 bc bs : Nat} {Q : mQ} {σ : mS} {K P : Nat → Nat} {V : Nat → Int64} {M E : Nat} {D : mDeb} {x : Int32} {g : gP → gP} {h : Nat → Bool} (hC : tC σ K P V M) (hE : gEnd K E) (hM : E < M) (hE4 : E ≤ 400) (hg : ∀ s : gP, s.1 ≤ E → (g s).1 ≤ E) (hm : ∀ s : gP, s.1 ≤ (g s).1)
    (hS : hSg Γ σ D K V E (d + 4) x g h) :
    ∀ m i t e acc τ, E ≤ t + m → i ≤ t → t ≤ E → (gL K g 400 (t, true)).2 = true → K t ≠ 19 → tI σ τ D t e → tW D τ →
      (∀ τ', tI σ τ' D (gL K g 400 (t, true)).1 (eR D K V t (gL K g 400 (t, true)).1 e) → τ'.2 = τ.2 → Q (.inl (some (.int (b01 (hL K g h 400 false acc (t, true)))))) 60 mSH τ') →
      mK Γ M_X5_takeTest (d + 6) Q n0 bc bs 8 [(0, .ref 25), (1, .int x), (2, .int (b01 acc)), (3, .int (nI i))] [] 60 mSH τ
  | m, i, t, e, acc, τ, hmt, hi, ht, hgd, h19, hI, hW, hQ => by
    have stop : K t ≠ 20 → (b01 acc = 0 ∨ b01 acc = 1) ∧ Q (.inl (some (.int (b01 acc)))) 60 mSH τ := fun q => by
      refine ⟨b01_01 _, ?_⟩
      rw [LL_stop (fun z => z.elim (fun y => h19 (gT_1.mp y)) (fun y => q (gT_1.mp y))), hL_stop h19 q, Bool.false_or] at hQ
      exact hQ τ (by rw [eR_r]; exact hI) rfl
    refine T_X5_takeTest_25_8 _ _ _ ⟨fun c => stop ?_, fun _ => ?_⟩
    · rw [i400, nI_leI (by omega) (by omega)] at c
      have : t = E := by omega
      rw [this]; rcases hE with z | z <;> omega
    · refine S_seesT 20 hC hI (by omega) (by decide) (fun q => T_X5_takeTest_25_22a _ _ _ _ ⟨fun c => absurd c one_ne, fun _ => ?_⟩) (fun q => T_X5_takeTest_25_22a _ _ _ _ ⟨fun _ => stop q, fun c => absurd rfl c⟩)
      have l := lt_E hE q (by decide) ht
      have st := LL_and hE hE4 hg hm ht (.inr q)
      have sh := hL_or (h := h) hE hE4 hg hm ht q false acc
      rw [st] at hgd
      rw [hI.2.2.1, nI_1]
      refine S_bothT hC hE hM hE4 hg hm hS (t + 1) e _ l hgd (tI_mv hI (t + 1)) (tW_2 hW rfl) (fun τ2 s' b' a1 a2 a3 a4 a5 a6 a7 => T_X5_takeTest_25_41a _ _ _ _ _ ?_)
      rw [b01_or, nI_1]
      match m, hmt with
      | 0, hmt => exact absurd hmt (by omega)
      | m + 1, hmt =>
        refine L_testT hC hE hM hE4 hg hm hS m (i + 1) s' _ _ τ2 (by omega) (by omega) a7 (by rw [a4]; exact hgd) a3 a1 (tW_2 hW a2) (fun τ3 b1 b2 => ?_)
        have le : s' ≤ (gL K g 400 (s', true)).1 := gL_ge hm 400 (s', true)
        have := hQ τ3 (by
          rw [st, ← a4, eR_t (a := t) (b := t + 1) (by omega) (by omega), eR_k e (by omega), eR_t a6 le]
          exact b1) (b2.trans a2)
        rw [sh, Bool.false_or, ← a5, hL_mv a3] at this
        exact this
theorem S_testT {Γ : Nat × (Nat → Int32)} {d : Nat} {Q : mQ} {σ : mS} {K P : Nat → Nat} {V : Nat → Int64} {M E : Nat} {D : mDeb} {x : Int32} {g : gP → gP} {h : Nat → Bool} (hC : tC σ K P V M) (hE : gEnd K E) (hM : E < M) (hE4 : E ≤ 400) (hg : ∀ s : gP, s.1 ≤ E → (g s).1 ≤ E) (hm : ∀ s : gP, s.1 ≤ (g s).1)
    (hS : hSg Γ σ D K V E (d + 4) x g h) (t : Nat) (e : gE) (τ : mS) (ht : t ≤ E) (hgd : (gTst K g (t, true)).2 = true) (hI : tI σ τ D t e) (hW : tW D τ)
    (hQ : ∀ τ', tI σ τ' D (gTst K g (t, true)).1 (eR D K V t (gTst K g (t, true)).1 e) → τ'.2 = τ.2 → Q (.inl (some (.int (b01 (hL K g h 400 false (h t) (g (t, true))))))) 60 mSH τ') :
    mCall Γ M_X5_takeTest (d + 6) 0 0 [.ref 25, .int x] 60 mSH τ Q := by
  rw [gTst] at hgd hQ
  refine E_X5_takeTest_25 _ (S_bothT hC hE hM hE4 hg hm hS t e τ ht hgd hI hW (fun τ2 s' b' a1 a2 a3 a4 a5 a6 a7 => T_X5_takeTest_25_5a _ _ ?_))
  refine L_testT hC hE hM hE4 hg hm hS E 0 s' _ _ τ2 (by omega) (Nat.zero_le _) a7 (by rw [a4]; exact hgd) a3 a1 (tW_2 hW a2) (fun τ3 b1 b2 => ?_)
  have le : s' ≤ (gL K g 400 (s', true)).1 := gL_ge hm 400 (s', true)
  have := hQ τ3 (by rw [← a4, eR_t a6 le]; exact b1) (b2.trans a2)
  rw [← a5] at this
  exact this
theorem b01_n0 {b : Bool} : ¬ b01 b = 0 ↔ b = true := by cases b <;> simp [b01]
theorem S_singleT {Γ : Nat × (Nat → Int32)} {σ : mS} {K P : Nat → Nat} {V : Nat → Int64} {M E : Nat} {D : mDeb} (hC : tC σ K P V M) (hE : gEnd K E) (hM : E < M) (hE4 : E ≤ 400) : ∀ r, r ≤ 6 → ∀ d, hSg Γ σ D K V E (d + 3 * r + 4) (nI (6 - r)) (gSg K r) (hS K (aV D K V) r)
  | 0, hr, d, t, e, τ, ht, hgd, hI, hW, Q, hQ => by
    obtain ⟨k1, k2, eg⟩ := gSg0_good hgd
    rw [eg] at hQ
    have l : t + 1 ≤ E := lt_E hE rfl (show K t < 26 by omega) ht
    have go := S_atomT (Γ := Γ) (d := d + 3 * 0) (n0 := 60) (bc := 0) (bs := 0) (Q := Q) (x := nI (6 - 0)) hC hI hW (by omega) k1 k2 hQ
    refine E_X5_takeSingle_25 _ (S_kindT hC hI (by omega) (T_X5_takeSingle_25_11a _ _ (by omega) ⟨fun _ => go, fun c => absurd (show (6 : Int32) ≤ nI (6 - 0) by decide) c⟩))
  | r + 1, hr, d, t, e, τ, ht, hgd, hI, hW, Q, hQ => by
    have hx : nI (6 - (r + 1)) + 1 = nI (6 - r) := by rw [nI_1]; congr 1; omega
    have x6 : ¬ (6 : Int32) ≤ nI (6 - (r + 1)) := by rw [show (6 : Int32) = nI 6 by decide]; exact nI_ge (by omega) (by omega)
    have l : ∀ k, K t = k → k < 26 → t + 1 ≤ E := fun k q hk => lt_E hE q hk ht
    rw [show d + 3 * (r + 1) + 4 = (d + 3 * r + 3) + 4 by omega]
    rcases gSgS_good hgd with ⟨k1, k2, eg⟩ | ⟨k1, eg⟩ | ⟨k1, f, k3, eg⟩
    · rw [eg] at hQ
      have l1 := l _ rfl (show K t < 26 by omega)
      have hv : hS K (aV D K V) (r + 1) t = aV D K V t := by rw [hS, if_neg (by omega), if_neg (by omega)]
      rw [hv] at hQ
      have go := S_atomT (Γ := Γ) (d := d + 3 * r + 3) (n0 := 60) (bc := 0) (bs := 0) (Q := Q) (x := nI (6 - (r + 1))) hC hI hW (by omega) k1 k2 hQ
      exact E_X5_takeSingle_25 _ (S_kindT hC hI (by omega) (T_X5_takeSingle_25_11a _ _ (by omega) ⟨fun c => absurd c x6, fun _ => ⟨fun c => absurd c (by omega), fun _ => ⟨fun c => absurd c (by omega), fun _ => go⟩⟩⟩))
    · rw [eg] at hQ hgd
      have l1 := l 18 k1 (by decide)
      have hv : hS K (aV D K V) (r + 1) t = !hS K (aV D K V) r (t + 1) := by rw [hS, if_pos k1]
      rw [hv] at hQ
      refine E_X5_takeSingle_25 _ (S_kindT hC hI (by omega) (T_X5_takeSingle_25_11a _ _ (by omega) ⟨fun c => absurd c x6, fun _ => ⟨fun _ => ?_, fun c => absurd (by omega) c⟩⟩))
      rw [hx, hI.2.2.1, nI_1]
      have rc := S_singleT (Γ := Γ) (D := D) hC hE hM hE4 r (by omega) (d + 2) (t + 1) e _ l1 hgd (tI_mv hI (t + 1)) (tW_2 hW rfl)
      rw [show d + 2 + 3 * r + 4 = d + 3 * r + 3 + 3 by omega] at rc
      have le : t + 1 ≤ (gSg K r (t + 1, true)).1 := gSg_ge r (t + 1, true)
      rw [eR_t (a := t) (b := t + 1) (by omega) le, eR_k e (by omega)] at hQ
      refine rc _ (fun τ' h1 e2 => T_X5_takeSingle_25_42a _ _ _ (by omega) ⟨fun z => ?_, fun z => ?_⟩)
      · have := hQ τ' h1 e2
        rw [b01_0.mp z] at this; exact this
      · have := hQ τ' h1 e2
        rw [b01_n0.mp z] at this; exact this
    · rw [eg] at hQ
      have l1 := l 21 k1 (by decide)
      have hv : hS K (aV D K V) (r + 1) t = hL K (gSg K r) (hS K (aV D K V) r) 400 false (hS K (aV D K V) r (t + 1)) (gSg K r (t + 1, true)) := by rw [hS, if_neg (by omega), if_pos k1]
      rw [hv] at hQ
      refine E_X5_takeSingle_25 _ (S_kindT hC hI (by omega) (T_X5_takeSingle_25_11a _ _ (by omega) ⟨fun c => absurd c x6, fun _ => ⟨fun c => absurd c (by omega), fun _ => ⟨fun _ => ?_, fun c => absurd (by omega) c⟩⟩⟩))
      rw [hx, hI.2.2.1, nI_1]
      have le : t + 1 ≤ (gTst K (gSg K r) (t + 1, true)).1 := Nat.le_trans (gSg_ge r (t + 1, true)) (gL_ge (gSg_ge r) 400 _)
      rw [eR_t (a := t) (b := t + 1) (by omega) (by omega), eR_k e (by omega), eR_le le (by omega)] at hQ
      refine S_testT (d := d + 3 * r) hC hE hM hE4 (gSg_le hE r) (gSg_ge r) (S_singleT hC hE hM hE4 r (by omega) d) (t + 1) e _ l1 f (tI_mv hI (t + 1)) (tW_2 hW rfl) (fun τ' h1 e2 => T_X5_takeSingle_25_71a _ _ _ (by omega) ⟨b01_01 _, ?_⟩)
      rw [h1.2.2.1, nI_1]
      exact hQ _ (tI_mv h1 _) e2
