/-! ===== the model's grammar, method by method ===== -/
theorem lt_E {K : Nat → Nat} {E t k : Nat} (hE : gEnd K E) (e : K t = k) (hk : k < 26) (h : t ≤ E) : t < E := by
  have : t ≠ E := fun q => by rw [q] at e; rcases hE with z | z <;> omega
  omega
theorem gN_1 {K : Nat → Nat} {k t : Nat} (e : K t = k) : gN K k (t, true) = (t + 1, true) := gN_t rfl e
theorem gN_0 {K : Nat → Nat} {k t : Nat} (e : K t ≠ k) : gN K k (t, true) = (t, false) := gN_n e
theorem gN_ff {K : Nat → Nat} {k t : Nat} : gN K k (t, false) = (t, false) := gN_f rfl
theorem gO_1 {K : Nat → Nat} {k t : Nat} (e : K t = k) : gO K k (t, true) = gN K 25 (t + 1, true) := gO_t rfl e
theorem gO_0 {K : Nat → Nat} {k t : Nat} (e : K t ≠ k) : gO K k (t, true) = (t, true) := gO_n e
theorem gO_ff {K : Nat → Nat} {k t : Nat} : gO K k (t, false) = (t, false) := gO_f rfl
theorem gT_1 {K : Nat → Nat} {k t : Nat} : gT K k (t, true) = true ↔ K t = k := gT_t rfl
theorem gT_ff {K : Nat → Nat} {k t : Nat} : ¬ gT K k (t, false) = true := gT_f rfl
theorem gA_1 {t : Nat} {b : Bool} : gA (t, b) = (t + 1, true) := rfl
theorem one_ne : ¬ (1 : Int32) = 0 := by decide
theorem S_atM {Γ : Nat × (Nat → Int32)} {d n0 bc bs : Nat} {Q : mQ} {σ : mS} {K P : Nat → Nat} {V : Nat → Int64} {M E t : Nat} {x : Int32} (h : tM σ K P V M) (hF : tF K V) (hE : gEnd K E) (hM : E < M) (ht : t ≤ E)
    (hY : gAt K (t, true) → Q (.inl (some (.int (b01 (gN K 24 (t + 1, true)).2)))) 60 mSH (mgS σ (gN K 24 (t + 1, true)).1))
    (hN : ¬ gAt K (t, true) → Q (.inl (some (.int 0))) 60 mSH (mgS σ t)) :
    mCall Γ M_X9_word (d + 7) 0 0 [.ref 26, .ref 1214] 60 mSH (mgS σ t) (mRt Γ M_X9_single (d + 8) Q n0 bc bs 92 [(0, .ref 26), (1, .int x)] []) := by
  have name : gAt K (t, true) → mCall Γ M_X9_name (d + 7) 0 0 [.ref 26] 60 mSH (mgS σ (t + 1)) (mRt Γ M_X9_single (d + 8) Q n0 bc bs 126 [(0, .ref 26), (1, .int x)] []) := fun q => by
    have hQ := hY q
    have hl := gAt_le hE ht q
    have hl : t + 1 ≤ E := hl
    refine S_nameM h hF (by omega) (fun z => T_X9_single_26_126a _ _ ⟨fun c => absurd c one_ne, fun _ => ?_⟩) (fun z => T_X9_single_26_126a _ _ ⟨fun _ => ?_, fun c => absurd rfl c⟩)
    · rw [gN_1 z] at hQ; exact hQ
    · rw [gN_0 z] at hQ; exact hQ
  refine S_wordM 14 h hF (by omega) (by decide) (fun q => T_X9_single_26_92a _ _ ⟨fun c => absurd c one_ne, fun _ => name (.inl (gT_1.mpr q))⟩) (fun q14 => T_X9_single_26_92a _ _ ⟨fun _ => ?_, fun c => absurd rfl c⟩)
  refine S_wordM 15 h hF (by omega) (by decide) (fun q => T_X9_single_26_101a _ _ ⟨fun c => absurd c one_ne, fun _ => name (.inr (.inl (gT_1.mpr q)))⟩) (fun q15 => T_X9_single_26_101a _ _ ⟨fun _ => ?_, fun c => absurd rfl c⟩)
  refine S_wordM 16 h hF (by omega) (by decide) (fun q => T_X9_single_26_110a _ _ ⟨fun c => absurd c one_ne, fun _ => name (.inr (.inr (.inl (gT_1.mpr q))))⟩) (fun q16 => T_X9_single_26_110a _ _ ⟨fun _ => ?_, fun c => absurd rfl c⟩)
  refine S_wordM 17 h hF (by omega) (by decide) (fun q => T_X9_single_26_119a _ _ ⟨fun c => absurd c one_ne, fun _ => name (.inr (.inr (.inr (gT_1.mpr q))))⟩) (fun q17 => T_X9_single_26_119a _ _ ⟨fun _ => hN (fun q => ?_), fun c => absurd rfl c⟩)
  rcases q with z | z | z | z
  · exact q14 (gT_1.mp z)
  · exact q15 (gT_1.mp z)
  · exact q16 (gT_1.mp z)
  · exact q17 (gT_1.mp z)
theorem L_bothM {Γ : Nat × (Nat → Int32)} {d n0 bc bs : Nat} {Q : mQ} {σ : mS} {K P : Nat → Nat} {V : Nat → Int64} {M E : Nat} {x : Int32} {g : gP → gP} (h : tM σ K P V M) (hF : tF K V) (hE : gEnd K E) (hM : E < M) (hE4 : E ≤ 400) (hg : ∀ s : gP, s.1 ≤ E → (g s).1 ≤ E) (hm : ∀ s : gP, s.1 ≤ (g s).1)
    (hS : ∀ t, t ≤ E → ∀ Q' : mQ, Q' (.inl (some (.int (b01 (g (t, true)).2)))) 60 mSH (mgS σ (g (t, true)).1) → mCall Γ M_X9_single (d + 7) 0 0 [.ref 26, .int x] 60 mSH (mgS σ t) Q') :
    ∀ m t, E ≤ t + m → t ≤ E → (∀ s' : gP, (s'.2 = true → K s'.1 ≠ 19) → gL K g 400 s' = gL K g 400 (t, true) → t ≤ s'.1 → s'.1 ≤ E → Q (.inl (some (.int (b01 s'.2)))) 60 mSH (mgS σ s'.1)) →
      mK Γ M_X9_both (d + 8) Q n0 bc bs 10 [(0, .ref 26), (1, .int x)] [] 60 mSH (mgS σ t)
  | m, t, hmt, ht, hQ => by
    refine T_X9_both_26_10 _ (S_wordM 19 h hF (by omega) (by decide) (fun q => T_X9_both_26_16a _ _ ⟨fun c => absurd c one_ne, fun _ => ?_⟩) (fun q => T_X9_both_26_16a _ _ ⟨fun _ => ?_, fun c => absurd rfl c⟩))
    · have l := lt_E hE q (by decide) ht
      have st := LL_step (s := (t, true)) hE hE4 hg hm ht (.inl (gT_1.mpr q))
      have gl := hg (t + 1, true) (show t + 1 ≤ E from l)
      have gm := hm (t + 1, true)
      have gm' : t + 1 ≤ (g (t + 1, true)).1 := gm
      rw [gA_1] at st
      refine hS (t + 1) l _ (T_X9_both_26_24a _ _ ⟨fun c => ?_, fun c => ?_⟩)
      · have f := b01_0.mp c
        have := hQ (g (t + 1, true)) (fun z => by rw [f] at z; cases z) st.symm (by omega) gl
        rw [f] at this; exact this
      · have f : (g (t + 1, true)).2 = true := by cases z : (g (t + 1, true)).2; exact absurd (by rw [z]; rfl) c; rfl
        have e := gP_t f
        match m, hmt with
        | 0, hmt => exact absurd hmt (by omega)
        | m + 1, hmt =>
          refine L_bothM h hF hE hM hE4 hg hm hS m _ (by omega) gl (fun s' h1 h2 h3 h4 => hQ s' h1 ?_ (by omega) h4)
          rw [h2, st, ← e]
    · exact hQ (t, true) (fun _ => q) rfl (Nat.le_refl _) ht
theorem S_bothM {Γ : Nat × (Nat → Int32)} {d : Nat} {Q : mQ} {σ : mS} {K P : Nat → Nat} {V : Nat → Int64} {M E : Nat} {x : Int32} {g : gP → gP} (h : tM σ K P V M) (hF : tF K V) (hE : gEnd K E) (hM : E < M) (hE4 : E ≤ 400) (hg : ∀ s : gP, s.1 ≤ E → (g s).1 ≤ E) (hm : ∀ s : gP, s.1 ≤ (g s).1)
    (hS : ∀ t, t ≤ E → ∀ Q' : mQ, Q' (.inl (some (.int (b01 (g (t, true)).2)))) 60 mSH (mgS σ (g (t, true)).1) → mCall Γ M_X9_single (d + 7) 0 0 [.ref 26, .int x] 60 mSH (mgS σ t) Q')
    (t : Nat) (ht : t ≤ E) (hQ : ∀ s' : gP, (s'.2 = true → K s'.1 ≠ 19) → gL K g 400 s' = gL K g 400 (g (t, true)) → t ≤ s'.1 → s'.1 ≤ E → Q (.inl (some (.int (b01 s'.2)))) 60 mSH (mgS σ s'.1)) :
      mCall Γ M_X9_both (d + 8) 0 0 [.ref 26, .int x] 60 mSH (mgS σ t) Q := by
  have gl := hg (t, true) ht
  have gm' : t ≤ (g (t, true)).1 := hm (t, true)
  refine E_X9_both_26 _ (hS t ht _ (T_X9_both_26_5a _ _ ⟨fun c => ?_, fun c => ?_⟩))
  · have f := b01_0.mp c
    have := hQ (g (t, true)) (fun z => by rw [f] at z; cases z) rfl gm' gl
    rw [f] at this; exact this
  · have f : (g (t, true)).2 = true := by cases z : (g (t, true)).2; exact absurd (by rw [z]; rfl) c; rfl
    refine L_bothM h hF hE hM hE4 hg hm hS E _ (by omega) gl (fun s' h1 h2 h3 h4 => hQ s' h1 ?_ (by omega) h4)
    rw [h2, ← gP_t f]
theorem L_testM {Γ : Nat × (Nat → Int32)} {d n0 bc bs : Nat} {Q : mQ} {σ : mS} {K P : Nat → Nat} {V : Nat → Int64} {M E : Nat} {x : Int32} {g : gP → gP} (h : tM σ K P V M) (hF : tF K V) (hE : gEnd K E) (hM : E < M) (hE4 : E ≤ 400) (hg : ∀ s : gP, s.1 ≤ E → (g s).1 ≤ E) (hm : ∀ s : gP, s.1 ≤ (g s).1)
    (hS : ∀ t, t ≤ E → ∀ Q' : mQ, Q' (.inl (some (.int (b01 (g (t, true)).2)))) 60 mSH (mgS σ (g (t, true)).1) → mCall Γ M_X9_single (d + 7) 0 0 [.ref 26, .int x] 60 mSH (mgS σ t) Q') :
    ∀ m t, E ≤ t + m → t ≤ E → K t ≠ 19 → Q (.inl (some (.int (b01 (gL K g 400 (t, true)).2)))) 60 mSH (mgS σ (gL K g 400 (t, true)).1) →
      mK Γ M_X9_test (d + 9) Q n0 bc bs 10 [(0, .ref 26), (1, .int x)] [] 60 mSH (mgS σ t)
  | m, t, hmt, ht, h19, hQ => by
    refine T_X9_test_26_10 _ (S_wordM 20 h hF (by omega) (by decide) (fun q => T_X9_test_26_16a _ _ ⟨fun c => absurd c one_ne, fun _ => ?_⟩) (fun q => T_X9_test_26_16a _ _ ⟨fun _ => ?_, fun c => absurd rfl c⟩))
    · have l := lt_E hE q (by decide) ht
      have st := LL_step (s := (t, true)) hE hE4 hg hm ht (.inr (gT_1.mpr q))
      rw [gA_1] at st
      refine S_bothM h hF hE hM hE4 hg hm hS (t + 1) l (fun s' h1 h2 h3 h4 => T_X9_test_26_24a _ _ ⟨fun c => ?_, fun c => ?_⟩)
      · have f := b01_0.mp c
        rw [st, ← h2, LL_stop (fun z => z.elim (gT_f f) (gT_f f)), f] at hQ
        exact hQ
      · have f : s'.2 = true := by cases z : s'.2; exact absurd (by rw [z]; rfl) c; rfl
        match m, hmt with
        | 0, hmt => exact absurd hmt (by omega)
        | m + 1, hmt =>
          rw [st, ← h2, gP_t f] at hQ
          exact L_testM h hF hE hM hE4 hg hm hS m _ (by omega) h4 (h1 f) hQ
    · rw [LL_stop (fun z => z.elim (fun y => h19 (gT_1.mp y)) (fun y => q (gT_1.mp y)))] at hQ
      exact hQ
theorem S_testM {Γ : Nat × (Nat → Int32)} {d : Nat} {Q : mQ} {σ : mS} {K P : Nat → Nat} {V : Nat → Int64} {M E : Nat} {x : Int32} {g : gP → gP} (h : tM σ K P V M) (hF : tF K V) (hE : gEnd K E) (hM : E < M) (hE4 : E ≤ 400) (hg : ∀ s : gP, s.1 ≤ E → (g s).1 ≤ E) (hm : ∀ s : gP, s.1 ≤ (g s).1)
    (hS : ∀ t, t ≤ E → ∀ Q' : mQ, Q' (.inl (some (.int (b01 (g (t, true)).2)))) 60 mSH (mgS σ (g (t, true)).1) → mCall Γ M_X9_single (d + 7) 0 0 [.ref 26, .int x] 60 mSH (mgS σ t) Q')
    (t : Nat) (ht : t ≤ E) (hQ : Q (.inl (some (.int (b01 (gTst K g (t, true)).2)))) 60 mSH (mgS σ (gTst K g (t, true)).1)) :
      mCall Γ M_X9_test (d + 9) 0 0 [.ref 26, .int x] 60 mSH (mgS σ t) Q := by
  rw [gTst] at hQ
  refine E_X9_test_26 _ (S_bothM h hF hE hM hE4 hg hm hS t ht (fun s' h1 h2 h3 h4 => T_X9_test_26_5a _ _ ⟨fun c => ?_, fun c => ?_⟩))
  · have f := b01_0.mp c
    rw [← h2, LL_stop (fun z => z.elim (gT_f f) (gT_f f)), f] at hQ
    exact hQ
  · have f : s'.2 = true := by cases z : s'.2; exact absurd (by rw [z]; rfl) c; rfl
    rw [← h2, gP_t f] at hQ
    exact L_testM h hF hE hM hE4 hg hm hS E _ (by omega) h4 (h1 f) hQ
theorem gAt_n {K : Nat → Nat} {t : Nat} (h : K t ≠ 14 ∧ K t ≠ 15 ∧ K t ≠ 16 ∧ K t ≠ 17) : ¬ gAt K (t, true) := fun q => by
  rcases q with z | z | z | z
  · exact h.1 (gT_1.mp z)
  · exact h.2.1 (gT_1.mp z)
  · exact h.2.2.1 (gT_1.mp z)
  · exact h.2.2.2 (gT_1.mp z)
theorem S_singleM {Γ : Nat × (Nat → Int32)} {σ : mS} {K P : Nat → Nat} {V : Nat → Int64} {M E : Nat} (h : tM σ K P V M) (hF : tF K V) (hE : gEnd K E) (hM : E < M) (hE4 : E ≤ 400) : ∀ r, r ≤ 6 → ∀ (d t : Nat), t ≤ E → ∀ Q : mQ, Q (.inl (some (.int (b01 (gSg K r (t, true)).2)))) 60 mSH (mgS σ (gSg K r (t, true)).1) →
    mCall Γ M_X9_single (d + 3 * r + 9) 0 0 [.ref 26, .int (nI (6 - r))] 60 mSH (mgS σ t) Q
  | 0, hr, d, t, ht, Q, hQ => by
    rw [gSg] at hQ
    have no : ¬ gAt K (t, true) → Q (.inl (some (.int 0))) 60 mSH (mgS σ t) := fun q => by rw [gIf_neg q] at hQ; exact hQ
    refine E_X9_single_26 _ (S_isM 18 h hF (by omega) (by decide) (fun q => T_X9_single_26_6a _ _ ⟨fun c => absurd c one_ne, fun _ => ⟨fun _ => no (gAt_n (by omega)), fun c => absurd rfl c⟩⟩) (fun q18 => T_X9_single_26_6a _ _ ⟨fun _ => ?_, fun c => absurd rfl c⟩))
    refine S_symM 91 21 h (by omega) (by decide) (by decide) (by decide) (fun q => T_X9_single_26_15a _ _ ⟨fun c => absurd c one_ne, fun _ => ⟨fun _ => no (gAt_n (by omega)), fun c => absurd rfl c⟩⟩) (fun q21 => T_X9_single_26_15a _ _ ⟨fun _ => ?_, fun c => absurd rfl c⟩)
    exact S_atM (d := d + 3 * 0 + 1) h hF hE hM ht (fun q => by rw [gIf_pos q, gA_1] at hQ; exact hQ) no
  | r + 1, hr, d, t, ht, Q, hQ => by
    rw [gSg] at hQ
    have hx : nI (6 - (r + 1)) + 1 = nI (6 - r) := by rw [nI_1]; congr 1; omega
    have x6 : ¬ nI (6 - (r + 1)) = 6 := fun c => by
      have := (nI_eq (show 6 - (r + 1) < 2 ^ 31 by omega) (by decide)).mp (c.trans (show (6 : Int32) = nI 6 by decide))
      omega
    rw [show d + 3 * (r + 1) + 9 = (d + 3 * r + 10) + 2 by omega]
    refine E_X9_single_26 _ (S_isM 18 h hF (by omega) (by decide) (fun q => T_X9_single_26_6a _ _ ⟨fun c => absurd c one_ne, fun _ => ⟨fun c => absurd c x6, fun _ => ?_⟩⟩) (fun q18 => T_X9_single_26_6a _ _ ⟨fun _ => ?_, fun c => absurd rfl c⟩))
    · have l := lt_E hE q (by decide) ht
      rw [gIf_neg (gAt_n (by omega)), gIf_pos (gT_1.mpr q), gA_1] at hQ
      refine S_isM 18 h hF (by omega) (by decide) (fun _ => T_X9_single_26_32a _ _ ⟨fun c => absurd c one_ne, fun _ => ?_⟩) (fun z => absurd q z)
      rw [mgS_t, mgS_A, hx]
      have := S_singleM (Γ := Γ) h hF hE hM hE4 r (by omega) (d + 2) (t + 1) l (mRt Γ M_X9_single (d + 3 * r + 10 + 2) Q 60 0 0 54 [(0, .ref 26), (1, .int (nI (6 - (r + 1)))), (2, .int 1)] []) (T_X9_single_26_54a _ _ _ ⟨by cases (gSg K r (t + 1, true)).2; exact .inl rfl; exact .inr rfl, hQ⟩)
      rw [show d + 2 + 3 * r + 9 = d + 3 * r + 10 + 1 by omega] at this
      exact this
    refine S_symM 91 21 h (by omega) (by decide) (by decide) (by decide) (fun q => T_X9_single_26_15a _ _ ⟨fun c => absurd c one_ne, fun _ => ⟨fun c => absurd c x6, fun _ => ?_⟩⟩) (fun q21 => T_X9_single_26_15a _ _ ⟨fun _ => ?_, fun c => absurd rfl c⟩)
    · have l := lt_E hE q (by decide) ht
      rw [gIf_neg (gAt_n (by omega)), gIf_neg (fun z => q18 (gT_1.mp z)), gPr, gN_1 q, if_pos rfl] at hQ
      refine S_isM 18 h hF (by omega) (by decide) (fun z => absurd z q18) (fun _ => T_X9_single_26_32a _ _ ⟨fun _ => ?_, fun c => absurd rfl c⟩)
      rw [mgS_t, mgS_A, hx]
      have tl := gTst_le (r := r) (s := (t + 1, true)) hE l
      refine S_testM (d := d + 3 * r + 2) (g := gSg K r) h hF hE hM hE4 (gSg_le hE r) (gSg_ge r) (fun t ht Q' hQ' => S_singleM h hF hE hM hE4 r (by omega) d t ht Q' hQ') (t + 1) l (T_X9_single_26_64a _ _ _ ⟨fun c => ?_, fun c => ?_⟩)
      · have f := b01_0.mp c
        rw [gN_f f, f] at hQ
        exact hQ
      · have f : (gTst K (gSg K r) (t + 1, true)).2 = true := by cases z : (gTst K (gSg K r) (t + 1, true)).2; exact absurd (by rw [z]; rfl) c; rfl
        rw [gP_t f] at hQ
        refine S_symM 93 22 h (by omega) (by decide) (by decide) (by decide) (fun q => T_X9_single_26_74a _ _ _ ?_) (fun q => T_X9_single_26_74a _ _ _ ?_)
        · rw [gN_1 q] at hQ
          exact S_past1 (T_X9_single_26_77a _ _ _ ⟨fun c => absurd c one_ne, fun _ => hQ⟩)
        · rw [gN_0 q] at hQ
          exact S_past0 (T_X9_single_26_77a _ _ _ ⟨fun _ => hQ, fun c => absurd rfl c⟩)
    · refine S_atM (d := d + 3 * r + 4) h hF hE hM ht (fun q => by rw [gIf_pos q, gA_1] at hQ; exact hQ) (fun q => ?_)
      rw [gIf_neg q, gIf_neg (fun z => q18 (gT_1.mp z)), gPr, gN_0 q21, if_neg (show ¬ (false = true) by decide), gN_ff] at hQ
      exact hQ
