/-! ===== stand: to the end ===== -/
theorem fd_0 {σ : mS} {j k : Nat} (hk : k < dn (DM σ)) (h : fdR σ j k = 0) : stB (DM σ) (coM σ) (hiM σ) (j + 1) k = stB (DM σ) (coM σ) (hiM σ) j k := by
  rw [fdR] at h
  rw [stB_s, sStep, if_pos hk]
  by_cases e : stB (DM σ) (coM σ) (hiM σ) j k = 0
  · rw [if_pos e] at h ⊢; rw [h, e]
  · rw [if_neg e]
theorem fd_1 {σ : mS} {j k : Nat} (hk : k < dn (DM σ)) (h : fdR σ j k ≠ 0) : stB (DM σ) (coM σ) (hiM σ) j k = 0 ∧ stB (DM σ) (coM σ) (hiM σ) (j + 1) k = fdR σ j k := by
  rw [fdR] at h ⊢
  by_cases e : stB (DM σ) (coM σ) (hiM σ) j k = 0
  · rw [if_pos e, stB_s, sStep, if_pos hk, if_pos e]; exact ⟨e, rfl⟩
  · rw [if_neg e] at h; exact absurd rfl h
theorem stN_0 {D : mDeb} {co hi : Nat → Bool} {j k : Nat} (h : stB D co hi (j + 1) k = stB D co hi j k) : stN D co hi (j + 1) k = stN D co hi j k := by
  rw [stN_s, if_neg (fun q => by rw [h] at q; exact q.2 q.1)]
theorem L_st4_52 {Γ : Nat × (Nat → Int32)} {d n0 bc bs j : Nat} {Q : mQ} {σ : mS} (h : sV σ)
    (hX : ¬ stQ (DM σ) (coM σ) (hiM σ) j → ∀ τ, rJ_52 σ τ (j + 1) → mK Γ M_X9_stand (d + 3) Q n0 bc bs 105 [(0, .ref 26), (1, .ref 52), (2, .ref 53), (3, .int (nI (j + 1)))] [] 60 mSH τ)
    (hQ : stQ (DM σ) (coM σ) (hiM σ) j → ∀ τ, rJ_52 σ τ j → Q (.inl (some (.int (nI j)))) 60 mSH τ) :
    ∀ m i, i + m = dn (DM σ) → ∀ τ acc, fS_52 σ τ → (∀ a, a < dn (DM σ) → dst (DM σ) a = true → τ.1 57 a = nxA (DM σ) (uN (dt (DM σ) a)) (a + 1) (dn (DM σ) - a - 1)) → (∀ k, k < dn (DM σ) → τ.1 56 k = nxA (DM σ) k 0 (dn (DM σ))) →
    (∀ k, k < dn (DM σ) → τ.1 58 k = fdR σ j k) →
    (∀ k, k < i → τ.1 52 k = stB (DM σ) (coM σ) (hiM σ) (j + 1) k ∧ τ.1 53 k = stN (DM σ) (coM σ) (hiM σ) (j + 1) k) →
    (∀ k, i ≤ k → k < dn (DM σ) → τ.1 52 k = stB (DM σ) (coM σ) (hiM σ) j k ∧ τ.1 53 k = stN (DM σ) (coM σ) (hiM σ) j k) →
    (acc = true ↔ ∃ k, k < i ∧ stB (DM σ) (coM σ) (hiM σ) j k = 0 ∧ stB (DM σ) (coM σ) (hiM σ) (j + 1) k ≠ 0) →
    mK Γ M_X9_stand (d + 3) Q n0 bc bs 157 [(0, .ref 26), (1, .ref 52), (2, .ref 53), (3, .int (nI j)), (4, .int (b01 acc)), (5, .int (nI i))] [] 60 mSH τ
  | 0, i, hm, τ, acc, hF, hC, h56, h58, hA, hB, hacc => by
    have h40 := h.2.1
    have hV' := fS_V_52 hF h
    refine T_X9_stand_26_52_53_157 _ _ _ ⟨fun _ => ?_, fun c => absurd (by rw [sV_n hV', fS_D_52 hF]; exact nI_le (by omega) (by omega)) c⟩
    cases acc
    · have hq : stQ (DM σ) (coM σ) (hiM σ) j := by
        intro k hk
        by_cases z : k < dn (DM σ)
        · apply Classical.byContradiction
          intro w
          have := hacc.mpr ⟨k, by omega, hk, w⟩
          cases this
        · exact (stB_ok (DM σ) (coM σ) (hiM σ) (j + 1)).2 k (by omega)
      refine ⟨fun _ => hQ hq τ ⟨hF, hC, h56, fun k hk => ?_⟩, fun c => absurd rfl c⟩
      rw [← stQ_eq hq, ← stN_q hq]
      exact hA k (by omega)
    · refine ⟨fun c => absurd c (by decide), fun _ => ?_⟩
      rw [nI_1]
      obtain ⟨k, h1, h2, h3⟩ := hacc.mp rfl
      exact hX (fun q => h3 (q k h2)) τ ⟨hF, hC, h56, fun k hk => hA k (by omega)⟩
  | m + 1, i, hm, τ, acc, hF, hC, h56, h58, hA, hB, hacc => by
    have h40 := h.2.1
    have hV' := fS_V_52 hF h
    have hi : i < dn (DM σ) := by omega
    refine T_X9_stand_26_52_53_157 _ _ _ ⟨fun c => absurd c (by rw [sV_n hV', fS_D_52 hF]; exact nI_ge (by omega) (by omega)), fun _ => ⟨vp_in_nI (by omega) (by omega), ?_⟩⟩
    rw [nI_clamp (by omega), h58 i hi, nI_1]
    refine ⟨fun c => ?_, fun c => ?_⟩
    · have e := fd_0 hi c
      refine L_st4_52 h hX hQ m (i + 1) (by omega) τ acc hF hC h56 h58 (fun k hk => ?_) (fun k h1 h2 => hB k (by omega) h2) ?_
      · by_cases z : k = i
        · subst z; rw [e, stN_0 e]; exact hB k (Nat.le_refl k) hi
        · exact hA k (by omega)
      · rw [hacc]
        constructor
        · rintro ⟨k, h1, h2⟩; exact ⟨k, by omega, h2⟩
        · rintro ⟨k, h1, h2, h3⟩
          by_cases z : k = i
          · subst z; rw [e] at h3; exact absurd h2 h3
          · exact ⟨k, by omega, h2, h3⟩
    · have e := fd_1 hi c
      rw [nI_1]
      have one : (1 : Int32) = b01 true := rfl
      rw [one]
      refine L_st4_52 h hX hQ m (i + 1) (by omega) _ true (fS_p_52 (fS_p_52 hF (by omega)) (by omega)) (fun a h1 h2 => ?_) (fun k hk => ?_) (fun k hk => ?_) (fun k hk => ?_) (fun k h1 h2 => ?_) ⟨fun _ => ⟨i, by omega, e.1, by rw [e.2]; exact c⟩, fun _ => rfl⟩
      · rw [mPI_ne (by decide), mPI_ne (by decide)]; exact hC a h1 h2
      · rw [mPI_ne (by decide), mPI_ne (by decide)]; exact h56 k hk
      · rw [mPI_ne (by decide), mPI_ne (by decide)]; exact h58 k hk
      · rw [mPI_ne (by decide), mPI_at, mPI_at, mPI_ne (by decide)]
        by_cases z : k = i
        · rw [if_pos z, if_pos z, z, e.2, stN_s, if_pos ⟨e.1, by rw [e.2]; exact c⟩]; exact ⟨rfl, rfl⟩
        · rw [if_neg z, if_neg z]; exact hA k (by omega)
      · rw [mPI_ne (by decide), mPI_at, mPI_at, mPI_ne (by decide), if_neg (by omega), if_neg (by omega)]
        exact hB k (by omega) h2
theorem L_st5_52 {Γ : Nat × (Nat → Int32)} {d n0 bc bs : Nat} {Q : mQ} {σ : mS} (h : sV σ) : ∀ f j, f + j = 40 → (∀ i, i < j → ¬ stQ (DM σ) (coM σ) (hiM σ) i) →
    (∀ τ, rJ_52 σ τ (stRf (DM σ) (coM σ) (hiM σ) f j) → Q (.inl (some (.int (nI (stRf (DM σ) (coM σ) (hiM σ) f j))))) 60 mSH τ) → ∀ τ, rJ_52 σ τ j →
    mK Γ M_X9_stand (d + 3) Q n0 bc bs 105 [(0, .ref 26), (1, .ref 52), (2, .ref 53), (3, .int (nI j))] [] 60 mSH τ := by
  intro f
  induction f with
  | zero =>
    intro j hj hl hQ τ hR
    have h40 := h.2.1
    have hq := st_40 (co := coM σ) (hi := hiM σ) (show dn (DM σ) ≤ j by omega) hl
    refine T_X9_stand_26_52_53_105 _ ?_
    refine L_st3_52 h (fun τ' hR' h58 => ?_) (dn (DM σ)) 0 (by omega) τ hR (fun k hk => absurd hk (by omega))
    exact L_st4_52 h (fun q => absurd hq q) (fun _ τ'' hR'' => hQ τ'' hR'') (dn (DM σ)) 0 (by omega) τ' false hR'.1 hR'.2.1 hR'.2.2.1 h58 (fun k hk => absurd hk (by omega)) (fun k _ hk => hR'.2.2.2 k hk) ⟨fun c => (by cases c), fun ⟨k, hk, _⟩ => absurd hk (by omega)⟩
  | succ f ih =>
    intro j hj hl hQ τ hR
    refine T_X9_stand_26_52_53_105 _ ?_
    refine L_st3_52 h (fun τ' hR' h58 => ?_) (dn (DM σ)) 0 (by omega) τ hR (fun k hk => absurd hk (by omega))
    refine L_st4_52 h (fun q τ'' hR'' => ?_) (fun q τ'' hR'' => ?_) (dn (DM σ)) 0 (by omega) τ' false hR'.1 hR'.2.1 hR'.2.2.1 h58 (fun k hk => absurd hk (by omega)) (fun k _ hk => hR'.2.2.2 k hk) ⟨fun c => (by cases c), fun ⟨k, hk, _⟩ => absurd hk (by omega)⟩
    · rw [stRf, if_neg q] at hQ
      exact ih (j + 1) (by omega) (fun i hi => by
        by_cases e : i = j
        · subst e; exact q
        · exact hl i (by omega)) hQ τ'' hR''
    · rw [stRf, if_pos q] at hQ
      exact hQ τ'' hR''
theorem S_stand_52 {Γ : Nat × (Nat → Int32)} {d : Nat} {Q : mQ} {σ : mS} (h : sV σ)
    (hQ : ∀ τ, fS_52 σ τ → (∀ k, k < dn (DM σ) → τ.1 52 k = stF (DM σ) (coM σ) (hiM σ) k ∧ τ.1 53 k = stN (DM σ) (coM σ) (hiM σ) (stR (DM σ) (coM σ) (hiM σ)) k) → Q (.inl (some (.int (nI (stR (DM σ) (coM σ) (hiM σ)))))) 60 mSH τ) :
    mCall Γ M_X9_stand (d + 3) 0 0 [.ref 26, .ref 52, .ref 53] 60 mSH σ Q := by
  refine E_X9_stand_26_52_53 ?_
  refine L_st1_52 h (fun τ hF hJ => ?_) (dn (DM σ)) 0 (by omega) σ ⟨fun _ _ _ _ _ _ => rfl, rfl⟩ (fun k hk => absurd hk (by omega))
  refine L_st2_52 h (fun τ' hF' hJ' hC' => ?_) (dn (DM σ)) (Nat.le_refl _) τ hF (fun k hk => ⟨by rw [Nat.sub_self]; exact (hJ k hk).1, (hJ k hk).2⟩) (fun a h1 h2 => absurd h2 (by omega))
  refine L_st5_52 h 40 0 rfl (fun i hi => absurd hi (by omega)) (fun τ'' hR => hQ τ'' hR.1 (fun k hk => hR.2.2.2 k hk)) τ' ⟨hF', fun a h1 h2 => ?_, fun k hk => (hJ' k hk).1, fun k hk => (hJ' k hk).2⟩
  have := hC' a
  rw [fS_D_52 hF'] at this
  exact this h1 h2
theorem L_st4_54 {Γ : Nat × (Nat → Int32)} {d n0 bc bs j : Nat} {Q : mQ} {σ : mS} (h : sV σ)
    (hX : ¬ stQ (DM σ) (coM σ) (hiM σ) j → ∀ τ, rJ_54 σ τ (j + 1) → mK Γ M_X9_stand (d + 3) Q n0 bc bs 105 [(0, .ref 26), (1, .ref 54), (2, .ref 55), (3, .int (nI (j + 1)))] [] 60 mSH τ)
    (hQ : stQ (DM σ) (coM σ) (hiM σ) j → ∀ τ, rJ_54 σ τ j → Q (.inl (some (.int (nI j)))) 60 mSH τ) :
    ∀ m i, i + m = dn (DM σ) → ∀ τ acc, fS_54 σ τ → (∀ a, a < dn (DM σ) → dst (DM σ) a = true → τ.1 57 a = nxA (DM σ) (uN (dt (DM σ) a)) (a + 1) (dn (DM σ) - a - 1)) → (∀ k, k < dn (DM σ) → τ.1 56 k = nxA (DM σ) k 0 (dn (DM σ))) →
    (∀ k, k < dn (DM σ) → τ.1 58 k = fdR σ j k) →
    (∀ k, k < i → τ.1 54 k = stB (DM σ) (coM σ) (hiM σ) (j + 1) k ∧ τ.1 55 k = stN (DM σ) (coM σ) (hiM σ) (j + 1) k) →
    (∀ k, i ≤ k → k < dn (DM σ) → τ.1 54 k = stB (DM σ) (coM σ) (hiM σ) j k ∧ τ.1 55 k = stN (DM σ) (coM σ) (hiM σ) j k) →
    (acc = true ↔ ∃ k, k < i ∧ stB (DM σ) (coM σ) (hiM σ) j k = 0 ∧ stB (DM σ) (coM σ) (hiM σ) (j + 1) k ≠ 0) →
    mK Γ M_X9_stand (d + 3) Q n0 bc bs 157 [(0, .ref 26), (1, .ref 54), (2, .ref 55), (3, .int (nI j)), (4, .int (b01 acc)), (5, .int (nI i))] [] 60 mSH τ
  | 0, i, hm, τ, acc, hF, hC, h56, h58, hA, hB, hacc => by
    have h40 := h.2.1
    have hV' := fS_V_54 hF h
    refine T_X9_stand_26_54_55_157 _ _ _ ⟨fun _ => ?_, fun c => absurd (by rw [sV_n hV', fS_D_54 hF]; exact nI_le (by omega) (by omega)) c⟩
    cases acc
    · have hq : stQ (DM σ) (coM σ) (hiM σ) j := by
        intro k hk
        by_cases z : k < dn (DM σ)
        · apply Classical.byContradiction
          intro w
          have := hacc.mpr ⟨k, by omega, hk, w⟩
          cases this
        · exact (stB_ok (DM σ) (coM σ) (hiM σ) (j + 1)).2 k (by omega)
      refine ⟨fun _ => hQ hq τ ⟨hF, hC, h56, fun k hk => ?_⟩, fun c => absurd rfl c⟩
      rw [← stQ_eq hq, ← stN_q hq]
      exact hA k (by omega)
    · refine ⟨fun c => absurd c (by decide), fun _ => ?_⟩
      rw [nI_1]
      obtain ⟨k, h1, h2, h3⟩ := hacc.mp rfl
      exact hX (fun q => h3 (q k h2)) τ ⟨hF, hC, h56, fun k hk => hA k (by omega)⟩
  | m + 1, i, hm, τ, acc, hF, hC, h56, h58, hA, hB, hacc => by
    have h40 := h.2.1
    have hV' := fS_V_54 hF h
    have hi : i < dn (DM σ) := by omega
    refine T_X9_stand_26_54_55_157 _ _ _ ⟨fun c => absurd c (by rw [sV_n hV', fS_D_54 hF]; exact nI_ge (by omega) (by omega)), fun _ => ⟨vp_in_nI (by omega) (by omega), ?_⟩⟩
    rw [nI_clamp (by omega), h58 i hi, nI_1]
    refine ⟨fun c => ?_, fun c => ?_⟩
    · have e := fd_0 hi c
      refine L_st4_54 h hX hQ m (i + 1) (by omega) τ acc hF hC h56 h58 (fun k hk => ?_) (fun k h1 h2 => hB k (by omega) h2) ?_
      · by_cases z : k = i
        · subst z; rw [e, stN_0 e]; exact hB k (Nat.le_refl k) hi
        · exact hA k (by omega)
      · rw [hacc]
        constructor
        · rintro ⟨k, h1, h2⟩; exact ⟨k, by omega, h2⟩
        · rintro ⟨k, h1, h2, h3⟩
          by_cases z : k = i
          · subst z; rw [e] at h3; exact absurd h2 h3
          · exact ⟨k, by omega, h2, h3⟩
    · have e := fd_1 hi c
      rw [nI_1]
      have one : (1 : Int32) = b01 true := rfl
      rw [one]
      refine L_st4_54 h hX hQ m (i + 1) (by omega) _ true (fS_p_54 (fS_p_54 hF (by omega)) (by omega)) (fun a h1 h2 => ?_) (fun k hk => ?_) (fun k hk => ?_) (fun k hk => ?_) (fun k h1 h2 => ?_) ⟨fun _ => ⟨i, by omega, e.1, by rw [e.2]; exact c⟩, fun _ => rfl⟩
      · rw [mPI_ne (by decide), mPI_ne (by decide)]; exact hC a h1 h2
      · rw [mPI_ne (by decide), mPI_ne (by decide)]; exact h56 k hk
      · rw [mPI_ne (by decide), mPI_ne (by decide)]; exact h58 k hk
      · rw [mPI_ne (by decide), mPI_at, mPI_at, mPI_ne (by decide)]
        by_cases z : k = i
        · rw [if_pos z, if_pos z, z, e.2, stN_s, if_pos ⟨e.1, by rw [e.2]; exact c⟩]; exact ⟨rfl, rfl⟩
        · rw [if_neg z, if_neg z]; exact hA k (by omega)
      · rw [mPI_ne (by decide), mPI_at, mPI_at, mPI_ne (by decide), if_neg (by omega), if_neg (by omega)]
        exact hB k (by omega) h2
theorem L_st5_54 {Γ : Nat × (Nat → Int32)} {d n0 bc bs : Nat} {Q : mQ} {σ : mS} (h : sV σ) : ∀ f j, f + j = 40 → (∀ i, i < j → ¬ stQ (DM σ) (coM σ) (hiM σ) i) →
    (∀ τ, rJ_54 σ τ (stRf (DM σ) (coM σ) (hiM σ) f j) → Q (.inl (some (.int (nI (stRf (DM σ) (coM σ) (hiM σ) f j))))) 60 mSH τ) → ∀ τ, rJ_54 σ τ j →
    mK Γ M_X9_stand (d + 3) Q n0 bc bs 105 [(0, .ref 26), (1, .ref 54), (2, .ref 55), (3, .int (nI j))] [] 60 mSH τ := by
  intro f
  induction f with
  | zero =>
    intro j hj hl hQ τ hR
    have h40 := h.2.1
    have hq := st_40 (co := coM σ) (hi := hiM σ) (show dn (DM σ) ≤ j by omega) hl
    refine T_X9_stand_26_54_55_105 _ ?_
    refine L_st3_54 h (fun τ' hR' h58 => ?_) (dn (DM σ)) 0 (by omega) τ hR (fun k hk => absurd hk (by omega))
    exact L_st4_54 h (fun q => absurd hq q) (fun _ τ'' hR'' => hQ τ'' hR'') (dn (DM σ)) 0 (by omega) τ' false hR'.1 hR'.2.1 hR'.2.2.1 h58 (fun k hk => absurd hk (by omega)) (fun k _ hk => hR'.2.2.2 k hk) ⟨fun c => (by cases c), fun ⟨k, hk, _⟩ => absurd hk (by omega)⟩
  | succ f ih =>
    intro j hj hl hQ τ hR
    refine T_X9_stand_26_54_55_105 _ ?_
    refine L_st3_54 h (fun τ' hR' h58 => ?_) (dn (DM σ)) 0 (by omega) τ hR (fun k hk => absurd hk (by omega))
    refine L_st4_54 h (fun q τ'' hR'' => ?_) (fun q τ'' hR'' => ?_) (dn (DM σ)) 0 (by omega) τ' false hR'.1 hR'.2.1 hR'.2.2.1 h58 (fun k hk => absurd hk (by omega)) (fun k _ hk => hR'.2.2.2 k hk) ⟨fun c => (by cases c), fun ⟨k, hk, _⟩ => absurd hk (by omega)⟩
    · rw [stRf, if_neg q] at hQ
      exact ih (j + 1) (by omega) (fun i hi => by
        by_cases e : i = j
        · subst e; exact q
        · exact hl i (by omega)) hQ τ'' hR''
    · rw [stRf, if_pos q] at hQ
      exact hQ τ'' hR''
theorem S_stand_54 {Γ : Nat × (Nat → Int32)} {d : Nat} {Q : mQ} {σ : mS} (h : sV σ)
    (hQ : ∀ τ, fS_54 σ τ → (∀ k, k < dn (DM σ) → τ.1 54 k = stF (DM σ) (coM σ) (hiM σ) k ∧ τ.1 55 k = stN (DM σ) (coM σ) (hiM σ) (stR (DM σ) (coM σ) (hiM σ)) k) → Q (.inl (some (.int (nI (stR (DM σ) (coM σ) (hiM σ)))))) 60 mSH τ) :
    mCall Γ M_X9_stand (d + 3) 0 0 [.ref 26, .ref 54, .ref 55] 60 mSH σ Q := by
  refine E_X9_stand_26_54_55 ?_
  refine L_st1_54 h (fun τ hF hJ => ?_) (dn (DM σ)) 0 (by omega) σ ⟨fun _ _ _ _ _ _ => rfl, rfl⟩ (fun k hk => absurd hk (by omega))
  refine L_st2_54 h (fun τ' hF' hJ' hC' => ?_) (dn (DM σ)) (Nat.le_refl _) τ hF (fun k hk => ⟨by rw [Nat.sub_self]; exact (hJ k hk).1, (hJ k hk).2⟩) (fun a h1 h2 => absurd h2 (by omega))
  refine L_st5_54 h 40 0 rfl (fun i hi => absurd hi (by omega)) (fun τ'' hR => hQ τ'' hR.1 (fun k hk => hR.2.2.2 k hk)) τ' ⟨hF', fun a h1 h2 => ?_, fun k hk => (hJ' k hk).1, fun k hk => (hJ' k hk).2⟩
  have := hC' a
  rw [fS_D_54 hF'] at this
  exact this h1 h2
