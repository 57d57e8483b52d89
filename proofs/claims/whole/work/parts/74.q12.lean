
/-! ===== the model's grammar ===== -/
set_option maxRecDepth 20000 in
theorem E_X9_past_26 {Γ : Nat × (Nat → Int32)} {d : Nat} {Q : mQ} {σ : mS} (a1 : Int32) (h : ((a1 = 0 → ((a1 = 0 ∨ a1 = 1) ∧ Q (.inl (some (.int a1))) 60 mSH σ)) ∧ (¬ (a1 = 0) → ((a1 = 0 ∨ a1 = 1) ∧ Q (.inl (some (.int a1))) 60 mSH (mPI σ 26 10 ((σ.1 26 10) + 1)))))) : mCall Γ M_X9_past (d + 1) 0 0 [.ref 26, .int a1] 60 mSH σ Q := by
  refine mCall_of rfl (by decide) (Nat.le_of_ble_eq_true rfl) (mOkC (mOk_lo (Nat.le_of_ble_eq_true rfl)) (mOkC mOk_i mOkN)) ?_
  show mK Γ M_X9_past (d + 1) Q 60 0 0 0 [(0, .ref 26), (1, .int a1)] [] 60 mSH σ
  refine mK_iload_n dX9_past_0 rfl rfl (.tail _ (.head _)) ?_
  refine mK_if_eq (tgt := 14) dX9_past_1 rfl (by decide) (fun c1 => ?_) (fun c1 => ?_)
  · refine mK_iload_n dX9_past_14 rfl rfl (.tail _ (.head _)) ?_
    exact mK_zret dX9_past_15 rfl ((h.1 c1).1) (h.1 c1).2
  · refine mK_aload_n dX9_past_4 rfl rfl (.head _) ?_
    refine mK_dup dX9_past_5 rfl rfl ?_
    refine ru_getI (k := 10) (ci := 8) dX9_past_6 rfl rfl kw_1137 ?_
    refine mK_iconst dX9_past_9 rfl qic_1 ?_
    refine mK_iadd dX9_past_10 rfl ?_
    refine ru_putI (k := 10) (ci := 8) dX9_past_11 rfl rfl rfl kw_1137 ?_
    refine mK_iload_n dX9_past_14 rfl rfl (.tail _ (.head _)) ?_
    exact mK_zret dX9_past_15 rfl ((h.2 c1).1) (h.2 c1).2
set_option maxRecDepth 20000 in
theorem E_X9_number_26 {Γ : Nat × (Nat → Int32)} {d : Nat} {Q : mQ} {σ : mS} (h : ((vp_in (σ.1 26 10) 402) ∧ (((σ.1 29 (σ.1 26 10).toNatClampNeg) = 3 → (((h_X9_past_26 σ 1).1 = 0 ∨ (h_X9_past_26 σ 1).1 = 1) ∧ Q (.inl (some (.int (h_X9_past_26 σ 1).1))) 60 mSH (h_X9_past_26 σ 1).2)) ∧ (¬ ((σ.1 29 (σ.1 26 10).toNatClampNeg) = 3) → (((h_X9_past_26 σ 0).1 = 0 ∨ (h_X9_past_26 σ 0).1 = 1) ∧ Q (.inl (some (.int (h_X9_past_26 σ 0).1))) 60 mSH (h_X9_past_26 σ 0).2))))) : mCall Γ M_X9_number (d + 2) 0 0 [.ref 26] 60 mSH σ Q := by
  refine mCall_of rfl (by decide) (Nat.le_of_ble_eq_true rfl) (mOkC (mOk_lo (Nat.le_of_ble_eq_true rfl)) mOkN) ?_
  show mK Γ M_X9_number (d + 2) Q 60 0 0 0 [(0, .ref 26)] [] 60 mSH σ
  refine mK_aload_n dX9_number_0 rfl rfl (.head _) ?_
  refine mK_aload_n dX9_number_1 rfl rfl (.head _) ?_
  refine ru_getR (k := 7) (ci := 8) (a := 29) dX9_number_2 rfl rfl rfl kw_1134 ?_
  refine mK_aload_n dX9_number_5 rfl rfl (.head _) ?_
  refine ru_getI (k := 10) (ci := 8) dX9_number_6 rfl rfl kw_1137 ?_
  refine ru_iald (n := 402) dX9_number_9 rfl rfl (h.1) ?_
  refine mK_iconst dX9_number_10 rfl qic_3 ?_
  refine ru_icmp_ne (tgt := 18) dX9_number_11 rfl (by decide) (fun c1 => ?_) (fun c1 => ?_)
  · refine mK_iconst dX9_number_18 rfl qic_0 ?_
    refine mK_invV (J := M_X9_past) (k := 1) (as := [.int 0]) (st := []) (c1 := 0) (s1 := 0) dX9_number_19 rfl jw_X9_past jn_X9_past rfl (Nat.le_of_ble_eq_true rfl) (Nat.zero_le _) (Nat.zero_le _) rfl kw_1310 kw_1312 kw_45 (b := 26) (Nat.le_of_ble_eq_true rfl) (Nat.le_of_ble_eq_true rfl) rfl ?_
    refine S_X9_past_26 0 (fun z0 => (by decide)) (fun z0 => absurd (by decide) z0) ?_
    show mK Γ M_X9_number (d + 2) Q 60 0 0 22 [(0, .ref 26)] [.int (h_X9_past_26 σ 0).1] 60 mSH (h_X9_past_26 σ 0).2
    exact mK_zret dX9_number_22 rfl ((h.2.2 c1).1) (h.2.2 c1).2
  · refine mK_iconst dX9_number_14 rfl qic_1 ?_
    refine mK_goto (tgt := 19) dX9_number_15 (by decide) ?_
    refine mK_invV (J := M_X9_past) (k := 1) (as := [.int 1]) (st := []) (c1 := 0) (s1 := 0) dX9_number_19 rfl jw_X9_past jn_X9_past rfl (Nat.le_of_ble_eq_true rfl) (Nat.zero_le _) (Nat.zero_le _) rfl kw_1310 kw_1312 kw_45 (b := 26) (Nat.le_of_ble_eq_true rfl) (Nat.le_of_ble_eq_true rfl) rfl ?_
    refine S_X9_past_26 1 (fun z0 => absurd z0 (by decide)) (fun z0 => (by decide)) ?_
    show mK Γ M_X9_number (d + 2) Q 60 0 0 22 [(0, .ref 26)] [.int (h_X9_past_26 σ 1).1] 60 mSH (h_X9_past_26 σ 1).2
    exact mK_zret dX9_number_22 rfl ((h.2.1 c1).1) (h.2.1 c1).2
set_option maxRecDepth 20000 in
theorem E_X9_isSymbol_26 {Γ : Nat × (Nat → Int32)} {d : Nat} {Q : mQ} {σ : mS} (a1 : Int32) (h : ((vp_in (σ.1 26 10) 402) ∧ (((σ.1 29 (σ.1 26 10).toNatClampNeg) = 4 → (((σ.2.1 31 (σ.1 26 10).toNatClampNeg) = (Int32.toInt64 a1) → Q (.inl (some (.int 1))) 60 mSH σ) ∧ (¬ ((σ.2.1 31 (σ.1 26 10).toNatClampNeg) = (Int32.toInt64 a1)) → Q (.inl (some (.int 0))) 60 mSH σ))) ∧ (¬ ((σ.1 29 (σ.1 26 10).toNatClampNeg) = 4) → Q (.inl (some (.int 0))) 60 mSH σ)))) : mCall Γ M_X9_isSymbol (d + 1) 0 0 [.ref 26, .int a1] 60 mSH σ Q := by
  refine mCall_of rfl (by decide) (Nat.le_of_ble_eq_true rfl) (mOkC (mOk_lo (Nat.le_of_ble_eq_true rfl)) (mOkC mOk_i mOkN)) ?_
  show mK Γ M_X9_isSymbol (d + 1) Q 60 0 0 0 [(0, .ref 26), (1, .int a1)] [] 60 mSH σ
  refine mK_aload_n dX9_isSymbol_0 rfl rfl (.head _) ?_
  refine ru_getR (k := 7) (ci := 8) (a := 29) dX9_isSymbol_1 rfl rfl rfl kw_1134 ?_
  refine mK_aload_n dX9_isSymbol_4 rfl rfl (.head _) ?_
  refine ru_getI (k := 10) (ci := 8) dX9_isSymbol_5 rfl rfl kw_1137 ?_
  refine ru_iald (n := 402) dX9_isSymbol_8 rfl rfl (h.1) ?_
  refine mK_iconst dX9_isSymbol_9 rfl qic_4 ?_
  refine ru_icmp_ne (tgt := 32) dX9_isSymbol_10 rfl (by decide) (fun c1 => ?_) (fun c1 => ?_)
  · refine mK_iconst dX9_isSymbol_32 rfl qic_0 ?_
    exact mK_zret dX9_isSymbol_33 rfl (by decide) (h.2.2 c1)
  · refine mK_aload_n dX9_isSymbol_13 rfl rfl (.head _) ?_
    refine ru_getR (k := 9) (ci := 8) (a := 31) dX9_isSymbol_14 rfl rfl rfl kw_1136 ?_
    refine mK_aload_n dX9_isSymbol_17 rfl rfl (.head _) ?_
    refine ru_getI (k := 10) (ci := 8) dX9_isSymbol_18 rfl rfl kw_1137 ?_
    refine ru_lald (n := 402) dX9_isSymbol_21 rfl rfl (h.1) ?_
    refine mK_iload_n dX9_isSymbol_22 rfl rfl (.tail _ (.head _)) ?_
    refine mK_i2l dX9_isSymbol_23 rfl ?_
    refine ru_lif_ne (tgt := 32) dX9_isSymbol_24 rfl dX9_isSymbol_25 rfl (by decide) (fun c2 => ?_) (fun c2 => ?_)
    · refine mK_iconst dX9_isSymbol_32 rfl qic_0 ?_
      exact mK_zret dX9_isSymbol_33 rfl (by decide) ((h.2.1 c1).2 c2)
    · refine mK_iconst dX9_isSymbol_28 rfl qic_1 ?_
      refine mK_goto (tgt := 33) dX9_isSymbol_29 (by decide) ?_
      exact mK_zret dX9_isSymbol_33 rfl (by decide) ((h.2.1 c1).1 c2)
/-- the model's row of tokens -/
def tM (σ : mS) (K P : Nat → Nat) (V : Nat → Int64) (M : Nat) : Prop := M ≤ 402 ∧ (∀ i, K i < 28) ∧ (∀ i, P i ≤ 2000) ∧ ∀ i, i < M → σ.1 29 i = nI (srt (K i)) ∧ σ.1 30 i = nI (P i) ∧ vM (K i) (V i) (σ.2.1 31 i)
/-- words of the stream -/
def tF (K : Nat → Nat) (V : Nat → Int64) : Prop := ∀ i, (K i ≤ 20 → V i = mKy (K i)) ∧ (K i = 24 → ∀ k, k < 21 → V i ≠ mKy k)
def mgS (σ : mS) (t : Nat) : mS := mPI σ 26 10 (nI t)
theorem mgS_t (σ : mS) (t : Nat) : (mgS σ t).1 26 10 = nI t := by rw [mgS, mPI_at, if_pos rfl]
theorem mgS_29 (σ : mS) (t : Nat) : (mgS σ t).1 29 = σ.1 29 := by rw [mgS, mPI_ne (by decide)]
theorem mgS_A (σ : mS) (t : Nat) : mPI (mgS σ t) 26 10 (nI t + 1) = mgS σ (t + 1) := by
  rw [nI_1]
  refine mS_ext (fun a k => ?_) rfl
  by_cases e : a = 26
  · subst e
    rw [mPI_at, mgS, mPI_at, mgS, mPI_at]
    by_cases k1 : k = 10
    · rw [if_pos k1, if_pos k1]
    · rw [if_neg k1, if_neg k1, if_neg k1]
  · rw [mPI_ne e, mgS, mPI_ne e, mgS, mPI_ne e]
theorem mgS_Z (σ : mS) : mPI σ 26 10 0 = mgS σ 0 := rfl
theorem srt_2 : ∀ k, k < 28 → (nI (srt k) = 2 ↔ k ≤ 20 ∨ k = 24) := by decide +kernel
theorem srt_3 : ∀ k, k < 28 → (nI (srt k) = 3 ↔ k = 25) := by decide +kernel
theorem srt_4 : ∀ k, k < 28 → (nI (srt k) = 4 ↔ 21 ≤ k ∧ k ≤ 23) := by decide +kernel
theorem srt_0 : ∀ k, k < 28 → (nI (srt k) = 0 ↔ k = 26) := by decide +kernel
theorem mKy_inj : ∀ a, a < 21 → ∀ b, b < 21 → mKy a = mKy b → a = b := by decide +kernel
theorem mKc_inj : ∀ a, a < 24 → 21 ≤ a → ∀ b, b < 24 → 21 ≤ b → mKc a = mKc b → a = b := by decide +kernel
theorem S_isM {Γ : Nat × (Nat → Int32)} {d : Nat} {Q : mQ} {σ : mS} {K P : Nat → Nat} {V : Nat → Int64} {M t : Nat} (k : Nat) (h : tM σ K P V M) (hF : tF K V) (ht : t < M) (hk : k < 21)
    (h1 : K t = k → Q (.inl (some (.int 1))) 60 mSH (mgS σ t)) (h0 : K t ≠ k → Q (.inl (some (.int 0))) 60 mSH (mgS σ t)) : mCall Γ M_X9_is (d + 6) 0 0 [.ref 26, .ref (1200 + k)] 60 mSH (mgS σ t) Q := by
  have hM := h.1
  obtain ⟨e29, e30, e31⟩ := h.2.2.2 t ht
  have k28 := h.2.1 t
  refine E_X9_is_26 (1200 + k) (by omega) ?_
  rw [mgS_t, nI_clamp (by omega), mgS_29, e29, srt_2 _ k28, show (mgS σ t).2.1 31 t = σ.2.1 31 t from rfl, show 1200 + k - 1200 = k by omega]
  refine ⟨vp_in_nI (by omega) (by omega), fun q => ?_, fun q => h0 (by omega)⟩
  rcases q with q | q
  · rw [e31.1 (.inl q), (hF t).1 q]
    exact ⟨fun c => h1 (mKy_inj _ (by omega) _ hk c), fun c => h0 (fun e => c (by rw [e]))⟩
  · rw [e31.1 (.inr (.inl q))]
    exact ⟨fun c => absurd c ((hF t).2 q k hk), fun _ => h0 (by omega)⟩
theorem S_symM {Γ : Nat × (Nat → Int32)} {d : Nat} {Q : mQ} {σ : mS} {K P : Nat → Nat} {V : Nat → Int64} {M t : Nat} (c : Int32) (k : Nat) (h : tM σ K P V M) (ht : t < M) (hk : 21 ≤ k) (hk2 : k < 24) (hc : Int32.toInt64 c = mKc k)
    (h1 : K t = k → Q (.inl (some (.int 1))) 60 mSH (mgS σ t)) (h0 : K t ≠ k → Q (.inl (some (.int 0))) 60 mSH (mgS σ t)) : mCall Γ M_X9_isSymbol (d + 1) 0 0 [.ref 26, .int c] 60 mSH (mgS σ t) Q := by
  have hM := h.1
  obtain ⟨e29, e30, e31⟩ := h.2.2.2 t ht
  have k28 := h.2.1 t
  refine E_X9_isSymbol_26 c ?_
  rw [mgS_t, nI_clamp (by omega), mgS_29, e29, srt_4 _ k28, show (mgS σ t).2.1 31 t = σ.2.1 31 t from rfl]
  refine ⟨vp_in_nI (by omega) (by omega), fun q => ?_, fun q => h0 (by omega)⟩
  rw [e31.2 q.1 q.2, hc]
  exact ⟨fun c => h1 (mKc_inj _ (by omega) q.1 _ hk2 hk c), fun c => h0 (fun e => c (by rw [e]))⟩
theorem S_past1 {Γ : Nat × (Nat → Int32)} {d : Nat} {Q : mQ} {σ : mS} {t : Nat} (h : Q (.inl (some (.int 1))) 60 mSH (mgS σ (t + 1))) : mCall Γ M_X9_past (d + 1) 0 0 [.ref 26, .int 1] 60 mSH (mgS σ t) Q :=
  E_X9_past_26 1 ⟨fun c => absurd c (by decide), fun _ => ⟨.inr rfl, by rw [mgS_t, mgS_A]; exact h⟩⟩
theorem S_past0 {Γ : Nat × (Nat → Int32)} {d : Nat} {Q : mQ} {σ : mS} (h : Q (.inl (some (.int 0))) 60 mSH σ) : mCall Γ M_X9_past (d + 1) 0 0 [.ref 26, .int 0] 60 mSH σ Q :=
  E_X9_past_26 0 ⟨fun _ => ⟨.inl rfl, h⟩, fun c => absurd rfl c⟩
theorem S_wordM {Γ : Nat × (Nat → Int32)} {d : Nat} {Q : mQ} {σ : mS} {K P : Nat → Nat} {V : Nat → Int64} {M t : Nat} (k : Nat) (h : tM σ K P V M) (hF : tF K V) (ht : t < M) (hk : k < 21)
    (h1 : K t = k → Q (.inl (some (.int 1))) 60 mSH (mgS σ (t + 1))) (h0 : K t ≠ k → Q (.inl (some (.int 0))) 60 mSH (mgS σ t)) : mCall Γ M_X9_word (d + 7) 0 0 [.ref 26, .ref (1200 + k)] 60 mSH (mgS σ t) Q := by
  refine E_X9_word_26 (1200 + k) (by omega) ?_
  refine S_isM k h hF ht hk (fun q => T_X9_word_26_6a _ _ (by omega) ?_) (fun q => T_X9_word_26_6a _ _ (by omega) ?_)
  · exact S_past1 (T_X9_word_26_9a _ _ (by omega) ⟨.inr rfl, h1 q⟩)
  · exact S_past0 (T_X9_word_26_9a _ _ (by omega) ⟨.inl rfl, h0 q⟩)
theorem i21 : (21 : Int32) = nI 21 := by decide
theorem L_isKw {Γ : Nat × (Nat → Int32)} {d n0 bc bs : Nat} {Q : mQ} {σ : mS} {c : Int64} (h1 : (∃ k, k < 21 ∧ mKy k = c) → Q (.inl (some (.int 1))) 60 mSH σ) (h0 : (∀ k, k < 21 → mKy k ≠ c) → Q (.inl (some (.int 0))) 60 mSH σ) : ∀ m i, i + m = 21 → (∀ k, k < i → mKy k ≠ c) →
    mK Γ M_X9_isKeyword (d + 1) Q n0 bc bs 2 [(0, .long c), (2, .int (nI i))] [] 60 mSH σ
  | 0, i, hm, hp => T_X9_isKeyword_2 _ _ ⟨fun _ => h0 (fun k hk => hp k (by omega)), fun c => absurd (by rw [i21]; exact nI_le (by omega) (by omega)) c⟩
  | m + 1, i, hm, hp => by
    refine T_X9_isKeyword_2 _ _ ⟨fun c => absurd c (by rw [i21]; exact nI_ge (by omega) (by omega)), fun _ => ⟨vp_in_nI (by omega) (by omega), ?_⟩⟩
    rw [nI_clamp (by omega), nI_1]
    refine ⟨fun q => h1 ⟨i, by omega, q⟩, fun q => L_isKw h1 h0 m (i + 1) (by omega) (fun k hk => ?_)⟩
    by_cases e : k = i
    · subst e; exact q
    · exact hp k (by omega)
theorem S_nameM {Γ : Nat × (Nat → Int32)} {d : Nat} {Q : mQ} {σ : mS} {K P : Nat → Nat} {V : Nat → Int64} {M t : Nat} (h : tM σ K P V M) (hF : tF K V) (ht : t < M)
    (h1 : K t = 24 → Q (.inl (some (.int 1))) 60 mSH (mgS σ (t + 1))) (h0 : K t ≠ 24 → Q (.inl (some (.int 0))) 60 mSH (mgS σ t)) : mCall Γ M_X9_name (d + 2) 0 0 [.ref 26] 60 mSH (mgS σ t) Q := by
  have hM := h.1
  obtain ⟨e29, e30, e31⟩ := h.2.2.2 t ht
  have k28 := h.2.1 t
  refine E_X9_name_26 ?_
  rw [mgS_t, nI_clamp (by omega), mgS_29, e29, srt_2 _ k28, show (mgS σ t).2.1 31 t = σ.2.1 31 t from rfl]
  have no : K t ≠ 24 → mCall Γ M_X9_past (d + 1) 0 0 [.ref 26, .int 0] 60 mSH (mgS σ t) (mRt Γ M_X9_name (d + 2) Q 60 0 0 37 [(0, .ref 26)] []) := fun q => S_past0 (T_X9_name_26_37a _ ⟨.inl rfl, h0 q⟩)
  refine ⟨vp_in_nI (by omega) (by omega), fun q => ?_, fun q => no (by omega)⟩
  refine E_X9_isKeyword _ (L_isKw (fun z => ?_) (fun z => ?_) 21 0 rfl (fun k hk => absurd hk (Nat.not_lt_zero k)))
  · refine T_X9_name_26_26a _ ⟨fun c => absurd c (by decide), fun _ => no (fun q24 => ?_)⟩
    obtain ⟨k, hk, e⟩ := z
    rw [e31.1 (.inr (.inl q24))] at e
    exact (hF t).2 q24 k hk e.symm
  · refine T_X9_name_26_26a _ ⟨fun _ => S_past1 (T_X9_name_26_37a _ ⟨.inr rfl, h1 ?_⟩), fun c => absurd rfl c⟩
    rcases q with q | q
    · exact absurd (by rw [e31.1 (.inl q), (hF t).1 q]) (z (K t) (by omega))
    · exact q
theorem S_numM {Γ : Nat × (Nat → Int32)} {d : Nat} {Q : mQ} {σ : mS} {K P : Nat → Nat} {V : Nat → Int64} {M t : Nat} (h : tM σ K P V M) (ht : t < M)
    (h1 : K t = 25 → Q (.inl (some (.int 1))) 60 mSH (mgS σ (t + 1))) (h0 : K t ≠ 25 → Q (.inl (some (.int 0))) 60 mSH (mgS σ t)) : mCall Γ M_X9_number (d + 2) 0 0 [.ref 26] 60 mSH (mgS σ t) Q := by
  have hM := h.1
  obtain ⟨e29, e30, e31⟩ := h.2.2.2 t ht
  have k28 := h.2.1 t
  refine E_X9_number_26 ?_
  rw [mgS_t, nI_clamp (by omega), mgS_29, e29, srt_3 _ k28, h_X9_past_26, h_X9_past_26, if_neg (by decide), if_pos rfl, mgS_t, mgS_A]
  exact ⟨vp_in_nI (by omega) (by omega), fun q => ⟨.inr rfl, h1 q⟩, fun q => ⟨.inl rfl, h0 q⟩⟩
/-! ===== a failed line stays where it failed ===== -/
theorem gT_f {K : Nat → Nat} {k : Nat} {s : gP} (h : s.2 = false) : gT K k s ≠ true := by rw [gT, h]; simp
theorem gT_t {K : Nat → Nat} {k : Nat} {s : gP} (h : s.2 = true) : gT K k s = true ↔ K s.1 = k := by rw [gT, h, Bool.true_and, decide_eq_true_eq]
theorem gX_f {s : gP} (h : s.2 = false) : gX s = s := by rw [gX, ← h]
theorem gN_f {K : Nat → Nat} {k : Nat} {s : gP} (h : s.2 = false) : gN K k s = s := by rw [gN, if_neg (gT_f h), gX_f h]
theorem gO_f {K : Nat → Nat} {k : Nat} {s : gP} (h : s.2 = false) : gO K k s = s := by rw [gO, if_neg (gT_f h)]
theorem gB_f {K : Nat → Nat} {k : Nat} {s : gP} (h : s.2 = false) : gB K k s = s := by rw [gB, gN_f h, gN_f h]
theorem gN_t {K : Nat → Nat} {k : Nat} {s : gP} (h : s.2 = true) (e : K s.1 = k) : gN K k s = gA s := by rw [gN, if_pos ((gT_t h).mpr e)]
theorem gN_n {K : Nat → Nat} {k : Nat} {s : gP} (e : K s.1 ≠ k) : gN K k s = gX s := by
  rw [gN, if_neg (fun q => ?_)]
  rw [gT, Bool.and_eq_true, decide_eq_true_eq] at q; exact e q.2
theorem gO_t {K : Nat → Nat} {k : Nat} {s : gP} (h : s.2 = true) (e : K s.1 = k) : gO K k s = gN K 25 (gA s) := by rw [gO, if_pos ((gT_t h).mpr e)]
theorem gO_n {K : Nat → Nat} {k : Nat} {s : gP} (e : K s.1 ≠ k) : gO K k s = s := by
  rw [gO, if_neg (fun q => ?_)]
  rw [gT, Bool.and_eq_true, decide_eq_true_eq] at q; exact e q.2
theorem gN_ge {K : Nat → Nat} {k : Nat} (s : gP) : s.1 ≤ (gN K k s).1 := by
  rw [gN]; split
  · exact Nat.le_succ _
  · exact Nat.le_refl _
theorem gL_ge {K : Nat → Nat} {g : gP → gP} (hg : ∀ s : gP, s.1 ≤ (g s).1) : ∀ m (s : gP), s.1 ≤ (gL K g m s).1
  | 0, s => Nat.le_refl _
  | m + 1, s => by
    rw [gL]; split
    · exact Nat.le_trans (Nat.le_trans (Nat.le_succ s.1) (hg (gA s))) (gL_ge hg m _)
    · exact Nat.le_refl _
theorem gPr_ge {K : Nat → Nat} {f : gP → gP} (hf : ∀ s : gP, s.1 ≤ (f s).1) (s : gP) : s.1 ≤ (gPr K f s).1 := by
  rw [gPr]
  refine Nat.le_trans ?_ (gN_ge _)
  split
  · exact Nat.le_trans (gN_ge _) (hf _)
  · exact gN_ge _
theorem gSg_ge {K : Nat → Nat} : ∀ r (s : gP), s.1 ≤ (gSg K r s).1
  | 0, s => by
    rw [gSg]
    by_cases q : gAt K s
    · rw [gIf_pos q]; exact Nat.le_trans (Nat.le_succ s.1) (gN_ge (gA s))
    · rw [gIf_neg q]; exact Nat.le_refl _
  | r + 1, s => by
    rw [gSg]
    by_cases q : gAt K s
    · rw [gIf_pos q]; exact Nat.le_trans (Nat.le_succ s.1) (gN_ge (gA s))
    · rw [gIf_neg q]
      by_cases q2 : gT K 18 s = true
      · rw [gIf_pos q2]; exact Nat.le_trans (Nat.le_succ s.1) (gSg_ge r (gA s))
      · rw [gIf_neg q2]; exact gPr_ge (fun s => Nat.le_trans (gSg_ge r s) (gL_ge (gSg_ge r) 400 _)) s
theorem gL_fix {K : Nat → Nat} {E : Nat} {g : gP → gP} (hE : gEnd K E) (hg : ∀ s : gP, s.1 ≤ E → (g s).1 ≤ E) (hm : ∀ s : gP, s.1 ≤ (g s).1) : ∀ m m' (s : gP), s.1 ≤ E → E ≤ s.1 + m → E ≤ s.1 + m' → gL K g m s = gL K g m' s
  | 0, 0, s, _, _, _ => rfl
  | 0, m' + 1, s, hs, h, _ => by
    have e : s.1 = E := by omega
    rw [gL, gL, if_neg]
    rw [gT, gT, e]
    rcases hE with q | q <;> rw [q] <;> simp
  | m + 1, 0, s, hs, _, h => by
    have e : s.1 = E := by omega
    rw [gL, gL, if_neg]
    rw [gT, gT, e]
    rcases hE with q | q <;> rw [q] <;> simp
  | m + 1, m' + 1, s, hs, h, h' => by
    rw [gL, gL]
    by_cases q : gT K 19 s = true ∨ gT K 20 s = true
    · rw [if_pos q, if_pos q]
      have a := hm (gA s)
      have a1 : (gA s).1 = s.1 + 1 := rfl
      exact gL_fix hE hg hm m m' _ (hg _ (q.elim (gA_le hE (by omega) hs) (gA_le hE (by omega) hs))) (by omega) (by omega)
    · rw [if_neg q, if_neg q]
theorem LL_step {K : Nat → Nat} {E : Nat} {g : gP → gP} (hE : gEnd K E) (hE4 : E ≤ 400) (hg : ∀ s : gP, s.1 ≤ E → (g s).1 ≤ E) (hm : ∀ s : gP, s.1 ≤ (g s).1) {s : gP} (hs : s.1 ≤ E) (q : gT K 19 s = true ∨ gT K 20 s = true) : gL K g 400 s = gL K g 400 (g (gA s)) := by
  have a1 : (gA s).1 = s.1 + 1 := rfl
  have a := hm (gA s)
  rw [show (400 : Nat) = 399 + 1 from rfl, gL, if_pos q]
  exact gL_fix hE hg hm 399 400 _ (hg _ (q.elim (gA_le hE (by omega) hs) (gA_le hE (by omega) hs))) (by omega) (by omega)
theorem LL_stop {K : Nat → Nat} {g : gP → gP} {s : gP} (q : ¬ (gT K 19 s = true ∨ gT K 20 s = true)) : gL K g 400 s = s := by
  rw [show (400 : Nat) = 399 + 1 from rfl, gL, if_neg q]
theorem bTF {b : Bool} (h : ¬ b = true) : b = false := by cases b; rfl; exact absurd rfl h
theorem gP_t {s : gP} (h : s.2 = true) : s = (s.1, true) := by rw [← h]
