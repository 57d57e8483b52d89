/-! ===== conceding, concede, advise, frees, in the model ===== -/
theorem m_isIt1 {σ : mS} (h : sV σ) {k : Nat} (hk : k < dn (DM σ)) : f_X9_isItem_26 σ (nI k) = 1 := by
  have h40 := h.2.1
  obtain ⟨n, hn⟩ : ∃ n, dn (DM σ) = n + 1 := ⟨dn (DM σ) - 1, by omega⟩
  rw [f_X9_isItem_26, f_X9_isIn, sV_n h, hn, nI_pred, if_neg (nI_pos (by omega)), if_neg (nI_nlt (by omega) (by omega))]
theorem m_isSp1 {σ : mS} (h : sV σ) {k : Nat} (hk : k < ds (DM σ)) : f_X9_isSpeaker_26 σ (nI k) = 1 := by
  have h6 := h.2.2.2.1
  obtain ⟨n, hn⟩ : ∃ n, ds (DM σ) = n + 1 := ⟨ds (DM σ) - 1, by omega⟩
  rw [f_X9_isSpeaker_26, f_X9_isIn, sV_s h, hn, nI_pred, if_neg (nI_pos (by omega)), if_neg (nI_nlt (by omega) (by omega))]
theorem isIn_lt {σ : mS} {x : Int32} {n : Nat} (hn : n ≤ 64) (hx : ∀ k, k < n → x ≠ nI k) : f_X9_isIn σ x 0 (nI n - 1) = 0 := by
  rw [f_X9_isIn]
  by_cases a : x < 0
  · rw [if_pos a]
  · obtain ⟨j, hj, rfl⟩ := nI_of a
    rw [if_neg a]
    have hjn : n ≤ j := by
      apply Classical.byContradiction
      intro q
      exact hx j (by omega) rfl
    cases n with
    | zero =>
      rw [if_pos]
      rw [Int32.lt_iff_toInt_lt, nI_toInt hj]
      have : (nI 0 - 1).toInt = -1 := by decide
      omega
    | succ n => rw [nI_pred, if_pos (nI_lt (by omega) hj)]
theorem m_isIt0 {σ : mS} (h : sV σ) {x : Int32} (hx : ∀ k, k < dn (DM σ) → x ≠ nI k) : f_X9_isItem_26 σ x = 0 := by
  have h40 := h.2.1
  rw [f_X9_isItem_26, sV_n h]
  exact isIn_lt (by omega) hx
theorem m_isSp0 {σ : mS} (h : sV σ) {x : Int32} (hx : ∀ k, k < ds (DM σ) → x ≠ nI k) : f_X9_isSpeaker_26 σ x = 0 := by
  have h6 := h.2.2.2.1
  rw [f_X9_isSpeaker_26, sV_s h]
  exact isIn_lt (by omega) hx
theorem isIn01 (σ : mS) (a b c : Int32) : f_X9_isIn σ a b c = 0 ∨ f_X9_isIn σ a b c = 1 := by
  rw [f_X9_isIn]
  by_cases x : a < b
  · rw [if_pos x]; exact .inl rfl
  · rw [if_neg x]
    by_cases y : c < a
    · rw [if_pos y]; exact .inl rfl
    · rw [if_neg y]; exact .inr rfl
/-- fM, and thrown may differ too -/
def th (σ : mS) (x : Int32) : mS := mPI σ 26 0 x
theorem th_th (σ : mS) (x y : Int32) : th (th σ x) y = th σ y := by
  rw [th, th, th, mPI, mPI, mPI]
  simp only [Prod.mk.injEq, and_true]
  funext a
  by_cases e : a = 26
  · subst e; rw [mU2_eq, mU2_eq, mU2_eq]; funext b; by_cases z : b = 0 <;> simp [z]
  · rw [mU2_ne e, mU2_ne e, mU2_ne e]
theorem th_V {σ : mS} (h : sV σ) (x : Int32) : sV (th σ x) := h
theorem th_h {σ : mS} (h : hM σ) (x : Int32) : hM (th σ x) := h
theorem L_concedeM {Γ : Nat × (Nat → Int32)} {d n0 bc bs : Nat} {Q : mQ} {σ : mS} {p : Nat} {g : Int32} (h : sV σ) (hp : p < ds (DM σ))
    (hQ : ∀ τ, fM σ τ → hM τ → Q (.inl (some (.int (bfG (fun k => decide (db (DM σ) k = nI p)) (fun k => dSup (DM σ) (one1 k) noS p) g (dn (DM σ))).1))) 60 mSH τ) : ∀ m i, i + m = dn (DM σ) → ∀ τ, fM σ τ → hM τ →
    mK Γ M_X9_concede (d + 5) Q n0 bc bs 34 [(0, .ref 26), (1, .int (nI p)), (2, .int (bfG (fun k => decide (db (DM σ) k = nI p)) (fun k => dSup (DM σ) (one1 k) noS p) g i).2), (3, .int (bfG (fun k => decide (db (DM σ) k = nI p)) (fun k => dSup (DM σ) (one1 k) noS p) g i).1), (4, .int (nI i))] [] 60 mSH τ
  | 0, i, hm, τ, hF, hr => by
    have h40 := h.2.1
    have hV' := fM_V hF h
    refine T_X9_concede_26_34 _ _ _ _ ⟨fun _ => ?_, fun c => absurd (by rw [sV_n hV', fM_D hF]; exact nI_le (by omega) (by omega)) c⟩
    rw [show i = dn (DM σ) by omega]
    exact hQ τ hF hr
  | m + 1, i, hm, τ, hF, hr => by
    have h40 := h.2.1
    have hV' := fM_V hF h
    have hi : i < dn (DM σ) := by omega
    have ih := L_concedeM (d := d) (n0 := n0) (bc := bc) (bs := bs) (Γ := Γ) h hp hQ m (i + 1) (by omega)
    rw [bfG_s] at ih
    refine T_X9_concede_26_34 _ _ _ _ ⟨fun c => absurd c (by rw [sV_n hV', fM_D hF]; exact nI_ge (by omega) (by omega)), fun _ => ⟨vp_in_nI (by omega) (by omega), ?_⟩⟩
    rw [nI_clamp (by omega), m_owner (by rw [fM_D hF]; exact hi), fM_D hF, nI_1]
    refine ⟨fun c => ?_, fun c => ?_⟩
    · rw [if_pos (decide_eq_true c)] at ih
      refine S_leadWith i p h hF hr hi hp (fun ρ hF' hr' => ?_)
      refine T_X9_concede_26_70a _ _ _ _ _ ⟨fun w => ?_, fun w => ?_⟩
      · rw [if_neg (Int32.not_le.mpr w)] at ih; rw [nI_1]; exact ih ρ hF' hr'
      · rw [if_pos (Int32.not_lt.mp w)] at ih; rw [nI_1]; exact ih ρ hF' hr'
    · rw [if_neg (by rw [decide_eq_true_eq]; exact c)] at ih
      exact ih τ hF hr
theorem S_concedeM {Γ : Nat × (Nat → Int32)} {d : Nat} {Q : mQ} {σ : mS} (p : Nat) (h : sV σ) (hr : hM σ) (hp : p < ds (DM σ))
    (hQ : ∀ τ, fM (th σ 0) τ → hM τ → Q (.inl (some (.int (bfG (fun k => decide (db (DM σ) k = nI p)) (fun k => dSup (DM σ) (one1 k) noS p) (dLead (DM σ) (coM σ) (σ.1 52) p) (dn (DM σ))).1))) 60 mSH τ) :
    mCall Γ M_X9_concede (d + 6) 0 0 [.ref 26, .int (nI p)] 60 mSH σ Q := by
  refine E_X9_concede_26 (nI p) ⟨isIn01 _ _ _ _, fun c => ?_, fun _ => ?_⟩
  · have := m_isSp1 (th_V h 0) hp
    rw [show mPI σ 26 0 0 = th σ 0 from rfl, this] at c
    exact absurd c (by decide)
  · refine S_lead_52 (σ := th σ 0) p (th_V h 0) hp ?_
    refine T_X9_concede_26_28a _ _ ?_
    exact L_concedeM (σ := th σ 0) (th_V h 0) hp hQ (dn (DM σ)) 0 (Nat.zero_add _) (th σ 0) (fM_r _) (th_h hr 0)
theorem S_concedeM_x {Γ : Nat × (Nat → Int32)} {d : Nat} {Q : mQ} {σ : mS} (x : Int32) (h : sV σ) (hx : ∀ k, k < ds (DM σ) → x ≠ nI k)
    (hQ : Q (.inl (some (.int 0))) 60 mSH (th σ 1)) : mCall Γ M_X9_concede (d + 6) 0 0 [.ref 26, .int x] 60 mSH σ Q := by
  have e := m_isSp0 (th_V h 0) hx
  refine E_X9_concede_26 x ⟨isIn01 _ _ _ _, fun _ => ?_, fun c => absurd e c⟩
  show Q (.inl (some (.int 0))) 60 mSH (th (th σ 0) 1)
  rw [th_th]; exact hQ
