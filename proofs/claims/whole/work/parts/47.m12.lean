theorem m_least {σ : mS} {k : Nat} (hk : k < dn (DM σ)) (h40 : dn (DM σ) ≤ 40) : f_X9_leastOf_26 σ (nI k) = dLeast (DM σ) k := by
  rw [f_X9_leastOf_26, nI_clamp (by omega), m_kind hk, m_size hk, dLeast]
def adP (D : mDeb) (p : Nat) (f : Int32) (k : Nat) : Bool := decide (db D k ≠ nI p ∧ dLeast D k ≤ f)
theorem L_adviseM {Γ : Nat × (Nat → Int32)} {d n0 bc bs : Nat} {Q : mQ} {σ : mS} {p : Nat} {g f : Int32} (h : sV σ) (hp : p < ds (DM σ))
    (hQ : ∀ τ, fM σ τ → hM τ → Q (.inl (some (.int (bfG (adP (DM σ) p f) (fun k => dSup (DM σ) noS (one1 k) p) g (dn (DM σ))).1))) 60 mSH τ) : ∀ m i, i + m = dn (DM σ) → ∀ τ, fM σ τ → τ.1 26 18 = -1 → τ.1 26 19 = -1 →
    mK Γ M_X9_advise (d + 5) Q n0 bc bs 51 [(0, .ref 26), (1, .int (nI p)), (2, .int f), (3, .int (bfG (adP (DM σ) p f) (fun k => dSup (DM σ) noS (one1 k) p) g i).2), (4, .int (bfG (adP (DM σ) p f) (fun k => dSup (DM σ) noS (one1 k) p) g i).1), (5, .int (nI i))] [] 60 mSH τ
  | 0, i, hm, τ, hF, h18, h19 => by
    have h40 := h.2.1
    have hV' := fM_V hF h
    refine T_X9_advise_26_51 _ _ _ _ _ ⟨fun _ => ?_, fun c => absurd (by rw [sV_n hV', fM_D hF]; exact nI_le (by omega) (by omega)) c⟩
    rw [show i = dn (DM σ) by omega]
    refine hQ _ (fM_p hF _ (by omega)) ⟨?_, ?_, by rw [mPI_at, if_pos rfl]⟩
    · rw [mPI_at, if_neg (by decide)]; exact h18
    · rw [mPI_at, if_neg (by decide)]; exact h19
  | m + 1, i, hm, τ, hF, h18, h19 => by
    have h40 := h.2.1
    have hV' := fM_V hF h
    have hi : i < dn (DM σ) := by omega
    have hi' : i < dn (DM τ) := by rw [fM_D hF]; exact hi
    have ih := L_adviseM (d := d) (n0 := n0) (bc := bc) (bs := bs) (Γ := Γ) h hp hQ m (i + 1) (by omega)
    rw [bfG_s] at ih
    refine T_X9_advise_26_51 _ _ _ _ _ ⟨fun c => absurd c (by rw [sV_n hV', fM_D hF]; exact nI_ge (by omega) (by omega)), fun _ => ⟨vp_in_nI (by omega) (by omega), ?_⟩⟩
    rw [nI_clamp (by omega), m_owner hi', m_least hi' (by rw [fM_D hF]; exact h40), fM_D hF, nI_1]
    refine ⟨fun c => ?_, fun c => ⟨fun c2 => ?_, fun c2 => ?_⟩⟩
    · rw [if_neg (by rw [adP, decide_eq_true_eq]; exact fun q => q.1 c)] at ih
      exact ih τ hF h18 h19
    · rw [if_pos (by rw [adP, decide_eq_true_eq]; exact ⟨c, c2⟩)] at ih
      have hF1 := fM_p hF (nI i) (k := 20) (by omega)
      have hV1 := fM_V hF1 h
      have a18 : (mPI τ 26 20 (nI i)).1 26 18 = -1 := by rw [mPI_at, if_neg (by decide)]; exact h18
      have a19 : (mPI τ 26 20 (nI i)).1 26 19 = -1 := by rw [mPI_at, if_neg (by decide)]; exact h19
      have a20 : (mPI τ 26 20 (nI i)).1 26 20 = nI i := by rw [mPI_at, if_pos rfl]
      have hc := coM_0 hV1 a18 a19
      have hh := hiM_1 hV1 (show i < 64 by omega) a20
      rw [fM_D hF1] at hc hh
      refine S_standM h hF1 hc hh (fun ρ r gF e hb => ?_)
      refine T_X9_advise_26_108a _ _ _ _ _ _ ?_
      refine S_leadM p h gF (by rw [coM_26 e (by rw [fM_D gF, fM_D hF1])]; exact hc) hb hp ?_
      refine T_X9_advise_26_118a _ _ _ _ _ _ ⟨fun w => ?_, fun w => ?_⟩
      · rw [if_neg (Int32.not_le.mpr w)] at ih; rw [nI_1]
        exact ih ρ gF (by rw [e]; exact a18) (by rw [e]; exact a19)
      · rw [if_pos (Int32.not_lt.mp w)] at ih; rw [nI_1]
        exact ih ρ gF (by rw [e]; exact a18) (by rw [e]; exact a19)
    · rw [if_neg (by rw [adP, decide_eq_true_eq]; exact fun q => c2 q.2)] at ih
      exact ih τ hF h18 h19
theorem S_adviseM {Γ : Nat × (Nat → Int32)} {d : Nat} {Q : mQ} {σ : mS} (p : Nat) (f : Int32) (h : sV σ) (hr : hM σ) (hp : p < ds (DM σ)) (hf : ¬ f < 1 ∧ ¬ 50 < f)
    (hQ : ∀ τ, fM (th σ 0) τ → hM τ → Q (.inl (some (.int (bfG (adP (DM σ) p f) (fun k => dSup (DM σ) noS (one1 k) p) (dLead (DM σ) (coM σ) (σ.1 52) p) (dn (DM σ))).1))) 60 mSH τ) :
    mCall Γ M_X9_advise (d + 6) 0 0 [.ref 26, .int (nI p), .int f] 60 mSH σ Q := by
  refine E_X9_advise_26 (nI p) f ⟨isIn01 _ _ _ _, fun c => ?_, fun _ => ⟨fun c => ?_, fun _ => ?_⟩⟩
  · have := m_isSp1 (th_V h 0) hp
    rw [show mPI σ 26 0 0 = th σ 0 from rfl, this] at c
    exact absurd c (by decide)
  · rw [f_X9_isIn, if_neg hf.1, if_neg hf.2] at c
    exact absurd c (by decide)
  · refine S_lead_52 (σ := th σ 0) p (th_V h 0) hp ?_
    refine T_X9_advise_26_44a _ _ _ ?_
    exact L_adviseM (σ := th σ 0) (th_V h 0) hp hQ (dn (DM σ)) 0 (Nat.zero_add _) (th σ 0) (fM_r _) (th_h hr 0).1 (th_h hr 0).2.1
theorem S_adviseM_x {Γ : Nat × (Nat → Int32)} {d : Nat} {Q : mQ} {σ : mS} (x f : Int32) (h : sV σ) (hx : ∀ k, k < ds (DM σ) → x ≠ nI k)
    (hQ : Q (.inl (some (.int 0))) 60 mSH (th σ 1)) : mCall Γ M_X9_advise (d + 6) 0 0 [.ref 26, .int x, .int f] 60 mSH σ Q := by
  have e := m_isSp0 (th_V h 0) hx
  refine E_X9_advise_26 x f ⟨isIn01 _ _ _ _, fun _ => ?_, fun c => absurd e c⟩
  show Q (.inl (some (.int 0))) 60 mSH (th (th σ 0) 1)
  rw [th_th]; exact hQ
theorem S_adviseM_y {Γ : Nat × (Nat → Int32)} {d : Nat} {Q : mQ} {σ : mS} (p : Nat) (f : Int32) (h : sV σ) (hp : p < ds (DM σ)) (hf : f < 1 ∨ 50 < f)
    (hQ : Q (.inl (some (.int 0))) 60 mSH (th σ 2)) : mCall Γ M_X9_advise (d + 6) 0 0 [.ref 26, .int (nI p), .int f] 60 mSH σ Q := by
  refine E_X9_advise_26 (nI p) f ⟨isIn01 _ _ _ _, fun c => ?_, fun _ => ⟨fun _ => ?_, fun c => ?_⟩⟩
  · have := m_isSp1 (th_V h 0) hp
    rw [show mPI σ 26 0 0 = th σ 0 from rfl, this] at c
    exact absurd c (by decide)
  · show Q (.inl (some (.int 0))) 60 mSH (th (th σ 0) 2)
    rw [th_th]; exact hQ
  · refine absurd ?_ c
    rw [f_X9_isIn]
    by_cases a : f < 1
    · rw [if_pos a]
    · rw [if_neg a, if_pos (by rcases hf with q | q; exact absurd q a; exact q)]
