/-! ===== the model's scores ===== -/
def oneS (σ : mS) : Nat → Bool := fun k => decide (nI k = σ.1 26 18) || decide (nI k = σ.1 26 19)
def coM (σ : mS) : Nat → Bool := coD (DM σ) (oneS σ)
theorem m_isConc0 {σ : mS} {k : Nat} (hk : k < dn (DM σ)) (h40 : dn (DM σ) ≤ 40) : f_X9_isConceded_26 σ (nI k) = 0 ↔ coM σ k = false := by
  rw [f_X9_isConceded_26, nI_clamp (by omega), m_conc hk, coM, coD, oneS]
  by_cases a : dc (DM σ) k = 1 <;> by_cases b : nI k = σ.1 26 18 <;> by_cases c : nI k = σ.1 26 19 <;> simp [a, b, c]
def sc1 (D : mDeb) (co : Nat → Bool) (p i : Nat) (x : Int32) : Int32 := if db D i = nI p ∧ co i = true then x + (-1) else x
def sc2 (D : mDeb) (b : Nat → Int32) (p i : Nat) (x : Int32) : Int32 := if db D i = nI p ∧ dk D i = 0 then (if b i = 1 then x + dz D i else if b i = 0 then x + dz D i / 2 else x) else x
def sc3 (D : mDeb) (p i : Nat) (x : Int32) : Int32 := if db D i = nI p ∧ dst D i = true then x + dz D i / 2 else x
def sc4 (D : mDeb) (p i : Nat) (x : Int32) : Int32 := if db D i = nI p then x + 1 else x
def sc5 (D : mDeb) (b : Nat → Int32) (p i : Nat) (x : Int32) : Int32 := if dk D (uN (dt D i)) = 0 ∧ db D (uN (dt D i)) = nI p ∧ b (uN (dt D i)) = 1 then x + dz D i else x
def sc174 (D : mDeb) (b : Nat → Int32) (p i : Nat) (x : Int32) : Int32 := if dk D i = 2 then sc5 D b p i (sc4 D p i x) else x
def sc131 (D : mDeb) (b : Nat → Int32) (p i : Nat) (x : Int32) : Int32 := if b i = 1 then sc174 D b p i (sc3 D p i x) else x
theorem sc_all {D : mDeb} {co : Nat → Bool} {b : Nat → Int32} {p i : Nat} (h : dV D) (hi : i < dn D) (x : Int32) :
    sc131 D b p i (sc2 D b p i (sc1 D co p i x)) = x + (if db D i = nI p then dWorth D co b i else 0) + (if dt D i ≠ -1 ∧ db D (uN (dt D i)) = nI p then dHelp D b i else 0) := by
  have h40 := h.2.1
  have hst : dst D i = true → dk D i = 1 := fun q => by rw [dst, decide_eq_true_eq] at q; exact q.1
  rw [sc131, sc174, sc5, sc4, sc3, sc2, sc1, dWorth, dHelp]
  rcases (h.2.2.2.2 i hi).2.2.2 with ⟨k0, _, e⟩ | ⟨k12, _, j, hj, e⟩
  · have hs : dst D i = false := by rw [← Bool.not_eq_true]; intro q; rw [hst q] at k0; exact absurd k0 (by decide)
    by_cases o : db D i = nI p <;> by_cases c : co i = true <;> by_cases b1 : b i = 1 <;> by_cases b0 : b i = 0 <;> simp [k0, e, hs, o, c, b1, b0, Int32.add_assoc]
  · have m1 : ¬ nI j = -1 := nI_m1 (by omega)
    rw [e, uN_nI (by omega)]
    rcases k12 with k1 | k2
    · by_cases o : db D i = nI p <;> by_cases c : co i = true <;> by_cases b1 : b i = 1 <;> by_cases b0 : b i = 0 <;> by_cases s : dst D i = true <;> simp [k1, m1, s, o, c, b1, b0, Int32.add_assoc]
    · have hs : dst D i = false := by rw [← Bool.not_eq_true]; intro q; rw [hst q] at k2; exact absurd k2 (by decide)
      by_cases o : db D i = nI p <;> by_cases c : co i = true <;> by_cases b1 : b i = 1 <;> by_cases b0 : b i = 0 <;> by_cases q1 : dk D j = 0 <;> by_cases q2 : db D j = nI p <;> by_cases q3 : b j = 1 <;> simp [k2, m1, hs, o, c, b1, b0, q1, q2, q3, Int32.add_assoc]
theorem P_score_52 {Γ : Nat × (Nat → Int32)} {d n0 bc bs : Nat} {Q : mQ} {σ : mS} {p i : Nat} {tot : Int32} (h : sV σ) (hk : i < dn (DM σ))
    (h16 : mK Γ M_X9_score (d + 2) Q n0 bc bs 16 [(0, .ref 26), (1, .int (nI p)), (2, .ref 52), (3, .int tot), (4, .int (nI (i + 1)))] [] 60 mSH σ)
    (x : Int32) (hx : sc131 (DM σ) (σ.1 52) p i (sc2 (DM σ) (σ.1 52) p i (sc1 (DM σ) (coM σ) p i x)) = tot) :
    mK Γ M_X9_score (d + 2) Q n0 bc bs 16 [(0, .ref 26), (1, .int (nI p)), (2, .ref 52), (3, .int x), (4, .int (nI i))] [] 60 mSH σ := by
  have h40 := h.2.1
  have cl : (nI i).toNatClampNeg = i := nI_clamp (by omega)
  have h259 : mK Γ M_X9_score (d + 2) Q n0 bc bs 259 [(0, .ref 26), (1, .int (nI p)), (2, .ref 52), (3, .int tot), (4, .int (nI i))] [] 60 mSH σ := T_X9_score_26_52_259 _ _ _ (by rw [nI_1]; exact h16)
  have h199 : dk (DM σ) i = 2 → ∀ y, sc5 (DM σ) (σ.1 52) p i y = tot → mK Γ M_X9_score (d + 2) Q n0 bc bs 199 [(0, .ref 26), (1, .int (nI p)), (2, .ref 52), (3, .int y), (4, .int (nI i))] [] 60 mSH σ := by
    intro k2 y hy
    obtain ⟨j, hj, e⟩ : ∃ j, j < i ∧ dt (DM σ) i = nI j := by
      rcases dV_k0 h hk with q | q
      · rw [q.1] at k2; exact absurd k2 (by decide)
      · exact q.2
    rw [sc5, e, uN_nI (by omega)] at hy
    refine T_X9_score_26_52_199 _ _ _ ⟨vp_in_nI (by omega) (by omega), ?_⟩
    rw [cl, m_target hk, e, nI_clamp (by omega), m_kind (show j < dn (DM σ) by omega), m_owner (show j < dn (DM σ) by omega), m_size hk]
    refine ⟨vp_in_nI (by omega) (by omega), fun a1 => ⟨fun a2 => ⟨fun a3 => ?_, fun a3 => ?_⟩, fun a2 => ?_⟩, fun a1 => ?_⟩
    · rw [if_pos ⟨a1, a2, a3⟩] at hy; rw [hy]; exact h259
    · rw [if_neg (fun q => a3 q.2.2)] at hy; rw [hy]; exact h259
    · rw [if_neg (fun q => a2 q.2.1)] at hy; rw [hy]; exact h259
    · rw [if_neg (fun q => a1 q.1)] at hy; rw [hy]; exact h259
  have h174 : ∀ y, sc174 (DM σ) (σ.1 52) p i y = tot → mK Γ M_X9_score (d + 2) Q n0 bc bs 174 [(0, .ref 26), (1, .int (nI p)), (2, .ref 52), (3, .int y), (4, .int (nI i)), (5, .int (if db (DM σ) i = nI p then 1 else 0))] [] 60 mSH σ := by
    intro y hy
    rw [sc174] at hy
    refine T_X9_score_26_52_174 _ _ _ _ ⟨vp_in_nI (by omega) (by omega), ?_⟩
    rw [cl, m_kind hk]
    refine ⟨fun k2 => ?_, fun k2 => ?_⟩
    · rw [if_pos k2, sc4] at hy
      by_cases o : db (DM σ) i = nI p
      · rw [if_pos o] at hy ⊢
        exact ⟨fun c => absurd c (by decide), fun _ => h199 k2 _ hy⟩
      · rw [if_neg o] at hy ⊢
        exact ⟨fun _ => h199 k2 _ hy, fun c => absurd rfl c⟩
    · rw [if_neg k2] at hy; rw [hy]; exact h259
  have h131 : ∀ y, sc131 (DM σ) (σ.1 52) p i y = tot → mK Γ M_X9_score (d + 2) Q n0 bc bs 131 [(0, .ref 26), (1, .int (nI p)), (2, .ref 52), (3, .int y), (4, .int (nI i)), (5, .int (if db (DM σ) i = nI p then 1 else 0))] [] 60 mSH σ := by
    intro y hy
    rw [sc131] at hy
    refine T_X9_score_26_52_131 _ _ _ _ ⟨vp_in_nI (by omega) (by omega), ?_⟩
    rw [cl, m_kind hk, m_target hk, m_strong0 h hk, m_size hk]
    refine ⟨fun b1 => ?_, fun b1 => ?_⟩
    · rw [if_pos b1, sc3] at hy
      by_cases o : db (DM σ) i = nI p
      · refine ⟨fun c => absurd c (by rw [if_pos o]; decide), fun _ => ⟨fun k1 => ?_, fun s => ?_, fun s => ?_⟩⟩
        · rcases dV_k0 h hk with q | ⟨_, j, hj, q⟩
          · rw [q.1] at k1; exact absurd k1 (by decide)
          · rw [q]; exact vp_in_nI (by omega) (by omega)
        · rw [if_neg (fun q => by rw [s] at q; exact absurd q.2 (by decide))] at hy
          exact h174 _ hy
        · rw [if_pos ⟨o, Bool.not_eq_false _ ▸ s⟩] at hy
          exact h174 _ hy
      · rw [if_neg (fun q => o q.1)] at hy
        exact ⟨fun _ => h174 _ hy, fun c => absurd (if_neg o) c⟩
    · rw [if_neg b1] at hy; rw [hy]; exact h259
  have h66 : ∀ y, sc131 (DM σ) (σ.1 52) p i (sc2 (DM σ) (σ.1 52) p i y) = tot → mK Γ M_X9_score (d + 2) Q n0 bc bs 66 [(0, .ref 26), (1, .int (nI p)), (2, .ref 52), (3, .int y), (4, .int (nI i)), (5, .int (if db (DM σ) i = nI p then 1 else 0))] [] 60 mSH σ := by
    intro y hy
    rw [sc2] at hy
    refine T_X9_score_26_52_66 _ _ _ _ ⟨fun c => ?_, fun c => ⟨vp_in_nI (by omega) (by omega), ?_⟩⟩
    · have o : ¬ db (DM σ) i = nI p := fun o => by rw [if_pos o] at c; exact absurd c (by decide)
      rw [if_neg (fun q => o q.1)] at hy
      exact h131 _ hy
    · have o : db (DM σ) i = nI p := Classical.byContradiction (fun o => c (if_neg o))
      rw [cl, m_kind hk, m_size hk]
      refine ⟨fun k0 => ⟨fun b1 => ?_, fun b1 => ⟨fun b0 => ?_, fun b0 => ?_⟩⟩, fun k0 => ?_⟩
      · rw [if_pos ⟨o, k0⟩, if_pos b1] at hy; exact h131 _ hy
      · rw [if_pos ⟨o, k0⟩, if_neg b1, if_pos b0] at hy; exact h131 _ hy
      · rw [if_pos ⟨o, k0⟩, if_neg b1, if_neg b0] at hy; rw [Int32.add_zero]; exact h131 _ hy
      · rw [if_neg (fun q => k0 q.2)] at hy; exact h131 _ hy
  rw [sc1] at hx
  refine T_X9_score_26_52_16 _ _ _ ⟨fun c => absurd c (by rw [sV_n h]; exact nI_ge (by omega) (by omega)), fun _ => ⟨vp_in_nI (by omega) (by omega), ?_⟩⟩
  rw [cl, m_owner hk, m_isConc0 hk h40]
  refine ⟨fun o => ⟨fun c => ?_, fun c => ?_⟩, fun o => ?_⟩
  · rw [if_neg (fun q => by rw [c] at q; exact absurd q.2 (by decide))] at hx
    have := h66 _ hx
    rw [if_pos o] at this; exact this
  · rw [if_pos ⟨o, Bool.not_eq_false _ ▸ c⟩] at hx
    have := h66 _ hx
    rw [if_pos o] at this; exact this
  · rw [if_neg (fun q => o q.1)] at hx
    have := h66 _ hx
    rw [if_neg o] at this; exact this
theorem L_score_52 {Γ : Nat × (Nat → Int32)} {d n0 bc bs : Nat} {Q : mQ} {σ : mS} {p : Nat} (h : sV σ) : ∀ m i, i + m = dn (DM σ) → Q (.inl (some (.int (dScore (DM σ) (coM σ) (σ.1 52) p)))) 60 mSH σ →
    mK Γ M_X9_score (d + 2) Q n0 bc bs 16 [(0, .ref 26), (1, .int (nI p)), (2, .ref 52), (3, .int (scW (DM σ) (coM σ) (σ.1 52) p i)), (4, .int (nI i))] [] 60 mSH σ
  | 0, i, hm, hQ => by
    have hn := h.2.1
    refine T_X9_score_26_52_16 _ _ _ ⟨fun _ => ?_, fun c => absurd (by rw [sV_n h]; exact nI_le (by omega) (by omega)) c⟩
    rw [show i = dn (DM σ) by omega]; exact hQ
  | m + 1, i, hm, hQ => P_score_52 h (by omega) (L_score_52 h m (i + 1) (by omega) hQ) _ (by rw [sc_all h (by omega), scW_s])
theorem S_score_52 {Γ : Nat × (Nat → Int32)} {d : Nat} {Q : mQ} {σ : mS} (p : Nat) (h : sV σ) (hp : p < ds (DM σ)) (hQ : Q (.inl (some (.int (dScore (DM σ) (coM σ) (σ.1 52) p)))) 60 mSH σ) : mCall Γ M_X9_score (d + 2) 0 0 [.ref 26, .int (nI p), .ref 52] 60 mSH σ Q := by
  have h6 := h.2.2.2.1
  refine E_X9_score_26_52 (nI p) ⟨vp_in_nI (by omega) (by omega), ?_⟩
  have e : σ.1 34 p = dm (DM σ) p := by
    show _ = mkI (ds (DM σ)) (σ.1 34) p
    rw [mkI, if_pos hp]
  rw [nI_clamp (by omega), e]
  exact L_score_52 h (dn (DM σ)) 0 (by omega) hQ
theorem P_score_54 {Γ : Nat × (Nat → Int32)} {d n0 bc bs : Nat} {Q : mQ} {σ : mS} {p i : Nat} {tot : Int32} (h : sV σ) (hk : i < dn (DM σ))
    (h16 : mK Γ M_X9_score (d + 2) Q n0 bc bs 16 [(0, .ref 26), (1, .int (nI p)), (2, .ref 54), (3, .int tot), (4, .int (nI (i + 1)))] [] 60 mSH σ)
    (x : Int32) (hx : sc131 (DM σ) (σ.1 54) p i (sc2 (DM σ) (σ.1 54) p i (sc1 (DM σ) (coM σ) p i x)) = tot) :
    mK Γ M_X9_score (d + 2) Q n0 bc bs 16 [(0, .ref 26), (1, .int (nI p)), (2, .ref 54), (3, .int x), (4, .int (nI i))] [] 60 mSH σ := by
  have h40 := h.2.1
  have cl : (nI i).toNatClampNeg = i := nI_clamp (by omega)
  have h259 : mK Γ M_X9_score (d + 2) Q n0 bc bs 259 [(0, .ref 26), (1, .int (nI p)), (2, .ref 54), (3, .int tot), (4, .int (nI i))] [] 60 mSH σ := T_X9_score_26_54_259 _ _ _ (by rw [nI_1]; exact h16)
  have h199 : dk (DM σ) i = 2 → ∀ y, sc5 (DM σ) (σ.1 54) p i y = tot → mK Γ M_X9_score (d + 2) Q n0 bc bs 199 [(0, .ref 26), (1, .int (nI p)), (2, .ref 54), (3, .int y), (4, .int (nI i))] [] 60 mSH σ := by
    intro k2 y hy
    obtain ⟨j, hj, e⟩ : ∃ j, j < i ∧ dt (DM σ) i = nI j := by
      rcases dV_k0 h hk with q | q
      · rw [q.1] at k2; exact absurd k2 (by decide)
      · exact q.2
    rw [sc5, e, uN_nI (by omega)] at hy
    refine T_X9_score_26_54_199 _ _ _ ⟨vp_in_nI (by omega) (by omega), ?_⟩
    rw [cl, m_target hk, e, nI_clamp (by omega), m_kind (show j < dn (DM σ) by omega), m_owner (show j < dn (DM σ) by omega), m_size hk]
    refine ⟨vp_in_nI (by omega) (by omega), fun a1 => ⟨fun a2 => ⟨fun a3 => ?_, fun a3 => ?_⟩, fun a2 => ?_⟩, fun a1 => ?_⟩
    · rw [if_pos ⟨a1, a2, a3⟩] at hy; rw [hy]; exact h259
    · rw [if_neg (fun q => a3 q.2.2)] at hy; rw [hy]; exact h259
    · rw [if_neg (fun q => a2 q.2.1)] at hy; rw [hy]; exact h259
    · rw [if_neg (fun q => a1 q.1)] at hy; rw [hy]; exact h259
  have h174 : ∀ y, sc174 (DM σ) (σ.1 54) p i y = tot → mK Γ M_X9_score (d + 2) Q n0 bc bs 174 [(0, .ref 26), (1, .int (nI p)), (2, .ref 54), (3, .int y), (4, .int (nI i)), (5, .int (if db (DM σ) i = nI p then 1 else 0))] [] 60 mSH σ := by
    intro y hy
    rw [sc174] at hy
    refine T_X9_score_26_54_174 _ _ _ _ ⟨vp_in_nI (by omega) (by omega), ?_⟩
    rw [cl, m_kind hk]
    refine ⟨fun k2 => ?_, fun k2 => ?_⟩
    · rw [if_pos k2, sc4] at hy
      by_cases o : db (DM σ) i = nI p
      · rw [if_pos o] at hy ⊢
        exact ⟨fun c => absurd c (by decide), fun _ => h199 k2 _ hy⟩
      · rw [if_neg o] at hy ⊢
        exact ⟨fun _ => h199 k2 _ hy, fun c => absurd rfl c⟩
    · rw [if_neg k2] at hy; rw [hy]; exact h259
  have h131 : ∀ y, sc131 (DM σ) (σ.1 54) p i y = tot → mK Γ M_X9_score (d + 2) Q n0 bc bs 131 [(0, .ref 26), (1, .int (nI p)), (2, .ref 54), (3, .int y), (4, .int (nI i)), (5, .int (if db (DM σ) i = nI p then 1 else 0))] [] 60 mSH σ := by
    intro y hy
    rw [sc131] at hy
    refine T_X9_score_26_54_131 _ _ _ _ ⟨vp_in_nI (by omega) (by omega), ?_⟩
    rw [cl, m_kind hk, m_target hk, m_strong0 h hk, m_size hk]
    refine ⟨fun b1 => ?_, fun b1 => ?_⟩
    · rw [if_pos b1, sc3] at hy
      by_cases o : db (DM σ) i = nI p
      · refine ⟨fun c => absurd c (by rw [if_pos o]; decide), fun _ => ⟨fun k1 => ?_, fun s => ?_, fun s => ?_⟩⟩
        · rcases dV_k0 h hk with q | ⟨_, j, hj, q⟩
          · rw [q.1] at k1; exact absurd k1 (by decide)
          · rw [q]; exact vp_in_nI (by omega) (by omega)
        · rw [if_neg (fun q => by rw [s] at q; exact absurd q.2 (by decide))] at hy
          exact h174 _ hy
        · rw [if_pos ⟨o, Bool.not_eq_false _ ▸ s⟩] at hy
          exact h174 _ hy
      · rw [if_neg (fun q => o q.1)] at hy
        exact ⟨fun _ => h174 _ hy, fun c => absurd (if_neg o) c⟩
    · rw [if_neg b1] at hy; rw [hy]; exact h259
  have h66 : ∀ y, sc131 (DM σ) (σ.1 54) p i (sc2 (DM σ) (σ.1 54) p i y) = tot → mK Γ M_X9_score (d + 2) Q n0 bc bs 66 [(0, .ref 26), (1, .int (nI p)), (2, .ref 54), (3, .int y), (4, .int (nI i)), (5, .int (if db (DM σ) i = nI p then 1 else 0))] [] 60 mSH σ := by
    intro y hy
    rw [sc2] at hy
    refine T_X9_score_26_54_66 _ _ _ _ ⟨fun c => ?_, fun c => ⟨vp_in_nI (by omega) (by omega), ?_⟩⟩
    · have o : ¬ db (DM σ) i = nI p := fun o => by rw [if_pos o] at c; exact absurd c (by decide)
      rw [if_neg (fun q => o q.1)] at hy
      exact h131 _ hy
    · have o : db (DM σ) i = nI p := Classical.byContradiction (fun o => c (if_neg o))
      rw [cl, m_kind hk, m_size hk]
      refine ⟨fun k0 => ⟨fun b1 => ?_, fun b1 => ⟨fun b0 => ?_, fun b0 => ?_⟩⟩, fun k0 => ?_⟩
      · rw [if_pos ⟨o, k0⟩, if_pos b1] at hy; exact h131 _ hy
      · rw [if_pos ⟨o, k0⟩, if_neg b1, if_pos b0] at hy; exact h131 _ hy
      · rw [if_pos ⟨o, k0⟩, if_neg b1, if_neg b0] at hy; rw [Int32.add_zero]; exact h131 _ hy
      · rw [if_neg (fun q => k0 q.2)] at hy; exact h131 _ hy
  rw [sc1] at hx
  refine T_X9_score_26_54_16 _ _ _ ⟨fun c => absurd c (by rw [sV_n h]; exact nI_ge (by omega) (by omega)), fun _ => ⟨vp_in_nI (by omega) (by omega), ?_⟩⟩
  rw [cl, m_owner hk, m_isConc0 hk h40]
  refine ⟨fun o => ⟨fun c => ?_, fun c => ?_⟩, fun o => ?_⟩
  · rw [if_neg (fun q => by rw [c] at q; exact absurd q.2 (by decide))] at hx
    have := h66 _ hx
    rw [if_pos o] at this; exact this
  · rw [if_pos ⟨o, Bool.not_eq_false _ ▸ c⟩] at hx
    have := h66 _ hx
    rw [if_pos o] at this; exact this
  · rw [if_neg (fun q => o q.1)] at hx
    have := h66 _ hx
    rw [if_neg o] at this; exact this
theorem L_score_54 {Γ : Nat × (Nat → Int32)} {d n0 bc bs : Nat} {Q : mQ} {σ : mS} {p : Nat} (h : sV σ) : ∀ m i, i + m = dn (DM σ) → Q (.inl (some (.int (dScore (DM σ) (coM σ) (σ.1 54) p)))) 60 mSH σ →
    mK Γ M_X9_score (d + 2) Q n0 bc bs 16 [(0, .ref 26), (1, .int (nI p)), (2, .ref 54), (3, .int (scW (DM σ) (coM σ) (σ.1 54) p i)), (4, .int (nI i))] [] 60 mSH σ
  | 0, i, hm, hQ => by
    have hn := h.2.1
    refine T_X9_score_26_54_16 _ _ _ ⟨fun _ => ?_, fun c => absurd (by rw [sV_n h]; exact nI_le (by omega) (by omega)) c⟩
    rw [show i = dn (DM σ) by omega]; exact hQ
  | m + 1, i, hm, hQ => P_score_54 h (by omega) (L_score_54 h m (i + 1) (by omega) hQ) _ (by rw [sc_all h (by omega), scW_s])
theorem S_score_54 {Γ : Nat × (Nat → Int32)} {d : Nat} {Q : mQ} {σ : mS} (p : Nat) (h : sV σ) (hp : p < ds (DM σ)) (hQ : Q (.inl (some (.int (dScore (DM σ) (coM σ) (σ.1 54) p)))) 60 mSH σ) : mCall Γ M_X9_score (d + 2) 0 0 [.ref 26, .int (nI p), .ref 54] 60 mSH σ Q := by
  have h6 := h.2.2.2.1
  refine E_X9_score_26_54 (nI p) ⟨vp_in_nI (by omega) (by omega), ?_⟩
  have e : σ.1 34 p = dm (DM σ) p := by
    show _ = mkI (ds (DM σ)) (σ.1 34) p
    rw [mkI, if_pos hp]
  rw [nI_clamp (by omega), e]
  exact L_score_54 h (dn (DM σ)) 0 (by omega) hQ
