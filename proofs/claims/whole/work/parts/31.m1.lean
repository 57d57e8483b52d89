/-! ===== the model's reads; far, why, on ===== -/
def sV (σ : mS) : Prop := dV (DM σ)
theorem sV_n {σ : mS} (h : sV σ) : σ.1 32 3 = nI (dn (DM σ)) := h.1
theorem sV_s {σ : mS} (h : sV σ) : σ.1 32 0 = nI (ds (DM σ)) := h.2.2.1
theorem m_kind {σ : mS} {k : Nat} (hk : k < dn (DM σ)) : σ.1 36 k = dk (DM σ) k := by
  show _ = mkI (dn (DM σ)) (σ.1 36) k
  rw [mkI, if_pos hk]
theorem m_owner {σ : mS} {k : Nat} (hk : k < dn (DM σ)) : σ.1 37 k = db (DM σ) k := by
  show _ = mkI (dn (DM σ)) (σ.1 37) k
  rw [mkI, if_pos hk]
theorem m_size {σ : mS} {k : Nat} (hk : k < dn (DM σ)) : σ.1 38 k = dz (DM σ) k := by
  show _ = mkI (dn (DM σ)) (σ.1 38) k
  rw [mkI, if_pos hk]
theorem m_source {σ : mS} {k : Nat} (hk : k < dn (DM σ)) : σ.1 39 k = dr (DM σ) k := by
  show _ = mkI (dn (DM σ)) (σ.1 39) k
  rw [mkI, if_pos hk]
theorem m_target {σ : mS} {k : Nat} (hk : k < dn (DM σ)) : σ.1 40 k = dt (DM σ) k := by
  show _ = mkI (dn (DM σ)) (σ.1 40) k
  rw [mkI, if_pos hk]
theorem m_conc {σ : mS} {k : Nat} (hk : k < dn (DM σ)) : σ.1 41 k = dc (DM σ) k := by
  show _ = mkI (dn (DM σ)) (σ.1 41) k
  rw [mkI, if_pos hk]
theorem cmp_z : ∀ z w : Fin 51, (2 * nI w.1 < nI z.1) ↔ ¬ ((nI z.1 + 1) / 2 ≤ nI w.1) := by decide +kernel
theorem m_strong {σ : mS} (h : sV σ) {k : Nat} (hk : k < dn (DM σ)) : f_X8_isStrong_32 σ (nI k) = if dst (DM σ) k = true then 1 else 0 := by
  have h40 := h.2.1
  rw [f_X8_isStrong_32, nI_clamp (by omega), m_kind hk, m_target hk, m_size hk, dst]
  rcases (h.2.2.2.2 k hk).2.2.2 with q | ⟨q1, _, j, hj, e⟩
  · rw [q.1]; simp
  · rw [e, nI_clamp (by omega), m_kind (show j < dn (DM σ) by omega), m_size (show j < dn (DM σ) by omega), uN_nI (by omega), dLeast]
    by_cases k1 : dk (DM σ) k = 1
    · rw [if_pos k1]
      obtain ⟨w, hw1, hw2, ew⟩ := (h.2.2.2.2 k hk).2.1
      obtain ⟨z, hz1, hz2, ez⟩ := (h.2.2.2.2 j (by omega)).2.1
      rw [ew, ez]
      by_cases k0 : dk (DM σ) j = 0
      · rw [if_pos k0, if_pos k0]
        have := cmp_z ⟨z, by omega⟩ ⟨w, by omega⟩
        simp only at this
        by_cases c : 2 * nI w < nI z
        · rw [if_pos c]; simp [k1, this.mp c]
        · rw [if_neg c]
          have : (nI z + 1) / 2 ≤ nI w := Classical.not_not.mp (fun q => c (this.mpr q))
          simp [k1, this]
      · rw [if_neg k0, if_neg k0]
        by_cases c : nI w < nI z
        · rw [if_pos c]
          have : ¬ nI z ≤ nI w := Int32.not_le.mpr c
          simp [this]
        · rw [if_neg c]
          have : nI z ≤ nI w := Int32.not_lt.mp c
          simp [k1, this]
    · rw [if_neg k1]; simp [k1]
theorem m_strong0 {σ : mS} (h : sV σ) {k : Nat} (hk : k < dn (DM σ)) : f_X8_isStrong_32 σ (nI k) = 0 ↔ dst (DM σ) k = false := by
  rw [m_strong h hk]
  cases dst (DM σ) k <;> decide
theorem dV_k0 {D : mDeb} (h : dV D) {k : Nat} (hk : k < dn D) : (dk D k = 0 ∧ dt D k = -1) ∨ (dk D k ≠ 0 ∧ ∃ j, j < k ∧ dt D k = nI j) := by
  rcases (h.2.2.2.2 k hk).2.2.2 with q | q
  · exact .inl ⟨q.1, q.2.2⟩
  · refine .inr ⟨?_, q.2.2⟩
    rcases q.1 with e | e <;> rw [e] <;> decide
theorem farN_s (D : mDeb) (f : Nat) (t : Int32) : farN D (f + 1) t = if t = -1 then 0 else farN D f (dt D (uN t)) + 1 := rfl
theorem farN_f {D : mDeb} (h : dV D) : ∀ f t, (t = -1 ∨ ∃ j, j < dn D ∧ j < f ∧ t = nI j) → farN D (f + 1) t = farN D f t
  | 0, t, ht => by
    rcases ht with e | ⟨j, _, hj, _⟩
    · rw [farN_s, if_pos e]; rfl
    · omega
  | f + 1, t, ht => by
    have h40 := h.2.1
    rw [farN_s D (f + 1) t, farN_s D f t]
    rcases ht with e | ⟨j, hj, hf, e⟩
    · rw [if_pos e, if_pos e]
    · rw [if_neg (by rw [e]; exact nI_m1 (by omega)), if_neg (by rw [e]; exact nI_m1 (by omega)), e, uN_nI (by omega), farN_f h f]
      rcases dV_k0 h hj with q | ⟨_, i, hi, q⟩
      · exact .inl q.2
      · exact .inr ⟨i, by omega, by omega, q⟩
theorem L_farOf {Γ : Nat × (Nat → Int32)} {d n0 bc bs : Nat} {Q : mQ} {σ : mS} (h : sV σ) : ∀ m k s, k < m → k < dn (DM σ) → Q (.inl (some (.int (nI (s + farN (DM σ) 40 (dt (DM σ) k)))))) 60 mSH σ →
    mK Γ M_X9_farOf (d + 1) Q n0 bc bs 4 [(0, .ref 26), (2, .int (nI s)), (3, .int (nI k))] [] 60 mSH σ
  | 0, k, s, hm, hk, hQ => absurd hm (by omega)
  | m + 1, k, s, hm, hk, hQ => by
    have h40 := h.2.1
    refine T_X9_farOf_26_4 _ _ ⟨vp_in_nI (by omega) (by omega), ?_⟩
    rw [nI_clamp (by omega), m_kind hk, m_target hk, nI_1]
    rcases dV_k0 h hk with ⟨e0, e⟩ | ⟨e0, j, hj, e⟩
    · refine ⟨fun _ => ?_, fun c => absurd e0 c⟩
      rw [e, farN_s (DM σ) 39, if_pos rfl] at hQ
      exact hQ
    · refine ⟨fun c => absurd c e0, fun _ => ?_⟩
      rw [e] at hQ ⊢
      refine L_farOf h m j (s + 1) (by omega) (by omega) ?_
      have e3 : farN (DM σ) 40 (nI j) = farN (DM σ) 39 (dt (DM σ) j) + 1 := by rw [farN_s (DM σ) 39, if_neg (nI_m1 (by omega)), uN_nI (by omega)]
      have e4 : farN (DM σ) 40 (dt (DM σ) j) = farN (DM σ) 39 (dt (DM σ) j) := farN_f h 39 _ (by
        rcases dV_k0 h (show j < dn (DM σ) by omega) with q | ⟨_, i, hi, q⟩
        · exact .inl q.2
        · exact .inr ⟨i, by omega, by omega, q⟩)
      rw [e4, show s + 1 + farN (DM σ) 39 (dt (DM σ) j) = s + (farN (DM σ) 39 (dt (DM σ) j) + 1) by omega, ← e3]
      exact hQ
theorem S_farOf {Γ : Nat × (Nat → Int32)} {d : Nat} {Q : mQ} {σ : mS} (x : Nat) (h : sV σ) (hx : x < dn (DM σ)) (hQ : Q (.inl (some (.int (dFar (DM σ) x)))) 60 mSH σ) : mCall Γ M_X9_farOf (d + 1) 0 0 [.ref 26, .int (nI x)] 60 mSH σ Q :=
  E_X9_farOf_26 (nI x) (L_farOf h (x + 1) x 0 (by omega) hx (by rw [Nat.zero_add]; exact hQ))
theorem L_whyOf {Γ : Nat × (Nat → Int32)} {d n0 bc bs : Nat} {Q : mQ} {σ : mS} {x : Nat} (h : sV σ) (hx : x < dn (DM σ)) : ∀ m i, i + m = dn (DM σ) → Q (.inl (some (.int (whF (DM σ) (σ.1 52) x i m)))) 60 mSH σ →
    mK Γ M_X9_whyOf (d + 2) Q n0 bc bs 14 [(0, .ref 26), (1, .int (nI x)), (2, .int (nI i))] [] 60 mSH σ
  | 0, i, hm, hQ => by
    have hn := h.2.1
    refine T_X9_whyOf_26_14 _ _ ⟨fun _ => ⟨vp_in_nI (by omega) (by omega), ?_⟩, fun c => absurd (by rw [sV_n h]; exact nI_le (by omega) (by omega)) c⟩
    rw [nI_clamp (by omega), m_conc hx]
    rw [whF] at hQ
    by_cases e : dc (DM σ) x = 1
    · rw [if_pos e] at hQ; exact ⟨fun _ => hQ, fun c => absurd e c⟩
    · rw [if_neg e] at hQ; exact ⟨fun c => absurd c e, fun _ => hQ⟩
  | m + 1, i, hm, hQ => by
    have hn := h.2.1
    rw [whF] at hQ
    refine T_X9_whyOf_26_14 _ _ ⟨fun c => absurd c (by rw [sV_n h]; exact nI_ge (by omega) (by omega)), fun _ => ⟨vp_in_nI (by omega) (by omega), ?_⟩⟩
    rw [nI_clamp (by omega), m_kind (show i < dn (DM σ) by omega), m_target (show i < dn (DM σ) by omega), m_strong0 h (by omega), nI_1]
    refine ⟨fun c1 => ⟨fun k1 => ?_, fun c2 => ?_, fun c2 => ⟨fun c3 => ?_, fun c3 => ?_⟩⟩, fun c1 => ?_⟩
    · rcases dV_k0 h (show i < dn (DM σ) by omega) with q | ⟨_, j, hj, q⟩
      · rw [q.1] at k1; exact absurd k1 (by decide)
      · rw [q]; exact vp_in_nI (by omega) (by omega)
    · rw [if_neg (fun q => by rw [c2] at q; exact absurd q.2.1 (by decide))] at hQ
      exact L_whyOf h hx m (i + 1) (by omega) hQ
    · rw [if_pos ⟨c3, Bool.not_eq_false _ ▸ c2, c1⟩] at hQ
      exact hQ
    · rw [if_neg (fun q => c3 q.1)] at hQ
      exact L_whyOf h hx m (i + 1) (by omega) hQ
    · rw [if_neg (fun q => c1 q.2.2)] at hQ
      exact L_whyOf h hx m (i + 1) (by omega) hQ
theorem S_whyOf {Γ : Nat × (Nat → Int32)} {d : Nat} {Q : mQ} {σ : mS} (x : Nat) (h : sV σ) (hx : x < dn (DM σ)) (hQ : Q (.inl (some (.int (dWhy (DM σ) (σ.1 52) x)))) 60 mSH σ) : mCall Γ M_X9_whyOf (d + 2) 0 0 [.ref 26, .int (nI x)] 60 mSH σ Q := by
  have hn := h.2.1
  refine E_X9_whyOf_26 (nI x) ⟨vp_in_nI (by omega) (by omega), ?_⟩
  rw [nI_clamp (by omega)]
  rw [dWhy] at hQ
  refine ⟨fun c => ?_, fun c => ?_⟩
  · rw [if_pos c] at hQ; exact L_whyOf h hx (dn (DM σ)) 0 (by omega) hQ
  · rw [if_neg c] at hQ; exact hQ
theorem L_on {Γ : Nat × (Nat → Int32)} {d n0 bc bs : Nat} {Q : mQ} {σ : mS} {x y : Int32} (h : sV σ) : ∀ m i, i + m = dn (DM σ) → Q (.inl (some (.int (nI (mCnt (fun k => decide (dk (DM σ) k = y ∧ dt (DM σ) k = x)) (dn (DM σ))))))) 60 mSH σ →
    mK Γ M_X9_on (d + 1) Q n0 bc bs 5 [(0, .ref 26), (1, .int x), (2, .int y), (3, .int (nI (mCnt (fun k => decide (dk (DM σ) k = y ∧ dt (DM σ) k = x)) i))), (4, .int (nI i))] [] 60 mSH σ
  | 0, i, hm, hQ => by
    have hn := h.2.1
    refine T_X9_on_26_5 _ _ _ _ ⟨fun _ => ?_, fun c => absurd (by rw [sV_n h]; exact nI_le (by omega) (by omega)) c⟩
    rw [show i = dn (DM σ) by omega]; exact hQ
  | m + 1, i, hm, hQ => by
    have hn := h.2.1
    have ih := L_on (d := d) (n0 := n0) (bc := bc) (bs := bs) (Γ := Γ) h m (i + 1) (by omega) hQ
    refine T_X9_on_26_5 _ _ _ _ ⟨fun c => absurd c (by rw [sV_n h]; exact nI_ge (by omega) (by omega)), fun _ => ⟨vp_in_nI (by omega) (by omega), ?_⟩⟩
    rw [nI_clamp (by omega), m_kind (show i < dn (DM σ) by omega), m_target (show i < dn (DM σ) by omega), nI_1, nI_1, Int32.add_zero]
    rw [mCnt] at ih
    refine ⟨fun c1 => ⟨fun c2 => ?_, fun c2 => ?_⟩, fun c1 => ?_⟩
    · rw [if_pos (decide_eq_true ⟨c1, c2⟩)] at ih; exact ih
    · rw [if_neg (by rw [decide_eq_true_eq]; exact fun q => c2 q.2)] at ih; exact ih
    · rw [if_neg (by rw [decide_eq_true_eq]; exact fun q => c1 q.1)] at ih; exact ih
theorem S_on {Γ : Nat × (Nat → Int32)} {d : Nat} {Q : mQ} {σ : mS} (x y : Int32) (h : sV σ) (hQ : Q (.inl (some (.int (nI (mCnt (fun k => decide (dk (DM σ) k = y ∧ dt (DM σ) k = x)) (dn (DM σ))))))) 60 mSH σ) : mCall Γ M_X9_on (d + 1) 0 0 [.ref 26, .int x, .int y] 60 mSH σ Q :=
  E_X9_on_26 x y (L_on h (dn (DM σ)) 0 (by omega) hQ)
