/-! ===== the grammar: in numbers ===== -/
abbrev gP : Type := Nat × Bool
def gT (K : Nat → Nat) (k : Nat) (s : gP) : Bool := s.2 && decide (K s.1 = k)
def gA (s : gP) : gP := (s.1 + 1, true)
def gX (s : gP) : gP := (s.1, false)
def gN (K : Nat → Nat) (k : Nat) (s : gP) : gP := if gT K k s = true then gA s else gX s
def gO (K : Nat → Nat) (k : Nat) (s : gP) : gP := if gT K k s = true then gN K 25 (gA s) else s
def gB (K : Nat → Nat) (k : Nat) (s : gP) : gP := gN K 24 (gN K k s)
def gL (K : Nat → Nat) (g : gP → gP) : Nat → gP → gP
  | 0, s => s
  | m + 1, s => if gT K 19 s = true ∨ gT K 20 s = true then gL K g m (g (gA s)) else s
def gTst (K : Nat → Nat) (g : gP → gP) (s : gP) : gP := gL K g 400 (g s)
def gAt (K : Nat → Nat) (s : gP) : Prop := gT K 14 s = true ∨ gT K 15 s = true ∨ gT K 16 s = true ∨ gT K 17 s = true
def gPr (K : Nat → Nat) (f : gP → gP) (s : gP) : gP := gN K 22 (if (gN K 21 s).2 = true then f (gN K 21 s) else gN K 21 s)
noncomputable def gIf (P : Prop) (a b : gP) : gP := @ite gP P (Classical.propDecidable P) a b
theorem gIf_pos {P : Prop} {a b : gP} (h : P) : gIf P a b = a := by rw [gIf, if_pos h]
theorem gIf_neg {P : Prop} {a b : gP} (h : ¬ P) : gIf P a b = b := by rw [gIf, if_neg h]
noncomputable def gSg (K : Nat → Nat) : Nat → gP → gP
  | 0, s => gIf (gAt K s) (gN K 24 (gA s)) (gX s)
  | r + 1, s => gIf (gAt K s) (gN K 24 (gA s)) (gIf (gT K 18 s = true) (gSg K r (gA s)) (gPr K (gTst K (gSg K r)) s))
noncomputable def gMv (K : Nat → Nat) (k : Nat) (s : gP) : gP := gIf (gT K 11 (gO K 10 (gB K k (gB K 7 (gN K 24 s)))) = true) (gTst K (gSg K 6) (gA (gO K 10 (gB K k (gB K 7 (gN K 24 s)))))) (gO K 10 (gB K k (gB K 7 (gN K 24 s))))
noncomputable def gLn (K : Nat → Nat) (s : gP) : gP := gN K 23 (gIf (gT K 0 s = true) (gO K 1 (gN K 24 (gA s))) (gIf (gT K 2 s = true) (gO K 4 (gB K 3 (gN K 24 (gA s)))) (gIf (gT K 5 s = true) (gMv K 8 (gA s)) (gIf (gT K 6 s = true) (gMv K 9 (gA s)) (gIf (gT K 12 s = true ∨ gT K 13 s = true) (gN K 24 (gA s)) (gX s))))))
noncomputable def gTx (K : Nat → Nat) : Nat → gP → gP
  | 0, s => s
  | m + 1, s => gIf (s.2 = true ∧ K s.1 ≠ 26) (gTx K m (gLn K s)) s
/-- the place where the tokens end -/
def gEnd (K : Nat → Nat) (E : Nat) : Prop := K E = 26 ∨ K E = 27
theorem gA_le {K : Nat → Nat} {E k : Nat} {s : gP} (hE : gEnd K E) (hk : k < 26) (h : s.1 ≤ E) (ht : gT K k s = true) : (gA s).1 ≤ E := by
  rw [gT, Bool.and_eq_true, decide_eq_true_eq] at ht
  have : s.1 ≠ E := fun q => by rw [q] at ht; rcases hE with e | e <;> omega
  show s.1 + 1 ≤ E
  omega
theorem gN_le {K : Nat → Nat} {E k : Nat} {s : gP} (hE : gEnd K E) (hk : k < 26) (h : s.1 ≤ E) : (gN K k s).1 ≤ E := by
  rw [gN]
  by_cases q : gT K k s = true
  · rw [if_pos q]; exact gA_le hE hk h q
  · rw [if_neg q]; exact h
theorem gO_le {K : Nat → Nat} {E k : Nat} {s : gP} (hE : gEnd K E) (hk : k < 26) (h : s.1 ≤ E) : (gO K k s).1 ≤ E := by
  rw [gO]
  by_cases q : gT K k s = true
  · rw [if_pos q]; exact gN_le hE (by omega) (gA_le hE hk h q)
  · rw [if_neg q]; exact h
theorem gB_le {K : Nat → Nat} {E k : Nat} {s : gP} (hE : gEnd K E) (hk : k < 26) (h : s.1 ≤ E) : (gB K k s).1 ≤ E := gN_le hE (by omega) (gN_le hE hk h)
theorem gL_le {K : Nat → Nat} {E : Nat} {g : gP → gP} (hE : gEnd K E) (hg : ∀ s : gP, s.1 ≤ E → (g s).1 ≤ E) : ∀ m (s : gP), s.1 ≤ E → (gL K g m s).1 ≤ E
  | 0, s, h => h
  | m + 1, s, h => by
    rw [gL]
    by_cases q : gT K 19 s = true ∨ gT K 20 s = true
    · rw [if_pos q]
      refine gL_le hE hg m _ (hg _ ?_)
      rcases q with z | z
      · exact gA_le hE (by omega) h z
      · exact gA_le hE (by omega) h z
    · rw [if_neg q]; exact h
theorem gAt_le {K : Nat → Nat} {E : Nat} {s : gP} (hE : gEnd K E) (h : s.1 ≤ E) (q : gAt K s) : (gA s).1 ≤ E := by
  rcases q with z | z | z | z
  · exact gA_le hE (by omega) h z
  · exact gA_le hE (by omega) h z
  · exact gA_le hE (by omega) h z
  · exact gA_le hE (by omega) h z
theorem gPr_le {K : Nat → Nat} {E : Nat} {f : gP → gP} {s : gP} (hE : gEnd K E) (hf : ∀ s : gP, s.1 ≤ E → (f s).1 ≤ E) (h : s.1 ≤ E) : (gPr K f s).1 ≤ E := by
  rw [gPr]
  refine gN_le hE (by omega) ?_
  have := gN_le (k := 21) hE (by omega) h
  split
  · exact hf _ this
  · exact this
theorem gSg_le {K : Nat → Nat} {E : Nat} (hE : gEnd K E) : ∀ r (s : gP), s.1 ≤ E → (gSg K r s).1 ≤ E
  | 0, s, h => by
    rw [gSg]
    by_cases q : gAt K s
    · rw [gIf_pos q]; exact gN_le hE (by omega) (gAt_le hE h q)
    · rw [gIf_neg q]; exact h
  | r + 1, s, h => by
    rw [gSg]
    by_cases q : gAt K s
    · rw [gIf_pos q]; exact gN_le hE (by omega) (gAt_le hE h q)
    · rw [gIf_neg q]
      by_cases q2 : gT K 18 s = true
      · rw [gIf_pos q2]; exact gSg_le hE r _ (gA_le hE (by omega) h q2)
      · rw [gIf_neg q2]; exact gPr_le hE (fun s hs => gL_le hE (gSg_le hE r) 400 _ (gSg_le hE r _ hs)) h
theorem gTst_le {K : Nat → Nat} {E r : Nat} {s : gP} (hE : gEnd K E) (h : s.1 ≤ E) : (gTst K (gSg K r) s).1 ≤ E := gL_le hE (gSg_le hE r) 400 _ (gSg_le hE r _ h)
theorem gMv_le {K : Nat → Nat} {E k : Nat} {s : gP} (hE : gEnd K E) (hk : k < 26) (h : s.1 ≤ E) : (gMv K k s).1 ≤ E := by
  have h4 := gO_le (k := 10) hE (by omega) (gB_le hE hk (gB_le (k := 7) hE (by omega) (gN_le (k := 24) hE (by omega) h)))
  rw [gMv]
  by_cases q : gT K 11 (gO K 10 (gB K k (gB K 7 (gN K 24 s)))) = true
  · rw [gIf_pos q]; exact gTst_le hE (gA_le hE (by omega) h4 q)
  · rw [gIf_neg q]; exact h4
theorem gLn_le {K : Nat → Nat} {E : Nat} {s : gP} (hE : gEnd K E) (h : s.1 ≤ E) : (gLn K s).1 ≤ E := by
  rw [gLn]
  refine gN_le hE (by omega) ?_
  by_cases q0 : gT K 0 s = true
  · rw [gIf_pos q0]; exact gO_le hE (by omega) (gN_le hE (by omega) (gA_le hE (by omega) h q0))
  rw [gIf_neg q0]
  by_cases q2 : gT K 2 s = true
  · rw [gIf_pos q2]; exact gO_le hE (by omega) (gB_le hE (by omega) (gN_le hE (by omega) (gA_le hE (by omega) h q2)))
  rw [gIf_neg q2]
  by_cases q5 : gT K 5 s = true
  · rw [gIf_pos q5]; exact gMv_le hE (by omega) (gA_le hE (by omega) h q5)
  rw [gIf_neg q5]
  by_cases q6 : gT K 6 s = true
  · rw [gIf_pos q6]; exact gMv_le hE (by omega) (gA_le hE (by omega) h q6)
  rw [gIf_neg q6]
  by_cases q12 : gT K 12 s = true ∨ gT K 13 s = true
  · rw [gIf_pos q12]
    refine gN_le hE (by omega) ?_
    rcases q12 with z | z
    · exact gA_le hE (by omega) h z
    · exact gA_le hE (by omega) h z
  · rw [gIf_neg q12]; exact h
theorem gTx_le {K : Nat → Nat} {E : Nat} (hE : gEnd K E) : ∀ m (s : gP), s.1 ≤ E → (gTx K m s).1 ≤ E
  | 0, s, h => h
  | m + 1, s, h => by
    rw [gTx]
    by_cases q : s.2 = true ∧ K s.1 ≠ 26
    · rw [gIf_pos q]; exact gTx_le hE m _ (gLn_le hE h)
    · rw [gIf_neg q]; exact h
/-! ===== the class reads by it ===== -/
/-- the class's row of tokens -/
def tC (σ : mS) (K P : Nat → Nat) (V : Nat → Int64) (M : Nat) : Prop := (σ.1 20 3 = nI M ∧ M ≤ 401) ∧ (∀ i, K i < 28) ∧ (∀ i, P i ≤ 2000) ∧ ∀ i, i < M → σ.2.2 21 i = some (1000 + K i) ∧ σ.1 22 i = nI (P i) ∧ σ.2.1 23 i = V i
theorem tC_kr {σ : mS} {K P : Nat → Nat} {V : Nat → Int64} {M i : Nat} (h : tC σ K P V M) (hi : i < M) : kR σ 21 i = 1000 + K i ∧ kRok σ 21 i := by
  have e : kR σ 21 i = 1000 + K i := by rw [kR, (h.2.2.2 i hi).1]; rfl
  have := h.2.1 i
  exact ⟨e, by rw [kRok, e]; exact ⟨(h.2.2.2 i hi).1, by omega, by omega⟩⟩
theorem tC_kind {σ : mS} {K P : Nat → Nat} {V : Nat → Int64} {M i : Nat} (h : tC σ K P V M) (hi : i < M) : f_X6_kindAt_20 σ (nI i) = 1000 + K i := by
  have := h.1.2
  rw [f_X6_kindAt_20, if_neg (nI_pos (by omega)), h.1.1, if_neg (nI_ge hi (by omega)), if_neg (by rw [i400]; exact nI_nlt (by omega) (by omega)), nI_clamp (by omega), (tC_kr h hi).1]
theorem tC_in {σ : mS} {K P : Nat → Nat} {V : Nat → Int64} {M i : Nat} (h : tC σ K P V M) (hi : i < M) : vp_in (nI i) 401 ∧ kRok σ 21 (nI i).toNatClampNeg ∧ 1000 ≤ f_X6_kindAt_20 σ (nI i) ∧ f_X6_kindAt_20 σ (nI i) < 1028 := by
  have := h.1.2
  have h2 := h.2.1 i
  exact ⟨vp_in_nI (by omega) (by omega), by rw [nI_clamp (by omega)]; exact (tC_kr h hi).2, by rw [tC_kind h hi]; omega, by rw [tC_kind h hi]; omega⟩
/-- the grammar's own fields -/
def gS (σ : mS) (s : gP) : mS := mPI (mPI σ 24 1 (nI s.1)) 24 2 (b01 s.2)
theorem gS_1 (σ : mS) (s : gP) : (gS σ s).1 24 1 = nI s.1 := by rw [gS, mPI_at, if_neg (by decide), mPI_at, if_pos rfl]
theorem gS_2 (σ : mS) (s : gP) : (gS σ s).1 24 2 = b01 s.2 := by rw [gS, mPI_at, if_pos rfl]
theorem gS_ne (σ : mS) (s : gP) {a : Nat} (h : a ≠ 24) : (gS σ s).1 a = σ.1 a := by rw [gS, mPI_ne h, mPI_ne h]
theorem gS_tC {σ : mS} {K P : Nat → Nat} {V : Nat → Int64} {M : Nat} (h : tC σ K P V M) (s : gP) : tC (gS σ s) K P V M := by
  rw [tC, gS_ne _ _ (by decide), gS_ne _ _ (by decide)]; exact h
theorem mS_ext {σ τ : mS} (h1 : ∀ a k, σ.1 a k = τ.1 a k) (h2 : σ.2 = τ.2) : σ = τ := Prod.ext (funext fun a => funext fun k => h1 a k) h2
theorem gS_A (σ : mS) (s : gP) (h : s.2 = true) : mPI (gS σ s) 24 1 ((gS σ s).1 24 1 + 1) = gS σ (gA s) := by
  rw [gS_1, nI_1]
  refine mS_ext (fun a k => ?_) rfl
  by_cases e : a = 24
  · subst e
    rw [mPI_at, gS, gS, mPI_at, mPI_at, mPI_at, mPI_at, gA, h]
    by_cases k1 : k = 1
    · subst k1; simp
    · by_cases k2 : k = 2
      · subst k2; simp
      · simp [k1, k2]
  · rw [mPI_ne e, gS_ne _ _ e, gS_ne _ _ e]
theorem gS_X (σ : mS) (s : gP) : mPI (gS σ s) 24 2 0 = gS σ (gX s) := by
  refine mS_ext (fun a k => ?_) rfl
  by_cases e : a = 24
  · subst e
    rw [mPI_at, gS, gS, mPI_at, mPI_at, mPI_at, mPI_at, gX]
    by_cases k2 : k = 2
    · subst k2; simp [b01]
    · simp [k2]
  · rw [mPI_ne e, gS_ne _ _ e, gS_ne _ _ e]
theorem b01_0 {b : Bool} : b01 b = 0 ↔ b = false := by cases b <;> simp [b01]
theorem S_takesG {Γ : Nat × (Nat → Int32)} {d : Nat} {Q : mQ} {σ : mS} {K P : Nat → Nat} {V : Nat → Int64} {M : Nat} {s : gP} (k : Nat) (h : tC σ K P V M) (hs : s.1 < M) (hk : k < 28)
    (h1 : gT K k s = true → Q (.inl (some (.int 1))) 60 mSH (gS σ (gA s))) (h0 : gT K k s ≠ true → Q (.inl (some (.int 0))) 60 mSH (gS σ s)) : mCall Γ M_X1_takes (d + 2) 0 0 [.ref 24, .ref (1000 + k)] 60 mSH (gS σ s) Q := by
  have hC := gS_tC h s
  obtain ⟨i1, i2, i3⟩ := tC_in hC hs
  rw [← gS_1 σ s] at i1 i2 i3
  refine S_X1_takes_24 (1000 + k) (by omega) (fun _ _ _ _ => i1) (fun _ _ _ _ => i2) (fun _ => i3) ?_
  rw [h_X1_takes_24, gS_2, gS_1, tC_kind hC hs]
  by_cases r : s.2 = true
  · rw [if_neg (fun q => by rw [b01_0, r] at q; cases q)]
    by_cases e : K s.1 = k
    · rw [if_pos (by rw [e])]
      have ht : gT K k s = true := by rw [gT, r, decide_eq_true e]; rfl
      have := gS_A σ s r
      rw [gS_1] at this
      rw [this]; exact h1 ht
    · rw [if_neg (by omega)]
      exact h0 (fun q => by rw [gT, Bool.and_eq_true, decide_eq_true_eq] at q; exact e q.2)
  · rw [if_pos (by rw [b01_0]; cases z : s.2; rfl; exact absurd z r)]
    exact h0 (fun q => by rw [gT, Bool.and_eq_true] at q; exact r q.1)
theorem S_needG {Γ : Nat × (Nat → Int32)} {d : Nat} {Q : mQ} {σ : mS} {K P : Nat → Nat} {V : Nat → Int64} {M : Nat} {s : gP} (k : Nat) (h : tC σ K P V M) (hs : s.1 < M) (hk : k < 28)
    (hQ : Q (.inl none) 60 mSH (gS σ (gN K k s))) : mCall Γ M_X1_need (d + 2) 0 0 [.ref 24, .ref (1000 + k)] 60 mSH (gS σ s) Q := by
  have hC := gS_tC h s
  obtain ⟨i1, i2, i3⟩ := tC_in hC hs
  rw [← gS_1 σ s] at i1 i2 i3
  refine S_X1_need_24 (1000 + k) (by omega) (fun _ _ _ _ => i1) (fun _ _ _ _ => i2) (fun _ => i3) ?_
  rw [g_X1_need_24, gS_2, gS_X]
  rw [gN] at hQ
  by_cases r : s.2 = true
  · rw [if_neg (fun q => by rw [b01_0, r] at q; cases q), gS_A σ s r, gS_1, tC_kind hC hs]
    by_cases e : K s.1 = k
    · rw [if_pos (by rw [e])]
      rw [if_pos (by rw [gT, r, decide_eq_true e]; rfl)] at hQ; exact hQ
    · rw [if_neg (by omega)]
      rw [if_neg (fun q => by rw [gT, Bool.and_eq_true, decide_eq_true_eq] at q; exact e q.2)] at hQ; exact hQ
  · rw [if_pos (by rw [b01_0]; cases z : s.2; rfl; exact absurd z r)]
    rw [if_neg (fun q => by rw [gT, Bool.and_eq_true] at q; exact r q.1)] at hQ; exact hQ
theorem S_seesG {Γ : Nat × (Nat → Int32)} {d : Nat} {Q : mQ} {σ : mS} {K P : Nat → Nat} {V : Nat → Int64} {M : Nat} {s : gP} (k : Nat) (h : tC σ K P V M) (hs : s.1 < M) (hk : k < 28)
    (h1 : gT K k s = true → Q (.inl (some (.int 1))) 60 mSH (gS σ s)) (h0 : gT K k s ≠ true → Q (.inl (some (.int 0))) 60 mSH (gS σ s)) : mCall Γ M_X1_sees (d + 2) 0 0 [.ref 24, .ref (1000 + k)] 60 mSH (gS σ s) Q := by
  have hC := gS_tC h s
  obtain ⟨i1, i2, i3⟩ := tC_in hC hs
  rw [← gS_1 σ s] at i1 i2 i3
  refine S_X1_sees_24 (1000 + k) (by omega) (fun _ _ _ _ => i1) (fun _ _ _ _ => i2) (fun _ => i3) ?_
  rw [f_X1_sees_24, gS_2, gS_1, tC_kind hC hs]
  by_cases r : s.2 = true
  · rw [if_neg (fun q => by rw [b01_0, r] at q; cases q)]
    by_cases e : K s.1 = k
    · rw [if_pos (by rw [e])]; exact h1 (by rw [gT, r, decide_eq_true e]; rfl)
    · rw [if_neg (by omega)]; exact h0 (fun q => by rw [gT, Bool.and_eq_true, decide_eq_true_eq] at q; exact e q.2)
  · rw [if_pos (by rw [b01_0]; cases z : s.2; rfl; exact absurd z r)]
    exact h0 (fun q => by rw [gT, Bool.and_eq_true] at q; exact r q.1)
