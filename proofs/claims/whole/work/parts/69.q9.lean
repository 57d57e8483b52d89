/-! ===== the model reads the tokens ===== -/
def tapeM (σ : mS) (n : Nat) (f : Nat → Int32) : Prop := σ.1 26 2 = nI n ∧ ∀ i, i < n → σ.1 27 i = f i
def srt (k : Nat) : Nat := if k = 26 then 0 else if k = 27 then 1 else if k = 25 then 3 else if 21 ≤ k ∧ k ≤ 23 then 4 else 2
theorem srt_lt (k : Nat) : srt k < 5 := by
  rw [srt]
  by_cases a : k = 26
  · rw [if_pos a]; omega
  · rw [if_neg a]
    by_cases b : k = 27
    · rw [if_pos b]; omega
    · rw [if_neg b]
      by_cases c : k = 25
      · rw [if_pos c]; omega
      · rw [if_neg c]; split <;> omega
def vM (k : Nat) (v x : Int64) : Prop := ((k ≤ 20 ∨ k = 24 ∨ k = 25) → x = v) ∧ (21 ≤ k → k ≤ 23 → x = mKc k)
def rdM (σ τ : mS) (n : Nat) (f : Nat → Int32) (j : Nat) : Prop := (∀ a, a ≠ 26 → a ≠ 29 → a ≠ 30 → τ.1 a = σ.1 a) ∧ (∀ k, k ≠ 6 → τ.1 26 k = σ.1 26 k) ∧ (∀ a, a ≠ 31 → τ.2.1 a = σ.2.1 a) ∧ τ.2.2 = σ.2.2 ∧ τ.1 26 6 = nI j ∧ ∀ i, i < j → τ.1 29 i = nI (srt (KT n f i)) ∧ τ.1 30 i = nI (pT n f i) ∧ vM (KT n f i) (VT n f i) (τ.2.1 31 i)
theorem rdM_tape {σ τ : mS} {n : Nat} {f : Nat → Int32} {j : Nat} (h : rdM σ τ n f j) (ht : tapeM σ n f) : tapeM τ n f := by
  rw [tapeM, h.2.1 2 (by decide), h.1 27 (by decide) (by decide) (by decide)]; exact ht
theorem rdM_tok {σ τ : mS} {n : Nat} {f : Nat → Int32} {j s : Nat} (h : rdM σ τ n f j) (hj : j ≤ 400) (hs : s < 10) {p : Int32} {v : Int64} (hr : (if j = 400 ∧ s ≠ 0 then 1 else s) = srt (KT n f j)) (hp : p = nI (pT n f j)) (hv : vM (KT n f j) (VT n f j) v) : rdM σ (g_X9_token_26 τ (nI s) p v) n f (j + 1) := by
  obtain ⟨h1, h2, h3, h4, h5, h6⟩ := h
  subst hp
  have e : g_X9_token_26 τ (nI s) (nI (pT n f j)) v = mPI (mPL (mPI (mPI τ 29 j (nI (srt (KT n f j)))) 30 j (nI (pT n f j))) 31 j v) 26 6 (nI (j + 1)) := by
    rw [g_X9_token_26, h5, nI_clamp (by omega), nI_1, ← hr]
    by_cases a : j = 400
    · rw [if_pos (show nI j = 400 by rw [a]; decide)]
      by_cases b : s = 0
      · subst b; rw [if_pos (show nI 0 = 0 by decide), if_neg (by omega)]
      · rw [if_neg (fun q => b ((nI_eq (by omega) (by decide)).mp (q.trans nI_0.symm))), if_pos ⟨a, b⟩]; rfl
    · rw [if_neg (fun q => a ((nI_eq (by omega) (by decide)).mp (q.trans (show (400 : Int32) = nI 400 by decide)))), if_neg (fun q => a q.1)]
  rw [e]
  refine ⟨fun a a1 a2 a3 => ?_, fun k hk => ?_, fun a a1 => ?_, h4, ?_, fun i hi => ⟨?_, ?_, ?_⟩⟩
  · rw [mPI_ne a1]
    show (mPI (mPI τ 29 j (nI (srt (KT n f j)))) 30 j (nI (pT n f j))).1 a = _
    rw [mPI_ne a3, mPI_ne a2]; exact h1 a a1 a2 a3
  · rw [mPI_at, if_neg hk]
    show (mPI (mPI τ 29 j (nI (srt (KT n f j)))) 30 j (nI (pT n f j))).1 26 k = _
    rw [mPI_ne (by decide), mPI_ne (by decide)]; exact h2 k hk
  · show mU2 τ.2.1 31 j v a = _
    rw [mU2_ne a1]; exact h3 a a1
  · rw [mPI_at, if_pos rfl]
  · rw [mPI_ne (show 29 ≠ 26 by decide)]
    show (mPI (mPI τ 29 j (nI (srt (KT n f j)))) 30 j (nI (pT n f j))).1 29 i = _
    rw [mPI_ne (show 29 ≠ 30 by decide), mPI_at]
    by_cases q : i = j
    · subst q; rw [if_pos rfl]
    · rw [if_neg q]; exact (h6 i (by omega)).1
  · rw [mPI_ne (show 30 ≠ 26 by decide)]
    show (mPI (mPI τ 29 j (nI (srt (KT n f j)))) 30 j (nI (pT n f j))).1 30 i = _
    rw [mPI_at]
    by_cases q : i = j
    · subst q; rw [if_pos rfl]
    · rw [if_neg q, mPI_ne (show 30 ≠ 29 by decide)]; exact (h6 i (by omega)).2.1
  · show vM _ _ ((mPL (mPI (mPI τ 29 j (nI (srt (KT n f j)))) 30 j (nI (pT n f j))) 31 j v).2.1 31 i)
    rw [mPL_at]
    by_cases q : i = j
    · subst q; rw [if_pos rfl]; exact hv
    · rw [if_neg q]; exact (h6 i (by omega)).2.2
theorem isLetM (σ : mS) (x : Int32) : f_X9_isLetter σ x = 0 ↔ ¬ isL x := isLet σ x
theorem isDigM (σ : mS) (x : Int32) : f_X9_isDigit σ x = 0 ↔ ¬ isD x := isDig σ x
/-- the low byte of a word is its last letter or digit -/
theorem lo8 (a : Int64) {b : Nat} (hb : b < 256) {k : Nat} (hk : k < 8) : bB ((a <<< (Int32.toInt64 8 &&& 63)) ||| Int32.toInt64 (nI b)) k = bB (Int32.toInt64 (nI b)) k := by
  rw [bB_or]
  have : bB (a <<< (Int32.toInt64 8 &&& 63)) k = false := by
    rw [bB, Int64.toBitVec_shiftLeft, show (Int32.toInt64 8 &&& 63).toBitVec.smod 64 = 8#64 by decide]
    rw [BitVec.shiftLeft_eq', show (8#64 : BitVec 64).toNat = 8 by decide, BitVec.getLsbD_shiftLeft]
    simp [hk]
  rw [this, Bool.false_or]
theorem isW_b {x : Int32} (h : isW x) : ∃ b, b < 256 ∧ x = nI b ∧ b ≠ 59 ∧ b ≠ 91 ∧ b ≠ 93 ∧ b ≠ 0 := by
  have hx : ¬ x < 0 := fun q => by
    rcases h with z | z
    · exact z.1 (Int32.lt_trans q (by decide))
    · exact z.1 (Int32.lt_trans q (by decide))
  obtain ⟨j, hj, rfl⟩ := nI_of hx
  rcases h with z | z
  · rw [isL, show (97 : Int32) = nI 97 by decide, show (122 : Int32) = nI 122 by decide, nI_ltI hj (by omega), nI_ltI (by omega) hj] at z
    exact ⟨j, by omega, rfl, by omega, by omega, by omega, by omega⟩
  · rw [isD, show (48 : Int32) = nI 48 by decide, show (57 : Int32) = nI 57 by decide, nI_ltI hj (by omega), nI_ltI (by omega) hj] at z
    exact ⟨j, by omega, rfl, by omega, by omega, by omega, by omega⟩
def wlo (c : Int64) : Prop := ∃ b, b < 256 ∧ (b ≠ 59 ∧ b ≠ 91 ∧ b ≠ 93 ∧ b ≠ 0) ∧ ∀ k, k < 8 → bB c k = bB (Int32.toInt64 (nI b)) k
theorem wlo_s {a : Int64} {x : Int32} (h : isW x) : wlo ((a <<< (Int32.toInt64 8 &&& 63)) ||| Int32.toInt64 x) := by
  obtain ⟨b, hb, rfl, h1, h2, h3, h4⟩ := isW_b h
  exact ⟨b, hb, ⟨h1, h2, h3, h4⟩, fun k hk => lo8 a hb hk⟩
theorem wlo_V (f : Nat → Int32) : ∀ m i a, wlo a → wlo (wV f m i a)
  | 0, _, _, h => h
  | m + 1, i, a, h => by
    rw [wV]
    by_cases w : isW (f i)
    · rw [if_pos w]; exact wlo_V f m (i + 1) _ (wlo_s w)
    · rw [if_neg w]; exact h
theorem wlo_ne {c : Int64} (h : wlo c) : c ≠ 91 ∧ c ≠ 93 ∧ c ≠ 59 ∧ c ≠ 0 := by
  obtain ⟨b, hb, ⟨h1, h2, h3, h4⟩, hk⟩ := h
  have key : ∀ b, b < 256 → ∀ z, z < 256 → (∀ k, k < 8 → bB (Int32.toInt64 (nI z)) k = bB (Int32.toInt64 (nI b)) k) → z = b := by
    intro b hb z hz hh
    have e : ∀ b, b < 256 → ∀ k, k < 8 → bB (Int32.toInt64 (nI b)) k = b.testBit k := by decide +kernel
    apply Nat.eq_of_testBit_eq
    intro i
    by_cases q : i < 8
    · rw [← e z hz i q, ← e b hb i q]; exact hh i q
    · rw [Nat.testBit_lt_two_pow (Nat.lt_of_lt_of_le hz (Nat.pow_le_pow_right (n := 2) (by decide) (show 8 ≤ i by omega))), Nat.testBit_lt_two_pow (Nat.lt_of_lt_of_le hb (Nat.pow_le_pow_right (n := 2) (by decide) (show 8 ≤ i by omega)))]
  refine ⟨fun q => h2 ?_, fun q => h3 ?_, fun q => h1 ?_, fun q => h4 ?_⟩
  · subst q; exact (key b hb 91 (by omega) (fun k hk' => hk k hk')).symm
  · subst q; exact (key b hb 93 (by omega) (fun k hk' => hk k hk')).symm
  · subst q; exact (key b hb 59 (by omega) (fun k hk' => hk k hk')).symm
  · subst q; exact (key b hb 0 (by omega) (fun k hk' => hk k hk')).symm
theorem kwF_sp (c : Int64) (o : Nat) : ∀ m i, i + m = 28 → (kwF m i c o = o ∧ ∀ k, i ≤ k → k < 28 → ¬ (mKc k = c ∧ c ≠ 0)) ∨ (i ≤ kwF m i c o ∧ kwF m i c o < 28 ∧ mKc (kwF m i c o) = c ∧ c ≠ 0)
  | 0, i, hm => .inl ⟨rfl, fun k h1 h2 => by omega⟩
  | m + 1, i, hm => by
    rw [kwF]
    by_cases e : mKc i = c ∧ c ≠ 0
    · rw [if_pos e]; exact .inr ⟨Nat.le_refl _, by omega, e⟩
    · rw [if_neg e]
      rcases kwF_sp c o m (i + 1) (by omega) with ⟨h1, h2⟩ | ⟨h1, h2, h3⟩
      · refine .inl ⟨h1, fun k hk1 hk2 => ?_⟩
        by_cases q : k = i
        · subst q; exact e
        · exact h2 k (by omega) hk2
      · exact .inr ⟨by omega, h2, h3⟩
/-- a word is a keyword or a name -/
theorem kw_word {c : Int64} (h : wlo c) : (kwF 28 0 c 24 ≤ 20 ∧ mKc (kwF 28 0 c 24) = c) ∨ (kwF 28 0 c 24 = 24 ∧ ∀ k, k < 21 → mKc k ≠ c) := by
  obtain ⟨n1, n2, n3, n0⟩ := wlo_ne h
  rcases kwF_sp c 24 28 0 rfl with ⟨h1, h2⟩ | ⟨_, h2, h3, h4⟩
  · exact .inr ⟨h1, fun k hk e => h2 k (by omega) (by omega) ⟨e, n0⟩⟩
  · refine .inl ⟨?_, h3⟩
    have key : ∀ k, k < 28 → 20 < k → mKc k = 91 ∨ mKc k = 93 ∨ mKc k = 59 ∨ mKc k = 0 := by decide
    apply Classical.byContradiction
    intro q
    rcases key _ h2 (by omega) with e | e | e | e
    · exact n1 (h3.symm.trans e)
    · exact n2 (h3.symm.trans e)
    · exact n3 (h3.symm.trans e)
    · exact n0 (h3.symm.trans e)
theorem wV_at {n : Nat} (f : Nat → Int32) {p : Nat} (hp : p < n) (h : isL (f p)) : wV f (n - p) p 0 = wV f (n - p - 1) (p + 1) (Int32.toInt64 (f p)) ∧ wE f (n - p) p = wE f (n - p - 1) (p + 1) := by
  obtain ⟨k, hk⟩ : ∃ k, n - p = k + 1 := ⟨n - p - 1, by omega⟩
  rw [hk, Nat.add_sub_cancel, wV, wE, if_pos (.inl h), if_pos (.inl h)]
  refine ⟨?_, rfl⟩
  congr 1
  have : (0 : Int64) <<< (Int32.toInt64 8 &&& 63) = 0 := by decide
  rw [this, Int64.zero_or]
theorem wlo_tk {n : Nat} (f : Nat → Int32) {p : Nat} (hp : p < n) (h : isL (f p)) : wlo (wV f (n - p) p 0) := by
  obtain ⟨k, hk⟩ : ∃ k, n - p = k + 1 := ⟨n - p - 1, by omega⟩
  rw [hk, wV, if_pos (.inl h)]
  exact wlo_V f k (p + 1) _ (wlo_s (.inl h))
theorem nV_at {n : Nat} (f : Nat → Int32) {p : Nat} (hp : p < n) (h : isD (f p)) : nV f (n - p) p 0 = nV f (n - p - 1) (p + 1) (Int32.toInt64 (f p) - 48) ∧ nE f (n - p) p = nE f (n - p - 1) (p + 1) := by
  obtain ⟨k, hk⟩ : ∃ k, n - p = k + 1 := ⟨n - p - 1, by omega⟩
  rw [hk, Nat.add_sub_cancel, nV, nE, if_pos h, if_pos h]
  refine ⟨?_, rfl⟩
  congr 1
  simp
/-- a single byte that begins no word and no number -/
theorem kw_byte {b : Nat} (hb : b < 256) (h : ¬ isW (nI b)) : kwF 28 0 (Int32.toInt64 (nI b)) 27 = (if b = 91 then 21 else if b = 93 then 22 else if b = 59 then 23 else 27) := by
  have key : ∀ b, b < 256 → ¬ isW (nI b) → kwF 28 0 (Int32.toInt64 (nI b)) 27 = (if b = 91 then 21 else if b = 93 then 22 else if b = 59 then 23 else 27) := by decide +kernel
  exact key b hb h
theorem L_wordM {Γ : Nat × (Nat → Int32)} {d n0 bc bs : Nat} {Q : mQ} {τ : mS} {n p j : Nat} {f : Nat → Int32} (h : tapeM τ n f) (hn : n ≤ 2000) (ht : τ.1 26 6 = nI j) (hj : j ≤ 400) : ∀ m i a, i + m = n → p ≤ i →
    mK Γ M_X9_read (d + 2) Q n0 bc bs 307 [(0, .ref 26), (1, .int (nI (wE f m i)))] [] 60 mSH (g_X9_token_26 τ (nI (if wE f m i - p ≤ 8 then 2 else 1)) (nI p) (wV f m i a)) →
    mK Γ M_X9_read (d + 2) Q n0 bc bs 97 [(0, .ref 26), (1, .int (nI i)), (2, .int (nI p)), (3, .long a)] [] 60 mSH τ
  | m, i, a, hm, hp, hQ => by
    have v6 : vp_in (τ.1 26 6) 402 := by rw [ht]; exact vp_in_nI (by omega) (by omega)
    have sub : nI i - nI p = nI (i - p) := nI_sub hp
    have stop : wE f m i = i → wV f m i a = a → ((8 < nI i - nI p → ((¬ ((τ.1 26 6) = 400) → vp_in (τ.1 26 6) 402) ∧ ((((τ.1 26 6) = 400) → ¬ ((1 : Int32) = 0) → vp_in (τ.1 26 6) 402) ∧ mK Γ M_X9_read (d + 2) Q n0 bc bs 307 [(0, .ref 26), (1, .int (nI i))] [] 60 mSH (g_X9_token_26 τ 1 (nI p) a)))) ∧ (¬ (8 < nI i - nI p) → ((¬ ((τ.1 26 6) = 400) → vp_in (τ.1 26 6) 402) ∧ ((((τ.1 26 6) = 400) → ¬ ((2 : Int32) = 0) → vp_in (τ.1 26 6) 402) ∧ mK Γ M_X9_read (d + 2) Q n0 bc bs 307 [(0, .ref 26), (1, .int (nI i))] [] 60 mSH (g_X9_token_26 τ 2 (nI p) a))))) := by
      intro e1 e2
      rw [e1, e2] at hQ
      rw [sub, show (8 : Int32) = nI 8 by decide, nI_ltI (by omega) (by omega)]
      refine ⟨fun c => ⟨fun _ => v6, fun _ _ => v6, ?_⟩, fun c => ⟨fun _ => v6, fun _ _ => v6, ?_⟩⟩
      · rw [if_neg (by omega)] at hQ; exact hQ
      · rw [if_pos (by omega)] at hQ; exact hQ
    match m, hm with
    | 0, hm => exact T_X9_read_26_97 _ _ _ ⟨fun _ => stop rfl rfl, fun c => absurd (by rw [h.1]; exact nI_le (by omega) (by omega)) c⟩
    | m + 1, hm =>
      refine T_X9_read_26_97 _ _ _ ⟨fun c => absurd c (by rw [h.1]; exact nI_ge (by omega) (by omega)), fun _ => ⟨vp_in_nI (by omega) (by omega), ?_⟩⟩
      rw [nI_clamp (show i < 2 ^ 31 by omega), h.2 i (by omega), isLetM, isDigM, nI_1]
      have go : isW (f i) → mK Γ M_X9_read (d + 2) Q n0 bc bs 97 [(0, .ref 26), (1, .int (nI (i + 1))), (2, .int (nI p)), (3, .long ((a <<< (Int32.toInt64 8 &&& 63)) ||| (Int32.toInt64 (f i))))] [] 60 mSH τ := by
        intro w
        rw [wE, wV, if_pos w, if_pos w] at hQ
        exact L_wordM h hn ht hj m (i + 1) _ (by omega) (by omega) hQ
      refine ⟨fun c => ⟨fun c2 => ?_, fun c2 => go (.inr (Classical.not_not.mp c2))⟩, fun c => go (.inl (Classical.not_not.mp c))⟩
      have w : ¬ isW (f i) := fun q => q.elim c c2
      exact stop (by rw [wE, if_neg w]) (by rw [wV, if_neg w])
def nM (f : Nat → Int32) (p : Nat) : Nat → Nat → Int64 → Int64
  | 0, _, a => a
  | m + 1, i, a => if isD (f i) then nM f p m (i + 1) (if 6 ≤ i - p then a else ((10 * a) + Int32.toInt64 (f i)) - 48) else a
theorem nM_V (f : Nat → Int32) (p : Nat) : ∀ m i a, p ≤ i → nE f m i - p ≤ 6 → nM f p m i a = nV f m i a
  | 0, _, _, _, _ => rfl
  | m + 1, i, a, hp, he => by
    rw [nM, nV]
    rw [nE] at he
    by_cases w : isD (f i)
    · rw [if_pos w] at he ⊢
      rw [if_pos w]
      have := nE_le f m (i + 1)
      rw [if_neg (show ¬ 6 ≤ i - p by omega), nM_V f p m (i + 1) _ (by omega) he, Int64.mul_comm]
    · rw [if_neg w, if_neg w]
theorem L_numM {Γ : Nat × (Nat → Int32)} {d n0 bc bs : Nat} {Q : mQ} {τ : mS} {n p j : Nat} {f : Nat → Int32} (h : tapeM τ n f) (hn : n ≤ 2000) (ht : τ.1 26 6 = nI j) (hj : j ≤ 400) : ∀ m i a, i + m = n → p ≤ i →
    mK Γ M_X9_read (d + 2) Q n0 bc bs 307 [(0, .ref 26), (1, .int (nI (nE f m i)))] [] 60 mSH (g_X9_token_26 τ (nI (if nE f m i - p ≤ 6 then 3 else 1)) (nI p) (nM f p m i a)) →
    mK Γ M_X9_read (d + 2) Q n0 bc bs 191 [(0, .ref 26), (1, .int (nI i)), (2, .int (nI p)), (3, .long a)] [] 60 mSH τ
  | m, i, a, hm, hp, hQ => by
    have v6 : vp_in (τ.1 26 6) 402 := by rw [ht]; exact vp_in_nI (by omega) (by omega)
    have sub : nI i - nI p = nI (i - p) := nI_sub hp
    have stop : nE f m i = i → nM f p m i a = a → ((6 < nI i - nI p → ((¬ ((τ.1 26 6) = 400) → vp_in (τ.1 26 6) 402) ∧ ((((τ.1 26 6) = 400) → ¬ ((1 : Int32) = 0) → vp_in (τ.1 26 6) 402) ∧ mK Γ M_X9_read (d + 2) Q n0 bc bs 307 [(0, .ref 26), (1, .int (nI i))] [] 60 mSH (g_X9_token_26 τ 1 (nI p) a)))) ∧ (¬ (6 < nI i - nI p) → ((¬ ((τ.1 26 6) = 400) → vp_in (τ.1 26 6) 402) ∧ ((((τ.1 26 6) = 400) → ¬ ((3 : Int32) = 0) → vp_in (τ.1 26 6) 402) ∧ mK Γ M_X9_read (d + 2) Q n0 bc bs 307 [(0, .ref 26), (1, .int (nI i))] [] 60 mSH (g_X9_token_26 τ 3 (nI p) a))))) := by
      intro e1 e2
      rw [e1, e2] at hQ
      rw [sub, show (6 : Int32) = nI 6 by decide, nI_ltI (by omega) (by omega)]
      refine ⟨fun c => ⟨fun _ => v6, fun _ _ => v6, ?_⟩, fun c => ⟨fun _ => v6, fun _ _ => v6, ?_⟩⟩
      · rw [if_neg (by omega)] at hQ; exact hQ
      · rw [if_pos (by omega)] at hQ; exact hQ
    match m, hm with
    | 0, hm => exact T_X9_read_26_191 _ _ _ ⟨fun _ => stop rfl rfl, fun c => absurd (by rw [h.1]; exact nI_le (by omega) (by omega)) c⟩
    | m + 1, hm =>
      refine T_X9_read_26_191 _ _ _ ⟨fun c => absurd c (by rw [h.1]; exact nI_ge (by omega) (by omega)), fun _ => ⟨vp_in_nI (by omega) (by omega), ?_⟩⟩
      rw [nI_clamp (show i < 2 ^ 31 by omega), h.2 i (by omega), isDigM, nI_1]
      refine ⟨fun c => stop (by rw [nE, if_neg c]) (by rw [nM, if_neg c]), fun c => ?_⟩
      have w : isD (f i) := Classical.not_not.mp c
      rw [nE, nM, if_pos w, if_pos w] at hQ
      rw [sub, show (6 : Int32) = nI 6 by decide, nI_leI (by omega) (by omega)]
      refine ⟨fun q => ?_, fun q => ?_⟩
      · rw [if_pos q] at hQ; exact L_numM h hn ht hj m (i + 1) _ (by omega) (by omega) hQ
      · rw [if_neg q] at hQ; exact L_numM h hn ht hj m (i + 1) _ (by omega) (by omega) hQ
theorem L_skipM {Γ : Nat × (Nat → Int32)} {d n0 bc bs : Nat} {Q : mQ} {τ : mS} {n : Nat} {f : Nat → Int32} (h : tapeM τ n f) (hn : n ≤ 2000) : ∀ m i, i + m = n →
    mK Γ M_X9_read (d + 2) Q n0 bc bs 53 [(0, .ref 26), (1, .int (nI (skN f m i)))] [] 60 mSH τ → mK Γ M_X9_read (d + 2) Q n0 bc bs 17 [(0, .ref 26), (1, .int (nI i))] [] 60 mSH τ
  | 0, i, hm, hQ => T_X9_read_26_17 _ ⟨fun _ => hQ, fun c => absurd (by rw [h.1]; exact nI_le (by omega) (by omega)) c⟩
  | m + 1, i, hm, hQ => by
    rw [skN] at hQ
    refine T_X9_read_26_17 _ ⟨fun c => absurd c (by rw [h.1]; exact nI_ge (by omega) (by omega)), fun _ => ⟨vp_in_nI (by omega) (by omega), ?_⟩⟩
    rw [nI_clamp (by omega), h.2 i (by omega), nI_1]
    refine ⟨fun c => ?_, fun c => ⟨fun c2 => ?_, fun c2 => ?_⟩⟩
    · rw [if_pos (.inl c)] at hQ; exact L_skipM h hn m (i + 1) (by omega) hQ
    · rw [if_pos (.inr c2)] at hQ; exact L_skipM h hn m (i + 1) (by omega) hQ
    · rw [if_neg (fun q => q.elim c c2)] at hQ; exact hQ
/-- bytes of a tape -/
def bytes (n : Nat) (f : Nat → Int32) : Prop := ∀ i, i < n → ∃ b, b < 256 ∧ f i = nI b
theorem L_read {Γ : Nat × (Nat → Int32)} {d n0 bc bs : Nat} {Q : mQ} {σ : mS} {n : Nat} {f : Nat → Int32} (h : tapeM σ n f) (hn : n ≤ 2000) (hb : bytes n f)
    (hQ : ∀ E τ, E ≤ 400 → rdM σ τ n f (E + 1) → (KT n f E = 26 ∨ KT n f E = 27) → (∀ j, j < E → KT n f j < 26) → Q (.inl none) 60 mSH τ) :
    ∀ m j, j + m = 401 → j ≤ 400 → (∀ i, i < j → KT n f i < 26) → ∀ τ, rdM σ τ n f j → mK Γ M_X9_read (d + 2) Q n0 bc bs 53 [(0, .ref 26), (1, .int (nI (pT n f j)))] [] 60 mSH τ
  | 0, j, hm, hj, _, _, _ => by omega
  | m + 1, j, hm, hj, hpre, τ, hR => by
    have ht := rdM_tape hR h
    have pl := pT_le n f j
    have e6 : τ.1 26 6 = nI j := hR.2.2.2.2.1
    have v6 : vp_in (τ.1 26 6) 402 := by rw [e6]; exact vp_in_nI (by omega) (by omega)
    -- behind a token
    have nxt : ∀ s x v, s < 10 → s ≠ 0 → pT n f j < n → x = tkE n f (pT n f j) → (if j = 400 ∧ s ≠ 0 then 1 else s) = srt (KT n f j) → vM (KT n f j) (VT n f j) v →
        mK Γ M_X9_read (d + 2) Q n0 bc bs 307 [(0, .ref 26), (1, .int (nI x))] [] 60 mSH (g_X9_token_26 τ (nI s) (nI (pT n f j)) v) := by
      intro s x v hs hs0 hp hx hr hv
      subst hx
      have hR' := rdM_tok hR hj hs hr rfl hv
      have e6' : (g_X9_token_26 τ (nI s) (nI (pT n f j)) v).1 26 6 = nI (j + 1) := hR'.2.2.2.2.1
      have e29 := (hR'.2.2.2.2.2 j (by omega)).1
      have kl := KT_lt n f j
      refine T_X9_read_26_307 _ ?_
      rw [e6', nI_pred, nI_clamp (by omega), e29]
      refine ⟨vp_in_nI (by omega) (by omega), fun c => ?_, fun c => ?_⟩
      · have : KT n f j = 27 := by
          have c' : srt (KT n f j) = 1 := (nI_eq (by have := srt_lt (KT n f j); omega) (by decide)).mp (c.trans (show (1 : Int32) = nI 1 by decide))
          rw [srt] at c'
          repeat' split at c'
          all_goals omega
        exact hQ j _ hj hR' (.inr this) hpre
      · have k26 : KT n f j ≠ 26 := fun q => by
          rw [q] at hr
          rw [show srt 26 = 0 from rfl] at hr
          split at hr <;> omega
        have k27 : KT n f j ≠ 27 := fun q => c (by rw [q]; decide)
        have j400 : j ≠ 400 := fun q => k27 (by rw [KT, if_pos hp, if_neg (by omega)])
        refine T_X9_read_26_7 _ ⟨fun c2 => absurd c2 (by rw [e6', i400]; exact nI_nlt (by omega) (by omega)), fun _ => ?_⟩
        refine L_skipM (rdM_tape hR' h) hn (n - tkE n f (pT n f j)) (tkE n f (pT n f j)) (by have := tkE_le f hp; omega) ?_
        have ih := L_read (Γ := Γ) (d := d) (n0 := n0) (bc := bc) (bs := bs) h hn hb hQ m (j + 1) (by omega) (by omega) (fun i hi => by
          by_cases q : i = j
          · subst q; omega
          · exact hpre i (by omega)) _ hR'
        rw [pT, if_pos hp] at ih
        exact ih
    refine T_X9_read_26_53 _ ⟨fun c => ?_, fun c => ⟨?_, ?_⟩⟩
    · rw [ht.1, nI_eq (by omega) (by omega)] at c
      have ek : KT n f j = 26 := by rw [KT, if_neg (by omega)]
      refine ⟨fun _ => v6, fun _ _ => v6, ?_⟩
      refine hQ j _ hj ?_ (.inl ek) hpre
      exact rdM_tok (s := 0) hR hj (by omega) (by rw [ek]; simp [srt]) (by rw [ht.1, c]) ⟨fun q => by rw [ek] at q; omega, fun q1 q2 => by rw [ek] at q2; omega⟩
    · rw [ht.1, nI_eq (by omega) (by omega)] at c
      exact vp_in_nI (by omega) (by omega)
    · rw [ht.1, nI_eq (by omega) (by omega)] at c
      have hp : pT n f j < n := by omega
      rw [nI_clamp (show pT n f j < 2 ^ 31 by omega), ht.2 _ hp, isLetM, isDigM, nI_1]
      refine ⟨fun cl => ⟨fun cd => ?_, fun cd => ?_⟩, fun cl => ?_⟩
      · obtain ⟨b, hb', eb⟩ := hb _ hp
        have hw : ¬ isW (nI b) := by rw [← eb]; exact fun q => q.elim cl cd
        have kb := kw_byte hb' hw
        have eE : tkE n f (pT n f j) = pT n f j + 1 := by rw [tkE, if_neg cl, if_neg cd]
        have eK : tkK n f (pT n f j) = kwF 28 0 (Int32.toInt64 (nI b)) 27 := by rw [tkK, if_neg cl, if_neg cd, eb]
        have eKT : j < 400 → KT n f j = kwF 28 0 (Int32.toInt64 (nI b)) 27 := fun q => by rw [KT, if_pos hp, if_pos q, eK]
        have eK4 : ¬ j < 400 → KT n f j = 27 := fun q => by rw [KT, if_pos hp, if_neg q]
        have li : ∀ z, z < 256 → (Int32.toInt64 (nI b) = Int32.toInt64 (nI z) ↔ b = z) := fun z hz => by
          constructor
          · intro q
            have := congrArg Int64.toInt32 q
            rw [Int32.toInt32_toInt64, Int32.toInt32_toInt64] at this
            exact (nI_eq (by omega) (by omega)).mp this
          · intro q; rw [q]
        rw [eb, show (91 : Int64) = Int32.toInt64 (nI 91) by decide, show (93 : Int64) = Int32.toInt64 (nI 93) by decide, show (59 : Int64) = Int32.toInt64 (nI 59) by decide, li 91 (by omega), li 93 (by omega), li 59 (by omega)]
        have sym : ∀ k, (21 ≤ k ∧ k ≤ 23) → kwF 28 0 (Int32.toInt64 (nI b)) 27 = k → mKc k = Int32.toInt64 (nI b) → mK Γ M_X9_read (d + 2) Q n0 bc bs 307 [(0, .ref 26), (1, .int (nI (pT n f j + 1)))] [] 60 mSH (g_X9_token_26 τ 4 (nI (pT n f j)) (Int32.toInt64 (nI b))) := by
          intro k hk ek em
          refine nxt 4 _ _ (by omega) (by omega) hp eE.symm ?_ ?_
          · by_cases q : j < 400
            · rw [if_neg (by omega), eKT q, ek, srt, if_neg (by omega), if_neg (by omega), if_neg (by omega), if_pos hk]
            · rw [if_pos ⟨by omega, by omega⟩, eK4 q]; rfl
          · by_cases q : j < 400
            · rw [eKT q, ek]; exact ⟨fun z => by omega, fun _ _ => em.symm⟩
            · rw [eK4 q]; exact ⟨fun z => by omega, fun _ z => by omega⟩
        refine ⟨fun q => ⟨fun _ => v6, fun _ _ => v6, ?_⟩, fun q => ⟨fun q2 => ⟨fun _ => v6, fun _ _ => v6, ?_⟩, fun q2 => ⟨fun q3 => ⟨fun _ => v6, fun _ _ => v6, ?_⟩, fun q3 => ⟨fun _ => v6, fun _ _ => v6, ?_⟩⟩⟩⟩
        · rw [if_pos q] at kb; exact sym 21 (by omega) kb (by rw [q]; decide)
        · rw [if_neg q, if_pos q2] at kb; exact sym 22 (by omega) kb (by rw [q2]; decide)
        · rw [if_neg q, if_neg q2, if_pos q3] at kb; exact sym 23 (by omega) kb (by rw [q3]; decide)
        · rw [if_neg q, if_neg q2, if_neg q3] at kb
          have ek : KT n f j = 27 := by
            by_cases z : j < 400
            · rw [eKT z, kb]
            · exact eK4 z
          exact nxt 1 _ _ (by omega) (by omega) hp eE.symm (by rw [ek]; split <;> rfl) (by rw [ek]; exact ⟨fun z => by omega, fun _ z => by omega⟩)
      · have w : isD (f (pT n f j)) := Classical.not_not.mp cd
        obtain ⟨e1, e2⟩ := nV_at f hp w
        have eE : tkE n f (pT n f j) = nE f (n - pT n f j - 1) (pT n f j + 1) := by rw [tkE, if_neg cl, if_pos w, e2]
        refine L_numM ht hn e6 hj (n - pT n f j - 1) (pT n f j + 1) _ (by omega) (by omega) ?_
        by_cases c6 : nE f (n - pT n f j - 1) (pT n f j + 1) - pT n f j ≤ 6
        · rw [if_pos c6]
          have ek : j < 400 → KT n f j = 25 ∧ VT n f j = nM f (pT n f j) (n - pT n f j - 1) (pT n f j + 1) (Int32.toInt64 (f (pT n f j)) - 48) := fun q => by
            rw [KT, VT, if_pos hp, if_pos q, if_pos hp, if_pos q, tkK, tkV, if_neg cl, if_pos w, if_neg cl, if_pos w, e1, e2, if_pos c6, nM_V f _ _ _ _ (by omega) c6]
            exact ⟨rfl, rfl⟩
          have e4 : ¬ j < 400 → KT n f j = 27 := fun q => by rw [KT, if_pos hp, if_neg q]
          refine nxt 3 _ _ (by omega) (by omega) hp eE.symm ?_ ?_
          · by_cases q : j < 400
            · rw [if_neg (by omega), (ek q).1]; rfl
            · rw [if_pos ⟨by omega, by omega⟩, e4 q]; rfl
          · by_cases q : j < 400
            · rw [(ek q).1]; exact ⟨fun _ => (ek q).2.symm, fun z1 z2 => by omega⟩
            · rw [e4 q]; exact ⟨fun z => by omega, fun _ z => by omega⟩
        · rw [if_neg c6]
          have ek : KT n f j = 27 := by
            rw [KT, if_pos hp]
            split
            · rw [tkK, if_neg cl, if_pos w, e2, if_neg c6]
            · rfl
          exact nxt 1 _ _ (by omega) (by omega) hp eE.symm (by rw [ek]; split <;> rfl) (by rw [ek]; exact ⟨fun z => by omega, fun _ z => by omega⟩)
      · have w : isL (f (pT n f j)) := Classical.not_not.mp cl
        obtain ⟨e1, e2⟩ := wV_at f hp w
        have hlo := wlo_tk f hp w
        have eE : tkE n f (pT n f j) = wE f (n - pT n f j - 1) (pT n f j + 1) := by rw [tkE, if_pos w, e2]
        refine L_wordM ht hn e6 hj (n - pT n f j - 1) (pT n f j + 1) _ (by omega) (by omega) ?_
        rw [← e1]
        by_cases c8 : wE f (n - pT n f j - 1) (pT n f j + 1) - pT n f j ≤ 8
        · rw [if_pos c8]
          have ek : j < 400 → KT n f j = kwF 28 0 (wV f (n - pT n f j) (pT n f j) 0) 24 ∧ VT n f j = wV f (n - pT n f j) (pT n f j) 0 := fun q => by
            rw [KT, VT, if_pos hp, if_pos q, if_pos hp, if_pos q, tkK, tkV, if_pos w, if_pos w, e2, if_pos c8]
            exact ⟨rfl, rfl⟩
          have e4 : ¬ j < 400 → KT n f j = 27 := fun q => by rw [KT, if_pos hp, if_neg q]
          have kk := kw_word hlo
          refine nxt 2 _ _ (by omega) (by omega) hp eE.symm ?_ ?_
          · by_cases q : j < 400
            · rw [if_neg (by omega), (ek q).1, srt]
              rcases kk with z | z
              · rw [if_neg (by omega), if_neg (by omega), if_neg (by omega), if_neg (by omega)]
              · rw [z.1]; rfl
            · rw [if_pos ⟨by omega, by omega⟩, e4 q]; rfl
          · by_cases q : j < 400
            · refine ⟨fun _ => (ek q).2.symm, fun z1 z2 => ?_⟩
              rw [(ek q).1] at z1 z2
              rcases kk with z | z <;> omega
            · rw [e4 q]; exact ⟨fun z => by omega, fun _ z => by omega⟩
        · rw [if_neg c8]
          have ek : KT n f j = 27 := by
            rw [KT, if_pos hp]
            split
            · rw [tkK, if_pos w, e2, if_neg c8]
            · rfl
          exact nxt 1 _ _ (by omega) (by omega) hp eE.symm (by rw [ek]; split <;> rfl) (by rw [ek]; exact ⟨fun z => by omega, fun _ z => by omega⟩)
theorem S_read {Γ : Nat × (Nat → Int32)} {d : Nat} {Q : mQ} {σ : mS} {n : Nat} {f : Nat → Int32} (h : tapeM σ n f) (hn : n ≤ 2000) (hb : bytes n f)
    (hQ : ∀ E τ, E ≤ 400 → rdM σ τ n f (E + 1) → (KT n f E = 26 ∨ KT n f E = 27) → (∀ j, j < E → KT n f j < 26) → Q (.inl none) 60 mSH τ) : mCall Γ M_X9_read (d + 2) 0 0 [.ref 26] 60 mSH σ Q := by
  refine E_X9_read_26 ?_
  have hR : rdM σ (mPI σ 26 6 0) n f 0 := ⟨fun a a1 _ _ => mPI_ne a1, fun k hk => by rw [mPI_at, if_neg hk], fun _ _ => rfl, rfl, by rw [mPI_at, if_pos rfl]; rfl, fun i hi => absurd hi (Nat.not_lt_zero _)⟩
  refine T_X9_read_26_7 _ ⟨fun c => absurd c (by rw [hR.2.2.2.2.1]; decide), fun _ => ?_⟩
  refine L_skipM (rdM_tape hR h) hn n 0 (Nat.zero_add _) ?_
  exact L_read h hn hb hQ 401 0 rfl (by omega) (fun i hi => absurd hi (Nat.not_lt_zero _)) _ hR
