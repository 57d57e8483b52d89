/-! ===== the tokens of a tape: in numbers ===== -/
abbrev isL (x : Int32) : Prop := ¬ x < 97 ∧ ¬ 122 < x
abbrev isD (x : Int32) : Prop := ¬ x < 48 ∧ ¬ 57 < x
abbrev isW (x : Int32) : Prop := isL x ∨ isD x
abbrev isB (x : Int32) : Prop := x = 32 ∨ x = 10
theorem isLet (σ : mS) (x : Int32) : f_X6_isLetter σ x = 0 ↔ ¬ isL x := by
  rw [f_X6_isLetter]
  by_cases a : x < 97
  · rw [if_pos a]; exact ⟨fun _ q => q.1 a, fun _ => rfl⟩
  · rw [if_neg a]
    by_cases b : 122 < x
    · rw [if_pos b]; exact ⟨fun _ q => q.2 b, fun _ => rfl⟩
    · rw [if_neg b]; exact ⟨fun q => absurd q (by decide), fun q => absurd ⟨a, b⟩ q⟩
theorem isDig (σ : mS) (x : Int32) : f_X6_isDigit σ x = 0 ↔ ¬ isD x := by
  rw [f_X6_isDigit]
  by_cases a : x < 48
  · rw [if_pos a]; exact ⟨fun _ q => q.1 a, fun _ => rfl⟩
  · rw [if_neg a]
    by_cases b : 57 < x
    · rw [if_pos b]; exact ⟨fun _ q => q.2 b, fun _ => rfl⟩
    · rw [if_neg b]; exact ⟨fun q => absurd q (by decide), fun q => absurd ⟨a, b⟩ q⟩
def skN (f : Nat → Int32) : Nat → Nat → Nat
  | 0, i => i
  | m + 1, i => if isB (f i) then skN f m (i + 1) else i
def wE (f : Nat → Int32) : Nat → Nat → Nat
  | 0, i => i
  | m + 1, i => if isW (f i) then wE f m (i + 1) else i
def wV (f : Nat → Int32) : Nat → Nat → Int64 → Int64
  | 0, _, a => a
  | m + 1, i, a => if isW (f i) then wV f m (i + 1) ((a <<< (Int32.toInt64 8 &&& 63)) ||| Int32.toInt64 (f i)) else a
def nE (f : Nat → Int32) : Nat → Nat → Nat
  | 0, i => i
  | m + 1, i => if isD (f i) then nE f m (i + 1) else i
def nV (f : Nat → Int32) : Nat → Nat → Int64 → Int64
  | 0, _, a => a
  | m + 1, i, a => if isD (f i) then nV f m (i + 1) (((a * 10) + Int32.toInt64 (f i)) - 48) else a
theorem skN_le (f : Nat → Int32) : ∀ m i, i ≤ skN f m i ∧ skN f m i ≤ i + m
  | 0, i => ⟨Nat.le_refl _, Nat.le_refl _⟩
  | m + 1, i => by
    have := skN_le f m (i + 1)
    rw [skN]; split <;> omega
theorem wE_le (f : Nat → Int32) : ∀ m i, i ≤ wE f m i ∧ wE f m i ≤ i + m
  | 0, i => ⟨Nat.le_refl _, Nat.le_refl _⟩
  | m + 1, i => by
    have := wE_le f m (i + 1)
    rw [wE]; split <;> omega
theorem nE_le (f : Nat → Int32) : ∀ m i, i ≤ nE f m i ∧ nE f m i ≤ i + m
  | 0, i => ⟨Nat.le_refl _, Nat.le_refl _⟩
  | m + 1, i => by
    have := nE_le f m (i + 1)
    rw [nE]; split <;> omega
def kwF : Nat → Nat → Int64 → Nat → Nat
  | 0, _, _, o => o
  | m + 1, i, c, o => if mKc i = c ∧ c ≠ 0 then i else kwF m (i + 1) c o
theorem kwF_le (c : Int64) (o : Nat) : ∀ m i, i + m = 28 → o < 28 → kwF m i c o < 28
  | 0, i, _, h => h
  | m + 1, i, hm, h => by
    have := kwF_le c o m (i + 1) (by omega) h
    rw [kwF]; split <;> omega
def tkE (n : Nat) (f : Nat → Int32) (i : Nat) : Nat := if isL (f i) then wE f (n - i) i else if isD (f i) then nE f (n - i) i else i + 1
def tkK (n : Nat) (f : Nat → Int32) (i : Nat) : Nat := if isL (f i) then (if wE f (n - i) i - i ≤ 8 then kwF 28 0 (wV f (n - i) i 0) 24 else 27) else if isD (f i) then (if nE f (n - i) i - i ≤ 6 then 25 else 27) else kwF 28 0 (Int32.toInt64 (f i)) 27
def tkV (n : Nat) (f : Nat → Int32) (i : Nat) : Int64 := if isL (f i) then wV f (n - i) i 0 else if isD (f i) then nV f (n - i) i 0 else 0
theorem tkK_lt (n : Nat) (f : Nat → Int32) (i : Nat) : tkK n f i < 28 := by
  rw [tkK]
  split
  · split
    · exact kwF_le _ _ 28 0 rfl (by omega)
    · omega
  · split
    · split <;> omega
    · exact kwF_le _ _ 28 0 rfl (by omega)
theorem tkE_le {n : Nat} (f : Nat → Int32) {i : Nat} (h : i < n) : i < tkE n f i ∧ tkE n f i ≤ n := by
  obtain ⟨k, hk⟩ : ∃ k, n - i = k + 1 := ⟨n - i - 1, by omega⟩
  have hw := wE_le f k (i + 1)
  have hd := nE_le f k (i + 1)
  rw [tkE, hk]
  by_cases a : isL (f i)
  · rw [if_pos a, wE, if_pos (.inl a)]; omega
  · rw [if_neg a]
    by_cases b : isD (f i)
    · rw [if_pos b, nE, if_pos b]; omega
    · rw [if_neg b]; omega
def pT (n : Nat) (f : Nat → Int32) : Nat → Nat
  | 0 => skN f n 0
  | j + 1 => if pT n f j < n then skN f (n - tkE n f (pT n f j)) (tkE n f (pT n f j)) else pT n f j
def KT (n : Nat) (f : Nat → Int32) (j : Nat) : Nat := if pT n f j < n then (if j < 400 then tkK n f (pT n f j) else 27) else 26
def VT (n : Nat) (f : Nat → Int32) (j : Nat) : Int64 := if pT n f j < n then (if j < 400 then tkV n f (pT n f j) else 0) else 0
theorem pT_le (n : Nat) (f : Nat → Int32) : ∀ j, pT n f j ≤ n
  | 0 => by have := skN_le f n 0; rw [pT]; omega
  | j + 1 => by
    have ih := pT_le n f j
    rw [pT]
    by_cases h : pT n f j < n
    · rw [if_pos h]
      have h1 := tkE_le f h
      have := skN_le f (n - tkE n f (pT n f j)) (tkE n f (pT n f j))
      omega
    · rw [if_neg h]; exact ih
theorem KT_lt (n : Nat) (f : Nat → Int32) (j : Nat) : KT n f j < 28 := by
  rw [KT]
  split
  · split
    · exact tkK_lt ..
    · omega
  · omega
/-! ===== the class reads them ===== -/
def tapeC (σ : mS) (n : Nat) (f : Nat → Int32) : Prop := σ.1 1 1 = nI n ∧ ∀ i, i < n → σ.1 2 i &&& 255 = f i
theorem at_f {σ : mS} {n : Nat} {f : Nat → Int32} (h : tapeC σ n f) (hn : n ≤ 2000) {i : Nat} (hi : i < n) : f_X3_at_1 σ (nI i) = f i := by
  rw [f_X3_at_1, if_neg (nI_pos (by omega)), h.1, if_neg (nI_ge hi (by omega)), if_neg (by rw [show (2000 : Int32) = nI 2000 by decide]; exact nI_ge (by omega) (by omega)), nI_clamp (by omega), h.2 i hi]
theorem nI_sub {a b : Nat} (h : b ≤ a) : nI a - nI b = nI (a - b) := by
  have : nI a = nI (a - b) + nI b := by rw [nI_add]; congr 1; omega
  rw [this, Int32.add_sub_cancel]
theorem sz401 {x : Int32} : ¬ x < 0 → ¬ 400 < x → vp_in x 401 := fun h0 h1 => by
  obtain ⟨j, hj, rfl⟩ := nI_of h0
  rw [show (400 : Int32) = nI 400 by decide, nI_ltI (by omega) hj] at h1
  exact vp_in_nI (by omega) (by omega)
theorem L_skip {Γ : Nat × (Nat → Int32)} {d n0 bc bs : Nat} {Q : mQ} {σ : mS} {n : Nat} {f : Nat → Int32} (h : tapeC σ n f) (hn : n ≤ 2000) : ∀ m i, i + m = n → Q (.inl (some (.int (nI (skN f m i))))) 60 mSH σ →
    mK Γ M_X6_behindBlanks (d + 2) Q n0 bc bs 2 [(0, .ref 1), (2, .int (nI i))] [] 60 mSH σ
  | 0, i, hm, hQ => T_X6_behindBlanks_1_2 _ ⟨fun _ => hQ, fun c => absurd (by rw [show f_X3_length_1 σ = nI n from h.1]; exact nI_le (by omega) (by omega)) c⟩
  | m + 1, i, hm, hQ => by
    rw [skN] at hQ
    refine T_X6_behindBlanks_1_2 _ ⟨fun c => absurd c (by rw [show f_X3_length_1 σ = nI n from h.1]; exact nI_ge (by omega) (by omega)), fun _ => ?_⟩
    rw [at_f h hn (by omega), nI_1]
    refine ⟨fun c => ?_, fun c => ⟨fun c2 => ?_, fun c2 => ?_⟩⟩
    · rw [if_pos (.inl c)] at hQ; exact L_skip h hn m (i + 1) (by omega) hQ
    · rw [if_pos (.inr c2)] at hQ; exact L_skip h hn m (i + 1) (by omega) hQ
    · rw [if_neg (fun q => q.elim c c2)] at hQ; exact hQ
theorem S_skip {Γ : Nat × (Nat → Int32)} {d : Nat} {Q : mQ} {σ : mS} {n : Nat} {f : Nat → Int32} (h : tapeC σ n f) (hn : n ≤ 2000) {i : Nat} (hi : i ≤ n) (hQ : Q (.inl (some (.int (nI (skN f (n - i) i))))) 60 mSH σ) : mCall Γ M_X6_behindBlanks (d + 2) 0 0 [.ref 1, .int (nI i)] 60 mSH σ Q :=
  E_X6_behindBlanks_1 (nI i) (L_skip h hn (n - i) i (by omega) hQ)
theorem i28 : (28 : Int32) = nI 28 := by decide
theorem L_withCode {Γ : Nat × (Nat → Int32)} {d n0 bc bs : Nat} {Q : mQ} {σ : mS} {c : Int64} {o : Nat} (ho : o < 28) : ∀ m i, i + m = 28 → Q (.inl (some (.ref (1000 + kwF m i c o)))) 60 mSH σ →
    mK Γ M_X2_withCode (d + 1) Q n0 bc bs 11 [(0, .long c), (2, .ref (1000 + o)), (3, .ref 1100), (4, .int 28), (5, .int (nI i))] [] 60 mSH σ
  | 0, i, hm, hQ => T_X2_withCode_11 _ _ _ _ (by omega) ⟨fun _ => hQ, fun q => absurd (by rw [i28]; exact nI_le (by omega) (by omega)) q⟩
  | m + 1, i, hm, hQ => by
    rw [kwF] at hQ
    refine T_X2_withCode_11 _ _ _ _ (by omega) ⟨fun q => absurd q (by rw [i28]; exact nI_ge (by omega) (by omega)), fun _ => ?_⟩
    rw [nI_clamp (by omega), Nat.add_sub_cancel_left, nI_1]
    refine ⟨vp_in_nI (by omega) (by omega), by omega, fun e => ⟨fun z => ?_, fun z => ?_⟩, fun e => ?_⟩
    · rw [if_neg (fun q => q.2 z)] at hQ; exact L_withCode ho m (i + 1) (by omega) hQ
    · rw [if_pos ⟨e, z⟩] at hQ; exact hQ
    · rw [if_neg (fun q => e q.1)] at hQ; exact L_withCode ho m (i + 1) (by omega) hQ
theorem S_withCode {Γ : Nat × (Nat → Int32)} {d : Nat} {Q : mQ} {σ : mS} (c : Int64) (o : Nat) (ho : o < 28) (hQ : Q (.inl (some (.ref (1000 + kwF 28 0 c o)))) 60 mSH σ) : mCall Γ M_X2_withCode (d + 1) 0 0 [.long c, .ref (1000 + o)] 60 mSH σ Q :=
  E_X2_withCode c (1000 + o) (by omega) (L_withCode ho 28 0 rfl hQ)
theorem L_word {Γ : Nat × (Nat → Int32)} {d n0 bc bs : Nat} {Q : mQ} {σ : mS} {n p : Nat} {f : Nat → Int32} (h : tapeC σ n f) (hn : n ≤ 2000) : ∀ m i a, i + m = n → p ≤ i →
    Q (.inl (some (.int (nI (wE f m i))))) 60 mSH (g_X6_put_20 σ (1000 + (if wE f m i - p ≤ 8 then kwF 28 0 (wV f m i a) 24 else 27)) (nI p) (wV f m i a)) →
    mK Γ M_X6_readWord (d + 2) Q n0 bc bs 5 [(0, .ref 20), (1, .ref 1), (2, .int (nI p)), (3, .long a), (5, .int (nI i))] [] 60 mSH σ
  | m, i, a, hm, hp, hQ => by
    have done : wE f m i = i → wV f m i a = a → ((nI i - nI p ≤ 8 → mCall Γ M_X2_withCode (d + 1) 0 0 [.long a, .ref 1024] 60 mSH σ (mRt Γ M_X6_readWord (d + 2) Q n0 bc bs 92 [(0, .ref 20), (1, .ref 1), (2, .int (nI p)), (3, .long a), (5, .int (nI i)), (6, .int 0)] [.ref 20])) ∧ (¬ (nI i - nI p ≤ 8) → ((¬ ((σ.1 20 3) < 0) → ¬ (400 < (σ.1 20 3)) → vp_in (σ.1 20 3) 401) ∧ Q (.inl (some (.int (nI i)))) 60 mSH (g_X6_put_20 σ 1027 (nI p) a)))) := by
      intro e1 e2
      rw [e1, e2] at hQ
      rw [nI_sub hp, show (8 : Int32) = nI 8 by decide, nI_leI (by omega) (by omega)]
      refine ⟨fun c => ?_, fun c => ⟨sz401, ?_⟩⟩
      · rw [if_pos c] at hQ
        refine S_withCode a 24 (by omega) ?_
        exact T_X6_readWord_20_1_92a _ _ _ _ _ (by have := kwF_le a 24 28 0 rfl (by omega); omega) ⟨sz401, hQ⟩
      · rw [if_neg c] at hQ; exact hQ
    match m, hm with
    | 0, hm => exact T_X6_readWord_20_1_5 _ _ _ ⟨fun _ => done rfl rfl, fun c => absurd (by rw [show f_X3_length_1 σ = nI n from h.1]; exact nI_le (by omega) (by omega)) c⟩
    | m + 1, hm =>
      refine T_X6_readWord_20_1_5 _ _ _ ⟨fun c => absurd c (by rw [show f_X3_length_1 σ = nI n from h.1]; exact nI_ge (by omega) (by omega)), fun _ => ?_⟩
      rw [at_f h hn (by omega), isLet, isDig, nI_1]
      have go : isW (f i) → mK Γ M_X6_readWord (d + 2) Q n0 bc bs 5 [(0, .ref 20), (1, .ref 1), (2, .int (nI p)), (3, .long ((a <<< (Int32.toInt64 8 &&& 63)) ||| (Int32.toInt64 (f i)))), (5, .int (nI (i + 1)))] [] 60 mSH σ := by
        intro w
        rw [wE, wV, if_pos w, if_pos w] at hQ
        exact L_word h hn m (i + 1) _ (by omega) (by omega) hQ
      refine ⟨fun c => ⟨fun c2 => ?_, fun c2 => go (.inr (Classical.not_not.mp c2))⟩, fun c => go (.inl (Classical.not_not.mp c))⟩
      have w : ¬ isW (f i) := fun q => q.elim c c2
      exact done (by rw [wE, if_neg w]) (by rw [wV, if_neg w])
theorem L_num {Γ : Nat × (Nat → Int32)} {d n0 bc bs : Nat} {Q : mQ} {σ : mS} {n p : Nat} {f : Nat → Int32} (h : tapeC σ n f) (hn : n ≤ 2000) : ∀ m i a, i + m = n → p ≤ i →
    Q (.inl (some (.int (nI (nE f m i))))) 60 mSH (g_X6_put_20 σ (1000 + (if nE f m i - p ≤ 6 then 25 else 27)) (nI p) (nV f m i a)) →
    mK Γ M_X6_readNumber (d + 2) Q n0 bc bs 5 [(0, .ref 20), (1, .ref 1), (2, .int (nI p)), (3, .long a), (5, .int (nI i))] [] 60 mSH σ
  | m, i, a, hm, hp, hQ => by
    have done : nE f m i = i → nV f m i a = a → ((nI i - nI p ≤ 6 → ((¬ ((σ.1 20 3) < 0) → ¬ (400 < (σ.1 20 3)) → vp_in (σ.1 20 3) 401) ∧ Q (.inl (some (.int (nI i)))) 60 mSH (g_X6_put_20 σ 1025 (nI p) a))) ∧ (¬ (nI i - nI p ≤ 6) → ((¬ ((σ.1 20 3) < 0) → ¬ (400 < (σ.1 20 3)) → vp_in (σ.1 20 3) 401) ∧ Q (.inl (some (.int (nI i)))) 60 mSH (g_X6_put_20 σ 1027 (nI p) a)))) := by
      intro e1 e2
      rw [e1, e2] at hQ
      rw [nI_sub hp, show (6 : Int32) = nI 6 by decide, nI_leI (by omega) (by omega)]
      refine ⟨fun c => ⟨sz401, ?_⟩, fun c => ⟨sz401, ?_⟩⟩
      · rw [if_pos c] at hQ; exact hQ
      · rw [if_neg c] at hQ; exact hQ
    match m, hm with
    | 0, hm => exact T_X6_readNumber_20_1_5 _ _ _ ⟨fun _ => done rfl rfl, fun c => absurd (by rw [show f_X3_length_1 σ = nI n from h.1]; exact nI_le (by omega) (by omega)) c⟩
    | m + 1, hm =>
      refine T_X6_readNumber_20_1_5 _ _ _ ⟨fun c => absurd c (by rw [show f_X3_length_1 σ = nI n from h.1]; exact nI_ge (by omega) (by omega)), fun _ => ?_⟩
      rw [at_f h hn (by omega), isDig, nI_1]
      refine ⟨fun c => done (by rw [nE, if_neg c]) (by rw [nV, if_neg c]), fun c => ?_⟩
      have w : isD (f i) := Classical.not_not.mp c
      rw [nE, nV, if_pos w, if_pos w] at hQ
      exact L_num h hn m (i + 1) _ (by omega) (by omega) hQ
theorem S_readOne {Γ : Nat × (Nat → Int32)} {d : Nat} {Q : mQ} {σ : mS} {n p : Nat} {f : Nat → Int32} (h : tapeC σ n f) (hn : n ≤ 2000) (hp : p < n)
    (hQ : Q (.inl (some (.int (nI (tkE n f p))))) 60 mSH (g_X6_put_20 σ (1000 + tkK n f p) (nI p) (tkV n f p))) : mCall Γ M_X6_readOne (d + 3) 0 0 [.ref 20, .ref 1, .int (nI p)] 60 mSH σ Q := by
  rw [tkE, tkK, tkV] at hQ
  refine E_X6_readOne_20_1 (nI p) ?_
  rw [at_f h hn hp, isLet, isDig]
  refine ⟨fun c => ⟨fun c2 => ?_, fun c2 => ?_⟩, fun c => ?_⟩
  · rw [if_neg c, if_neg c2, if_neg c, if_neg c2, if_neg c, if_neg c2] at hQ
    refine S_withCode _ 27 (by omega) ?_
    exact T_X6_readOne_20_1_43a _ _ _ (by have := kwF_le (Int32.toInt64 (f p)) 27 28 0 rfl (by omega); omega) ⟨sz401, by rw [nI_1]; exact hQ⟩
  · have w : isD (f p) := Classical.not_not.mp c2
    rw [if_neg c, if_pos w, if_neg c, if_pos w, if_neg c, if_pos w] at hQ
    exact E_X6_readNumber_20_1 (nI p) (L_num (Q := mRt Γ M_X6_readOne (d + 3) Q 60 0 0 33 _ _) h hn (n - p) p 0 (by omega) (Nat.le_refl _) (T_X6_readOne_20_1_33a _ _ _ hQ))
  · have w : isL (f p) := Classical.not_not.mp c
    rw [if_pos w, if_pos w, if_pos w] at hQ
    exact E_X6_readWord_20_1 (nI p) (L_word (Q := mRt Γ M_X6_readOne (d + 3) Q 60 0 0 19 _ _) h hn (n - p) p 0 (by omega) (Nat.le_refl _) (T_X6_readOne_20_1_19a _ _ _ hQ))
def rdC (σ τ : mS) (n : Nat) (f : Nat → Int32) (j : Nat) : Prop := (∀ a, a ≠ 20 → a ≠ 22 → τ.1 a = σ.1 a) ∧ (∀ a, a ≠ 23 → τ.2.1 a = σ.2.1 a) ∧ τ.1 20 3 = nI j ∧ ∀ i, i < j → τ.2.2 21 i = some (1000 + KT n f i) ∧ τ.1 22 i = nI (pT n f i) ∧ τ.2.1 23 i = VT n f i
theorem mPL_at (σ : mS) (j k : Nat) (x : Int64) (c : Nat) : (mPL σ j k x).2.1 j c = if c = k then x else σ.2.1 j c := by
  show mU2 σ.2.1 j k x j c = _
  rw [mU2_eq]
theorem mPR_at (σ : mS) (j k : Nat) (x : Option Nat) (c : Nat) : (mPR σ j k x).2.2 j c = if c = k then x else σ.2.2 j c := by
  show mU2 σ.2.2 j k x j c = _
  rw [mU2_eq]
theorem rdC_put {σ τ : mS} {n : Nat} {f : Nat → Int32} {j : Nat} (h : rdC σ τ n f j) (hj : j ≤ 400) {r : Nat} {p : Int32} {v : Int64} (hr : r = 1000 + KT n f j) (hp : p = nI (pT n f j)) (hv : v = VT n f j) : rdC σ (g_X6_put_20 τ r p v) n f (j + 1) := by
  obtain ⟨h1, h2, h3, h4⟩ := h
  subst hr hp hv
  have e : g_X6_put_20 τ (1000 + KT n f j) (nI (pT n f j)) (VT n f j) = mPI (mPL (mPI (mPR τ 21 j (some (1000 + KT n f j))) 22 j (nI (pT n f j))) 23 j (VT n f j)) 20 3 (nI (j + 1)) := by
    rw [g_X6_put_20, h3, if_neg (nI_pos (by omega)), if_neg (by rw [show (400 : Int32) = nI 400 by decide]; exact nI_nlt (by omega) (by omega)), nI_clamp (by omega), nI_1]
  rw [e]
  refine ⟨fun a a1 a2 => ?_, fun a a1 => ?_, ?_, fun i hi => ⟨?_, ?_, ?_⟩⟩
  · rw [mPI_ne a1]
    show (mPI (mPR τ 21 j (some (1000 + KT n f j))) 22 j (nI (pT n f j))).1 a = _
    rw [mPI_ne a2]; exact h1 a a1 a2
  · show mU2 τ.2.1 23 j (VT n f j) a = _
    rw [mU2_ne a1]; exact h2 a a1
  · rw [mPI_at, if_pos rfl]
  · show (mPR τ 21 j (some (1000 + KT n f j))).2.2 21 i = _
    rw [mPR_at]
    by_cases q : i = j
    · subst q; rw [if_pos rfl]
    · rw [if_neg q]; exact (h4 i (by omega)).1
  · rw [mPI_ne (show 22 ≠ 20 by decide)]
    show (mPI (mPR τ 21 j (some (1000 + KT n f j))) 22 j (nI (pT n f j))).1 22 i = _
    rw [mPI_at]
    by_cases q : i = j
    · subst q; rw [if_pos rfl]
    · rw [if_neg q]; exact (h4 i (by omega)).2.1
  · show (mPL (mPI (mPR τ 21 j (some (1000 + KT n f j))) 22 j (nI (pT n f j))) 23 j (VT n f j)).2.1 23 i = _
    rw [mPL_at]
    by_cases q : i = j
    · subst q; rw [if_pos rfl]
    · rw [if_neg q]; exact (h4 i (by omega)).2.2
theorem rdC_tape {σ τ : mS} {n : Nat} {f : Nat → Int32} {j : Nat} (h : rdC σ τ n f j) (ht : tapeC σ n f) : tapeC τ n f := by
  rw [tapeC, h.1 1 (by decide) (by decide), h.1 2 (by decide) (by decide)]; exact ht
theorem i400 : (400 : Int32) = nI 400 := by decide
theorem L_readFrom {Γ : Nat × (Nat → Int32)} {d n0 bc bs : Nat} {Q : mQ} {σ : mS} {n : Nat} {f : Nat → Int32} (h : tapeC σ n f) (hn : n ≤ 2000)
    (hQ : ∀ J τ, J ≤ 400 → rdC σ τ n f (J + 1) → (KT n f J = 26 ∨ KT n f J = 27) → Q (.inl none) 60 mSH τ) :
    ∀ m j, j + m = 400 → ∀ τ, rdC σ τ n f j → mK Γ M_X6_readFrom (d + 4) Q n0 bc bs 13 [(0, .ref 20), (1, .ref 1), (2, .int (nI (pT n f j))), (3, .int (nI j))] [] 60 mSH τ
  | m, j, hm, τ, hR => by
    have ht := rdC_tape hR h
    have pl := pT_le n f j
    have el : f_X3_length_1 τ = nI n := ht.1
    have fin1 : ¬ pT n f j < n → Q (.inl none) 60 mSH (g_X6_put_20 τ 1026 (nI (pT n f j)) 0) := fun c => by
      have ek : KT n f j = 26 := by rw [KT, if_neg c]
      exact hQ j _ (by omega) (rdC_put hR (by omega) (by rw [ek]) rfl (by rw [VT, if_neg c])) (.inl ek)
    match m, hm with
    | 0, hm =>
      refine T_X6_readFrom_20_1_13 _ _ ⟨fun _ => ?_, fun c => absurd (by rw [i400]; exact nI_le (by omega) (by omega)) c⟩
      rw [el, nI_leI (by omega) (by omega)]
      refine ⟨fun c => ⟨sz401, fin1 (by omega)⟩, fun c => ⟨sz401, ?_⟩⟩
      have ek : KT n f j = 27 := by rw [KT, if_pos (by omega), if_neg (by omega)]
      exact hQ j _ (by omega) (rdC_put hR (by omega) (by rw [ek]) rfl (by rw [VT, if_pos (by omega), if_neg (by omega)])) (.inr ek)
    | m + 1, hm =>
      refine T_X6_readFrom_20_1_13 _ _ ⟨fun c => absurd c (by rw [i400]; exact nI_ge (by omega) (by omega)), fun _ => ?_⟩
      rw [el, nI_leI (by omega) (by omega)]
      refine ⟨fun c => ⟨sz401, fin1 (by omega)⟩, fun c => ?_⟩
      have hp : pT n f j < n := by omega
      have he := tkE_le f hp
      have hR' : rdC σ (g_X6_put_20 τ (1000 + tkK n f (pT n f j)) (nI (pT n f j)) (tkV n f (pT n f j))) n f (j + 1) := rdC_put hR (by omega) (by rw [KT, if_pos hp, if_pos (by omega)]) rfl (by rw [VT, if_pos hp, if_pos (by omega)])
      refine S_readOne ht hn hp (T_X6_readFrom_20_1_35a _ _ _ ?_)
      refine S_skip (rdC_tape hR' h) hn he.2 (T_X6_readFrom_20_1_38a _ _ _ ?_)
      have ih := L_readFrom (Γ := Γ) (d := d) (n0 := n0) (bc := bc) (bs := bs) h hn hQ m (j + 1) (by omega) _ hR'
      rw [pT, if_pos hp] at ih
      rw [nI_1]; exact ih
theorem S_readFrom {Γ : Nat × (Nat → Int32)} {d : Nat} {Q : mQ} {σ : mS} {n : Nat} {f : Nat → Int32} (h : tapeC σ n f) (hn : n ≤ 2000)
    (hQ : ∀ J τ, J ≤ 400 → rdC σ τ n f (J + 1) → (KT n f J = 26 ∨ KT n f J = 27) → Q (.inl none) 60 mSH τ) : mCall Γ M_X6_readFrom (d + 4) 0 0 [.ref 20, .ref 1] 60 mSH σ Q := by
  refine E_X6_readFrom_20_1 ?_
  have h' : tapeC (mPI σ 20 3 0) n f := h
  refine S_skip (i := 0) h' hn (Nat.zero_le _) (T_X6_readFrom_20_1_10a _ ?_)
  exact L_readFrom h hn hQ 400 0 rfl (mPI σ 20 3 0) ⟨fun a a1 a2 => mPI_ne a1, fun _ _ => rfl, by rw [mPI_at, if_pos rfl]; rfl, fun i hi => absurd hi (Nat.not_lt_zero _)⟩
