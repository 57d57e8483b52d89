/-! ===== the sheet ===== -/
theorem Rel_P {σ τ : mS} (h : Rel σ) (f1 : ∀ a, a < 60 → a ≠ 3 → a ≠ 4 → a ≠ 26 → a ≠ 28 → τ.1 a = σ.1 a) (f2 : ∀ k, k ≠ 0 → k ≠ 4 → τ.1 26 k = σ.1 26 k) (f3 : ∀ a, a < 59 → τ.2.1 a = σ.2.1 a) (t : RP τ) : Rel τ := by
  obtain ⟨⟨a1, a2, a3⟩, ⟨s1, s2, s3, s4, s5⟩, ⟨m1, m2, m3⟩, p, _, e⟩ := h
  have eM : DM τ = DM σ := by
    rw [DM, DM, f1 32 (by decide) (by decide) (by decide) (by decide) (by decide), f1 34 (by decide) (by decide) (by decide) (by decide) (by decide), f1 36 (by decide) (by decide) (by decide) (by decide) (by decide), f1 37 (by decide) (by decide) (by decide) (by decide) (by decide), f1 38 (by decide) (by decide) (by decide) (by decide) (by decide), f1 39 (by decide) (by decide) (by decide) (by decide) (by decide), f1 40 (by decide) (by decide) (by decide) (by decide) (by decide), f1 41 (by decide) (by decide) (by decide) (by decide) (by decide), f3 35 (by decide), f3 33 (by decide)]
  have eC : DC τ = DC σ := by
    rw [DC, DC, f1 5 (by decide) (by decide) (by decide) (by decide) (by decide), f1 9 (by decide) (by decide) (by decide) (by decide) (by decide), f1 10 (by decide) (by decide) (by decide) (by decide) (by decide), f1 11 (by decide) (by decide) (by decide) (by decide) (by decide), f1 12 (by decide) (by decide) (by decide) (by decide) (by decide), f1 13 (by decide) (by decide) (by decide) (by decide) (by decide), f1 7 (by decide) (by decide) (by decide) (by decide) (by decide), f3 5 (by decide), f3 8 (by decide), f3 6 (by decide)]
  refine ⟨⟨?_, by rw [eM, eC]; exact a2, by rw [eM]; exact a3⟩, ⟨?_, ?_, ?_, ?_, ?_⟩, ⟨?_, ?_, ?_, ?_, ?_⟩, ?_, t, ?_⟩
  · rw [cV, eC, f1 14 (by decide) (by decide) (by decide) (by decide) (by decide), f3 5 (by decide)]; exact a1
  · rw [f3 16 (by decide), f3 5 (by decide)]; exact s1
  · rw [f3 16 (by decide), eM]; exact s2
  · rw [f3 16 (by decide), eM]; exact s3
  · rw [f1 16 (by decide) (by decide) (by decide) (by decide) (by decide), eM]; exact s4
  · rw [f1 17 (by decide) (by decide) (by decide) (by decide) (by decide), eM]; exact s5
  · rw [f1 52 (by decide) (by decide) (by decide) (by decide) (by decide), f1 53 (by decide) (by decide) (by decide) (by decide) (by decide), eM]; exact m1
  · rw [f2 15 (by decide) (by decide), eM]; exact m2
  · rw [f2 18 (by decide) (by decide)]; exact m3.1
  · rw [f2 19 (by decide) (by decide)]; exact m3.2.1
  · rw [f2 20 (by decide) (by decide)]; exact m3.2.2
  · rw [RT, f1 1 (by decide) (by decide) (by decide) (by decide) (by decide), f2 2 (by decide) (by decide), f1 2 (by decide) (by decide) (by decide) (by decide) (by decide), f1 27 (by decide) (by decide) (by decide) (by decide) (by decide)]; exact p
  · rw [f1 0 (by decide) (by decide) (by decide) (by decide) (by decide), f2 1 (by decide) (by decide)]; exact e
/-- a byte of a word as an int -/
def byI (w : Int64) (j : Nat) : Int32 := (Int64.toInt32 (w >>> (Int32.toInt64 (nI (8 * j)) &&& 63))) &&& 255
theorem byI_m (w : Int64) (j : Nat) : byI w j &&& 255 = byI w j := by
  refine b_ext (fun i hi => ?_)
  rw [byI, b_and, b_and]
  cases bt 255 i <;> simp
theorem bt_l2i (x : Int64) {i : Nat} (hi : i < 32) : bt (Int64.toInt32 x) i = bB x i := by
  rw [bt, bB, Int64.toBitVec_toInt32, BitVec.getLsbD_signExtend]
  simp [hi]; omega
theorem bB_255 (i : Nat) : bB 255 i = decide (i < 8) := by
  rcases Nat.lt_or_ge i 64 with h | h
  · exact (by decide +kernel : ∀ i, i < 64 → bB 255 i = decide (i < 8)) i h
  · rw [bB_ge _ h, decide_eq_false (by omega)]
theorem l2i_255 (x : Int64) : Int64.toInt32 (x &&& 255) = Int64.toInt32 x &&& 255 := by
  refine b_ext (fun i hi => ?_)
  rw [bt_l2i _ hi, bB_and, b_and, bt_l2i _ hi, bB_255, b_255]
theorem wB_z (w : Int64) (j : Nat) : wB w j = 0 ↔ byI w j = 0 := by
  constructor
  · intro h
    rw [byI, ← l2i_255]
    show Int64.toInt32 (wB w j) = 0
    rw [h]; rfl
  · intro h
    rw [byI, ← l2i_255] at h
    have h : Int64.toInt32 (wB w j) = 0 := h
    rw [bB_zero]
    intro k hk
    by_cases e : k < 8
    · rw [← bt_l2i _ (show k < 32 by omega), h, b_0]
    · rw [wB, bB_and, bB_255, decide_eq_false e, Bool.and_false]
/-- the bytes of a word, the highest first -/
def wLn (w : Int64) : Nat → List Int32
  | 0 => []
  | m + 1 => if byI w m = 0 then wLn w m else byI w m :: wLn w m
theorem wLn_len (w : Int64) : ∀ m, (wLn w m).length ≤ m
  | 0 => Nat.le_refl _
  | m + 1 => by
    have := wLn_len w m
    rw [wLn]
    by_cases e : byI w m = 0
    · rw [if_pos e]; omega
    · rw [if_neg e]; simp; omega
theorem gd_l {L : List Int32} {b : Int32} {i : Nat} (h : i < L.length) : (L ++ [b]).getD i 0 = L.getD i 0 := by
  simp [List.getD_eq_getElem?_getD, List.getElem?_append, h]
theorem gd_r {L : List Int32} {b : Int32} : (L ++ [b]).getD L.length 0 = b := by
  simp [List.getD_eq_getElem?_getD]
def pX (σ τ : mS) (L : List Int32) : Prop := (∀ a, a ≠ 3 → a ≠ 4 → τ.1 a = σ.1 a) ∧ τ.2 = σ.2 ∧ τ.1 3 1 = nI L.length ∧ ∀ i, i < L.length → τ.1 4 i &&& 255 = L.getD i 0
theorem pX_app {σ τ : mS} {L : List Int32} {b : Int32} (h : pX σ τ L) (hl : L.length < 920) (hb : b &&& 255 = b) : pX σ (g_X3_append_3 τ b) (L ++ [b]) := by
  obtain ⟨h1, h2, h3, h4⟩ := h
  have e : g_X3_append_3 τ b = mPI (mPI τ 4 L.length (vp_nar .byte (Int32.toInt8 b).toInt32)) 3 1 (nI (L.length + 1)) := by
    rw [g_X3_append_3, h3, if_neg (nI_pos (by omega)), if_neg (by rw [show (920 : Int32) = nI 920 by decide]; exact nI_ge (by omega) (by omega)), nI_clamp (by omega), nI_1]
  rw [e]
  refine ⟨fun a b1 b2 => ?_, h2, ?_, fun i hi => ?_⟩
  · rw [mPI_ne b1, mPI_ne b2]; exact h1 a b1 b2
  · rw [mPI_at, if_pos rfl, List.length_append]; rfl
  · rw [mPI_ne (by decide), mPI_at]
    rw [List.length_append] at hi
    have hi : i < L.length + 1 := hi
    by_cases q : i = L.length
    · subst q
      have : (Int32.toInt8 (Int32.toInt8 b).toInt32) = Int32.toInt8 b := by simp
      rw [if_pos rfl, vp_nar_byte, this, bp_b b, hb, gd_r]
    · rw [if_neg q, gd_l (by omega)]; exact h4 i (by omega)
theorem sh8 (a : Nat) : nI (a + 8) + (-8) = nI a := by
  rw [← nI_add, Int32.add_assoc, show nI 8 + (-8 : Int32) = 0 by decide, Int32.add_zero]
theorem L_appendWord {Γ : Nat × (Nat → Int32)} {d n0 bc bs : Nat} {Q : mQ} {σ : mS} {w : Int64} {L : List Int32} : ∀ m, m ≤ 8 → L.length + (wLn w m).length ≤ 920 → (∀ τ', pX σ τ' (L ++ wLn w m) → Q (.inl none) 60 mSH τ') → ∀ τ, pX σ τ L →
    mK Γ M_X3_appendWord (d + 2) Q n0 bc bs 3 [(0, .ref 3), (1, .long w), (3, .int (nI (8 * m) + (-8)))] [] 60 mSH τ
  | 0, _, hl, hQ, τ, h => T_X3_appendWord_3_3 _ _ ⟨fun _ => hQ τ (by rw [wLn, List.append_nil]; exact h), fun c => absurd (by decide) c⟩
  | m + 1, h8, hl, hQ, τ, h => by
    rw [wLn] at hQ hl
    rw [show 8 * (m + 1) = 8 * m + 8 by omega, sh8]
    refine T_X3_appendWord_3_3 _ _ ⟨fun c => absurd c (nI_pos (by omega)), fun _ => ⟨fun c => ?_, fun c => ?_⟩⟩
    · rw [if_pos (show byI w m = 0 from c)] at hQ hl
      exact L_appendWord m (by omega) hl hQ τ h
    · rw [if_neg (show ¬ byI w m = 0 from c)] at hQ hl
      rw [List.length_cons] at hl
      have e : L ++ byI w m :: wLn w m = (L ++ [byI w m]) ++ wLn w m := by rw [List.append_assoc]; rfl
      rw [e] at hQ
      exact L_appendWord (L := L ++ [byI w m]) m (by omega) (by rw [List.length_append]; show L.length + 1 + _ ≤ 920; omega) hQ _ (pX_app h (by omega) (byI_m w m))
theorem S_appendWord {Γ : Nat × (Nat → Int32)} {d : Nat} {Q : mQ} {σ τ : mS} {L : List Int32} (w : Int64) (h : pX σ τ L) (hl : L.length + (wLn w 8).length ≤ 920) (hQ : ∀ τ', pX σ τ' (L ++ wLn w 8) → Q (.inl none) 60 mSH τ') : mCall Γ M_X3_appendWord (d + 2) 0 0 [.ref 3, .long w] 60 mSH τ Q := by
  refine E_X3_appendWord_3 w ?_
  have := L_appendWord (Γ := Γ) (d := d) (n0 := 60) (bc := 0) (bs := 0) (w := w) 8 (by omega) hl hQ τ h
  rw [show nI (8 * 8) + (-8) = 56 by decide] at this
  exact this
def mXp (σ τ : mS) (L : List Int32) : Prop := (∀ a, a ≠ 26 → a ≠ 28 → τ.1 a = σ.1 a) ∧ (∀ k, k ≠ 4 → τ.1 26 k = σ.1 26 k) ∧ τ.2 = σ.2 ∧ τ.1 26 4 = nI L.length ∧ ∀ i, i < L.length → τ.1 28 i = L.getD i 0
theorem mXp_pr {σ τ : mS} {L : List Int32} {b : Int32} (h : mXp σ τ L) (hl : L.length < 1280) : mXp σ (g_X9_print_26 τ b) (L ++ [b]) := by
  obtain ⟨h1, h2, h3, h4, h5⟩ := h
  have e : g_X9_print_26 τ b = mPI (mPI τ 28 L.length b) 26 4 (nI (L.length + 1)) := by
    rw [g_X9_print_26, h4, nI_clamp (by omega), nI_1]
  rw [e]
  refine ⟨fun a b1 b2 => ?_, fun k hk => ?_, h3, ?_, fun i hi => ?_⟩
  · rw [mPI_ne b1, mPI_ne b2]; exact h1 a b1 b2
  · rw [mPI_at, if_neg hk, mPI_ne (by decide)]; exact h2 k hk
  · rw [mPI_at, if_pos rfl, List.length_append]; rfl
  · rw [mPI_ne (by decide), mPI_at]
    rw [List.length_append] at hi
    have hi : i < L.length + 1 := hi
    by_cases q : i = L.length
    · subst q
      rw [if_pos rfl, gd_r]
    · rw [if_neg q, gd_l (by omega)]; exact h5 i (by omega)
theorem L_print2 {Γ : Nat × (Nat → Int32)} {d n0 bc bs : Nat} {Q : mQ} {σ : mS} {w : Int64} {L : List Int32} : ∀ m, m ≤ 8 → L.length + m ≤ 1280 → (∀ j, j < m → wB w j ≠ 0) → (∀ τ', mXp σ τ' (L ++ wLn w m) → Q (.inl none) 60 mSH τ') → ∀ τ, mXp σ τ L →
    mK Γ M_X9_print_ (d + 2) Q n0 bc bs 21 [(0, .ref 26), (1, .long w), (3, .int (nI (8 * m) + (-8)))] [] 60 mSH τ
  | 0, _, hl, hz, hQ, τ, h => T_X9_print__26_21 _ _ ⟨fun _ => hQ τ (by rw [wLn, List.append_nil]; exact h), fun c => absurd (by decide) c⟩
  | m + 1, h8, hl, hz, hQ, τ, h => by
    have hn : ¬ byI w m = 0 := fun q => hz m (by omega) ((wB_z w m).mpr q)
    rw [wLn, if_neg hn] at hQ
    have e : L ++ byI w m :: wLn w m = (L ++ [byI w m]) ++ wLn w m := by rw [List.append_assoc]; rfl
    rw [e] at hQ
    rw [show 8 * (m + 1) = 8 * m + 8 by omega, sh8]
    refine T_X9_print__26_21 _ _ ⟨fun c => absurd c (nI_pos (by omega)), fun _ => ⟨by rw [h.2.2.2.1]; exact vp_in_nI (by omega) (by omega), ?_⟩⟩
    rw [l2i_255]
    exact L_print2 (L := L ++ [byI w m]) m (by omega) (by rw [List.length_append]; show L.length + 1 + m ≤ 1280; omega) (fun j hj => hz j (by omega)) hQ _ (mXp_pr h (by omega))
theorem wLn_z (w : Int64) {n : Nat} : ∀ m, n ≤ m → (∀ j, n ≤ j → j < m → wB w j = 0) → wLn w m = wLn w n
  | 0, hm, _ => by rw [show n = 0 by omega]
  | m + 1, hm, hz => by
    by_cases e : n = m + 1
    · rw [e]
    · rw [wLn, if_pos ((wB_z w m).mp (hz m (by omega) (by omega)))]
      exact wLn_z w m (by omega) (fun j h1 h2 => hz j h1 (by omega))
theorem L_print1 {Γ : Nat × (Nat → Int32)} {d n0 bc bs : Nat} {Q : mQ} {τ : mS} {w : Int64} {n : Nat} (hn : n < 8) (h1 : ∀ i, i ≤ n → wB w i ≠ 0) (h2 : ∀ i, n < i → i < 8 → wB w i = 0)
    (k : mK Γ M_X9_print_ (d + 2) Q n0 bc bs 21 [(0, .ref 26), (1, .long w), (3, .int (nI (8 * (n + 1)) + (-8)))] [] 60 mSH τ) : ∀ m, n + 1 + m ≤ 8 →
    mK Γ M_X9_print_ (d + 2) Q n0 bc bs 3 [(0, .ref 26), (1, .long w), (3, .int (nI (8 * (n + 1 + m)) + (-8)))] [] 60 mSH τ
  | 0, hm => by
    rw [show 8 * (n + 1) = 8 * n + 8 by omega, sh8] at k
    rw [show 8 * (n + 1 + 0) = 8 * n + 8 by omega, sh8]
    exact T_X9_print__26_3 _ _ ⟨fun c => absurd c (h1 n (Nat.le_refl _)), fun _ => k⟩
  | m + 1, hm => by
    have ih := L_print1 hn h1 h2 k m (by omega)
    rw [show 8 * (n + 1 + (m + 1)) = 8 * (n + 1 + m) + 8 by omega, sh8]
    exact T_X9_print__26_3 _ _ ⟨fun _ => ih, fun c => absurd (h2 (n + 1 + m) (by omega) (by omega)) c⟩
theorem S_print {Γ : Nat × (Nat → Int32)} {d : Nat} {Q : mQ} {σ τ : mS} {L : List Int32} (w : Int64) (hw : wOK w) (h : mXp σ τ L) (hl : L.length + 8 ≤ 1280) (hQ : ∀ τ', mXp σ τ' (L ++ wLn w 8) → Q (.inl none) 60 mSH τ') : mCall Γ M_X9_print_ (d + 2) 0 0 [.ref 26, .long w] 60 mSH τ Q := by
  obtain ⟨n, hn, h1, h2⟩ := hw
  refine E_X9_print__26 w ?_
  rw [wLn_z w (n := n + 1) 8 (by omega) (fun j a b => h2 j (by omega) b)] at hQ
  have k := L_print2 (Γ := Γ) (d := d) (n0 := 60) (bc := 0) (bs := 0) (w := w) (n + 1) (by omega) (by omega) (fun j hj => h1 j (by omega)) hQ τ h
  have := L_print1 hn h1 h2 k (7 - n) (by omega)
  rw [show 8 * (n + 1 + (7 - n)) = 8 * 8 by omega, show nI (8 * 8) + (-8) = 56 by decide] at this
  exact this
def stI (v : Int32) : Nat := if v = 1 then 14 else if v = 2 then 15 else 16
def lnL (D : mDeb) (b : Nat → Int32) (k : Nat) : List Int32 := ((((wLn (dN D k) 8 ++ [32]) ++ wLn (dS D (uN (db D k))) 8) ++ [32]) ++ wLn (mKy (stI (b k))) 8) ++ [10]
def shL (D : mDeb) (b : Nat → Int32) : Nat → List Int32
  | 0 => []
  | k + 1 => ((((((shL D b k ++ wLn (dN D k) 8) ++ [32]) ++ wLn (dS D (uN (db D k))) 8) ++ [32]) ++ wLn (mKy (stI (b k))) 8) ++ [10])
theorem st_4 (v : Int32) : (wLn (mKy (stI v)) 8).length ≤ 4 ∧ wOK (mKy (stI v)) := by
  have h : ∀ i, i < 17 → 14 ≤ i → (wLn (mKy i) 8).length ≤ 4 := by decide +kernel
  have g : wOK (mKy 14) ∧ wOK (mKy 15) ∧ wOK (mKy 16) := by
    refine ⟨⟨1, by decide, fun i a => (by decide +kernel : ∀ i, i < 2 → wB (mKy 14) i ≠ 0) i (by omega), fun i a b => (by decide +kernel : ∀ i, i < 8 → 1 < i → wB (mKy 14) i = 0) i b a⟩, ⟨2, by decide, fun i a => (by decide +kernel : ∀ i, i < 3 → wB (mKy 15) i ≠ 0) i (by omega), fun i a b => (by decide +kernel : ∀ i, i < 8 → 2 < i → wB (mKy 15) i = 0) i b a⟩, ⟨3, by decide, fun i a => (by decide +kernel : ∀ i, i < 4 → wB (mKy 16) i ≠ 0) i (by omega), fun i a b => (by decide +kernel : ∀ i, i < 8 → 3 < i → wB (mKy 16) i = 0) i b a⟩⟩
  rw [stI]
  by_cases e : v = 1
  · rw [if_pos e]; exact ⟨h 14 (by omega) (by omega), g.1⟩
  · rw [if_neg e]
    by_cases e2 : v = 2
    · rw [if_pos e2]; exact ⟨h 15 (by omega) (by omega), g.2.1⟩
    · rw [if_neg e2]; exact ⟨h 16 (by omega) (by omega), g.2.2⟩
theorem shL_len (D : mDeb) (b : Nat → Int32) : ∀ k, (shL D b k).length ≤ 23 * k
  | 0 => Nat.le_refl _
  | k + 1 => by
    have := shL_len D b k
    have h1 := wLn_len (dN D k) 8
    have h2 := wLn_len (dS D (uN (db D k))) 8
    have h3 := (st_4 (b k)).1
    rw [shL]
    simp only [List.length_append, List.length_singleton]
    omega
theorem pX_DC {σ τ : mS} {L : List Int32} (h : pX σ τ L) : DC τ = DC σ := by
  rw [DC, DC, h.2.1, h.1 5 (by decide) (by decide), h.1 9 (by decide) (by decide), h.1 10 (by decide) (by decide), h.1 11 (by decide) (by decide), h.1 12 (by decide) (by decide), h.1 13 (by decide) (by decide), h.1 7 (by decide) (by decide)]
theorem pX_V {σ τ : mS} {L : List Int32} (h : pX σ τ L) (hV : cV σ) : cV τ := by
  rw [cV, pX_DC h, h.1 14 (by decide) (by decide), h.2.1]; exact hV
theorem c_name {σ : mS} (h : cV σ) {k : Nat} (hk : k < dn (DC σ)) : f_X0_nameOfItem_5 σ (nI k) = dN (DC σ) k := by
  have h40 := h.1.2.1
  rw [f_X0_nameOfItem_5, c_hasItem h hk, nI_clamp (by omega), if_neg (by decide)]
  show σ.2.1 8 k = mkL (dn (DC σ)) (σ.2.1 8) k
  rw [mkL, if_pos hk]
theorem c_sname {σ : mS} (h : cV σ) {k : Nat} (hk : k < ds (DC σ)) : f_X0_nameOfSpeaker_5 σ (nI k) = dS (DC σ) k := by
  have h6 := h.1.2.2.2.1
  rw [f_X0_nameOfSpeaker_5, c_hasSp1 h hk, nI_clamp (by omega), if_neg (by decide)]
  show σ.2.1 6 k = mkL (ds (DC σ)) (σ.2.1 6) k
  rw [mkL, if_pos hk]
theorem L_sheetC {Γ : Nat × (Nat → Int32)} {d n0 bc bs : Nat} {Q : mQ} {σ : mS} (h : Rel σ) (hQ : ∀ τ, pX σ τ (shL (DM σ) (bF (DM σ)) (dn (DM σ))) → Q (.inl (some (.int (nI (shL (DM σ) (bF (DM σ)) (dn (DM σ))).length)))) 60 mSH τ) :
    ∀ m i, i + m = dn (DM σ) → ∀ τ, pX σ τ (shL (DM σ) (bF (DM σ)) i) → mK Γ M_X7_sheet (d + 3) Q n0 bc bs 10 [(0, .ref 0), (1, .int (nI i))] [] 60 mSH τ
  | 0, i, hm, τ, hp => by
    have h40 := h.n40
    have e : f_X0_items_5 τ = nI (dn (DM σ)) := by rw [f_X0_items_5, hp.1 5 (by decide) (by decide), ← h.D]; exact cV_n h.V
    refine T_X7_sheet_0_10 _ ⟨fun _ => ?_, fun c => absurd (by rw [e]; exact nI_le (by omega) (by omega)) c⟩
    have hi : i = dn (DM σ) := by omega
    subst hi
    rw [f_X3_length_3, hp.2.2.1]
    exact hQ τ hp
  | m + 1, i, hm, τ, hp => by
    have h40 := h.n40
    have h6 := h.s6
    have hi : i < dn (DM σ) := by omega
    have e : f_X0_items_5 τ = nI (dn (DM σ)) := by rw [f_X0_items_5, hp.1 5 (by decide) (by decide), ← h.D]; exact cV_n h.V
    have ih := L_sheetC (d := d) (n0 := n0) (bc := bc) (bs := bs) (Γ := Γ) h hQ m (i + 1) (by omega)
    have hk : ∀ {ρ L}, pX σ ρ L → i < dn (DC ρ) := fun hρ => by rw [pX_DC hρ, h.D]; exact hi
    have l0 := shL_len (DM σ) (bF (DM σ)) i
    have l1 := wLn_len (dN (DM σ) i) 8
    have l2 := wLn_len (dS (DM σ) (uN (db (DM σ) i))) 8
    have l3 := (st_4 (bF (DM σ) i)).1
    refine T_X7_sheet_0_10 _ ⟨fun c => absurd c (by rw [e]; exact nI_ge (by omega) (by omega)), fun _ => ?_⟩
    rw [c_name (pX_V hp h.V) (hk hp), pX_DC hp, h.D]
    refine S_appendWord _ hp (by omega) (fun τ1 p1 => ?_)
    have p1' := pX_app (b := 32) p1 (by rw [List.length_append]; omega) (by decide)
    refine T_X7_sheet_0_36a _ ?_
    obtain ⟨j, hj, ej⟩ := (h.S.2.2.2.2 i hi).1
    rw [c_owner (pX_V p1' h.V) (hk p1'), pX_DC p1', h.D, ej, c_sname (pX_V p1' h.V) (by rw [pX_DC p1', h.D]; exact hj), pX_DC p1', h.D]
    rw [shL, ej, uN_nI (by omega)] at ih
    rw [ej, uN_nI (by omega)] at l2
    refine S_appendWord _ p1' (by simp only [List.length_append, List.length_singleton]; omega) (fun τ2 p2 => ?_)
    have p2' := pX_app (b := 32) p2 (by simp only [List.length_append, List.length_singleton]; omega) (by decide)
    refine T_X7_sheet_0_67a _ ?_
    have i3 : (g_X3_append_3 τ2 32).2.1 16 3 = sSet (bF (DM σ)) 1 := by rw [p2'.2.1]; exact h.2.1.2.1
    have i4 : (g_X3_append_3 τ2 32).2.1 16 4 = sSet (bF (DM σ)) 2 := by rw [p2'.2.1]; exact h.2.1.2.2.1
    have a1 := c_isIn0_16 (b := bF (DM σ)) h40 h.bOK i3 (show i < 64 by omega)
    have a2 := c_isOut0_16 (b := bF (DM σ)) h40 h.bOK i4 (show i < 64 by omega)
    have ew : f_X4_wordFor_16 (g_X3_append_3 τ2 32) (nI i) = 1000 + stI (bF (DM σ) i) := by
      rw [f_X4_wordFor_16, stI]
      by_cases q1 : bF (DM σ) i = 1
      · rw [if_pos q1, if_neg (fun w => (a1.mp w) q1)]
      · rw [if_neg q1, if_pos (a1.mpr q1)]
        by_cases q2 : bF (DM σ) i = 2
        · rw [if_pos q2, if_neg (fun w => (a2.mp w) q2)]
        · rw [if_neg q2, if_pos (a2.mpr q2)]
    have es : stI (bF (DM σ) i) < 17 := by
      rw [stI]
      split
      · omega
      · split <;> omega
    have ek : mKc (stI (bF (DM σ) i)) = mKy (stI (bF (DM σ) i)) := (by decide +kernel : ∀ i, i < 17 → mKc i = mKy i) _ es
    rw [ew, f_X2_code, Nat.add_sub_cancel_left, ek]
    refine ⟨by omega, ?_⟩
    refine S_appendWord _ p2' (by simp only [List.length_append, List.length_singleton]; omega) (fun τ3 p3 => ?_)
    have p3' := pX_app (b := 10) p3 (by simp only [List.length_append, List.length_singleton]; omega) (by decide)
    refine T_X7_sheet_0_94a _ ?_
    rw [nI_1]
    exact ih _ p3'
theorem mXp_DM {σ τ : mS} {L : List Int32} (h : mXp σ τ L) : DM τ = DM σ := by
  rw [DM, DM, h.2.2.1, h.1 32 (by decide) (by decide), h.1 34 (by decide) (by decide), h.1 36 (by decide) (by decide), h.1 37 (by decide) (by decide), h.1 38 (by decide) (by decide), h.1 39 (by decide) (by decide), h.1 40 (by decide) (by decide), h.1 41 (by decide) (by decide)]
theorem m_name {σ : mS} {k : Nat} (hk : k < dn (DM σ)) : σ.2.1 35 k = dN (DM σ) k := by
  show _ = mkL (dn (DM σ)) (σ.2.1 35) k
  rw [mkL, if_pos hk]
theorem m_sname {σ : mS} {k : Nat} (hk : k < ds (DM σ)) : σ.2.1 33 k = dS (DM σ) k := by
  show _ = mkL (ds (DM σ)) (σ.2.1 33) k
  rw [mkL, if_pos hk]
theorem L_sheetM {Γ : Nat × (Nat → Int32)} {d n0 bc bs : Nat} {Q : mQ} {σ : mS} (h : sV σ) (hN : nmD (DM σ)) (hB : agr (dn (DM σ)) (σ.1 52) (bF (DM σ))) (hQ : ∀ τ, mXp σ τ (shL (DM σ) (bF (DM σ)) (dn (DM σ))) → Q (.inl (some (.int (nI (shL (DM σ) (bF (DM σ)) (dn (DM σ))).length)))) 60 mSH τ) :
    ∀ m i, i + m = dn (DM σ) → ∀ τ, mXp σ τ (shL (DM σ) (bF (DM σ)) i) → mK Γ M_X9_sheet (d + 6) Q n0 bc bs 12 [(0, .ref 26), (1, .int (nI i))] [] 60 mSH τ
  | 0, i, hm, τ, hp => by
    have h40 := h.2.1
    refine T_X9_sheet_26_12 _ ⟨fun _ => ?_, fun c => absurd (by rw [hp.1 32 (by decide) (by decide), sV_n h]; exact nI_le (by omega) (by omega)) c⟩
    have hi : i = dn (DM σ) := by omega
    subst hi
    rw [hp.2.2.2.1]
    exact hQ τ hp
  | m + 1, i, hm, τ, hp => by
    have h40 := h.2.1
    have h6 := h.2.2.2.1
    have hi : i < dn (DM σ) := by omega
    have ih := L_sheetM (d := d) (n0 := n0) (bc := bc) (bs := bs) (Γ := Γ) h hN hB hQ m (i + 1) (by omega)
    have cl : (nI i).toNatClampNeg = i := nI_clamp (by omega)
    have l0 := shL_len (DM σ) (bF (DM σ)) i
    have l1 := wLn_len (dN (DM σ) i) 8
    have l3 := (st_4 (bF (DM σ) i)).1
    have vi : vp_in (nI i) 40 := vp_in_nI (by omega) (by omega)
    obtain ⟨j, hj, ej⟩ := (h.2.2.2.2 i hi).1
    have l2 := wLn_len (dS (DM σ) j) 8
    rw [shL, ej, uN_nI (by omega)] at ih
    refine T_X9_sheet_26_12 _ ⟨fun c => absurd c (by rw [hp.1 32 (by decide) (by decide), sV_n h]; exact nI_ge (by omega) (by omega)), fun _ => ⟨vi, ?_⟩⟩
    rw [cl, hp.2.2.1, m_name hi]
    refine S_print _ (hN.1 i hi) hp (by omega) (fun τ1 p1 => ?_)
    have p1' := mXp_pr (b := 32) p1 (by rw [List.length_append]; omega)
    refine T_X9_sheet_26_36a _ ⟨by rw [p1.2.2.2.1]; exact vp_in_nI (by rw [List.length_append]; omega) (by omega), vi, ?_⟩
    rw [cl, p1'.1 37 (by decide) (by decide), m_owner hi, ej, nI_clamp (by omega), p1'.2.2.1, m_sname hj]
    refine ⟨vp_in_nI (by omega) (by omega), ?_⟩
    refine S_print _ (hN.2 j hj) p1' (by simp only [List.length_append, List.length_singleton]; omega) (fun τ2 p2 => ?_)
    have p2' := mXp_pr (b := 32) p2 (by simp only [List.length_append, List.length_singleton]; omega)
    refine T_X9_sheet_26_63a _ ⟨by rw [p2.2.2.2.1]; exact vp_in_nI (by simp only [List.length_append, List.length_singleton]; omega) (by omega), vi, ?_⟩
    rw [cl, p2'.1 52 (by decide) (by decide), hB i hi]
    have fin : mCall Γ M_X9_print_ (d + 5) 0 0 [.ref 26, .long (mKy (stI (bF (DM σ) i)))] 60 mSH (g_X9_print_26 τ2 32) (mRt Γ M_X9_sheet (d + 6) Q n0 bc bs 108 [(0, .ref 26), (1, .int (nI i))] []) := by
      refine S_print _ (st_4 (bF (DM σ) i)).2 p2' (by simp only [List.length_append, List.length_singleton]; omega) (fun τ3 p3 => ?_)
      have p3' := mXp_pr (b := 10) p3 (by simp only [List.length_append, List.length_singleton]; omega)
      refine T_X9_sheet_26_108a _ ⟨by rw [p3.2.2.2.1]; exact vp_in_nI (by simp only [List.length_append, List.length_singleton]; omega) (by omega), ?_⟩
      rw [nI_1]
      exact ih _ p3'
    rw [stI] at fin
    refine ⟨fun q1 => ?_, fun q1 => ⟨fun q2 => ?_, fun q2 => ?_⟩⟩
    · rw [if_pos q1] at fin; exact fin
    · rw [if_neg q1, if_pos q2] at fin; exact fin
    · rw [if_neg q1, if_neg q2] at fin; exact fin
theorem P_sheet {Γ : Nat × (Nat → Int32)} {d : Nat} {σ : mS} (h : Rel σ) : mCall Γ M_X7_sheet (d + 12) 0 0 [.ref 0] 60 mSH σ (PO Γ (d + 12) xIO xIO M_X9_sheet 0 0 [.ref 26]) := by
  have h40 := h.n40
  have l0 := shL_len (DM σ) (bF (DM σ)) (dn (DM σ))
  obtain ⟨n, hn, hc, hm, hb⟩ := h.2.2.2.2.1
  refine E_X7_sheet_0 ?_
  have e0 : g_X3_shortenTo_3 σ 0 = mPI σ 3 1 0 := by
    rw [g_X3_shortenTo_3, if_neg (by decide), hc, if_neg (nI_pos (by omega))]
  have p0 : pX σ (g_X3_shortenTo_3 σ 0) [] := by
    rw [e0]
    exact ⟨fun a h1 h2 => mPI_ne h1, rfl, by rw [mPI_at, if_pos rfl]; rfl, fun i hi => absurd hi (Nat.not_lt_zero _)⟩
  refine L_sheetC h (fun τ1 p1 => ?_) (dn (DM σ)) 0 (Nat.zero_add _) _ p0
  refine ⟨rfl, rfl, 0, _, .inl ⟨rfl, rfl⟩, fun τ e Q hQ => ?_⟩
  have a1 : ∀ a, a ≠ 3 → a ≠ 4 → τ.1 a = σ.1 a := fun a h3 h4 => by rw [e.1]; exact p1.1 a h3 h4
  have a2 : ∀ a, a ≠ 59 → τ.2.1 a = σ.2.1 a := fun a h59 => by rw [e.2.1 a h59, p1.2.1]
  have eD : DM τ = DM σ := by
    rw [DM, DM, a1 32 (by decide) (by decide), a1 34 (by decide) (by decide), a1 36 (by decide) (by decide), a1 37 (by decide) (by decide), a1 38 (by decide) (by decide), a1 39 (by decide) (by decide), a1 40 (by decide) (by decide), a1 41 (by decide) (by decide), a2 35 (by decide), a2 33 (by decide)]
  refine E_X9_sheet_26 ?_
  have eθ : DM (mPI (mPI τ 26 0 0) 26 4 0) = DM σ := eD
  have q0 : mXp (mPI (mPI τ 26 0 0) 26 4 0) (mPI (mPI τ 26 0 0) 26 4 0) [] := ⟨fun _ _ _ => rfl, fun _ _ => rfl, rfl, by rw [mPI_at, if_pos rfl]; rfl, fun i hi => absurd hi (Nat.not_lt_zero _)⟩
  have hBτ : agr (dn (DM σ)) (τ.1 52) (bF (DM σ)) := by rw [a1 52 (by decide) (by decide)]; exact h.B
  refine L_sheetM (σ := mPI (mPI τ 26 0 0) 26 4 0) (by rw [sV, eθ]; exact h.S) (by rw [eθ]; exact h.1.2.2) (by rw [eθ, mPI_ne (by decide), mPI_ne (by decide)]; exact hBτ) (fun ρ p2 => ?_) (dn (DM (mPI (mPI τ 26 0 0) 26 4 0))) 0 (Nat.zero_add _) _ q0
  rw [eθ] at p2 ⊢
  refine hQ ρ ⟨Rel_P h (fun a ha h1 h2 h3 h4 => ?_) (fun k k0 k4 => ?_) (fun a ha => ?_) ⟨(shL (DM σ) (bF (DM σ)) (dn (DM σ))).length, by omega, ?_, p2.2.2.2.1, fun i hi => ?_⟩, ?_, ?_⟩
  · rw [p2.1 a h3 h4, mPI_ne h3, mPI_ne h3]; exact a1 a h1 h2
  · rw [p2.2.1 k k4, mPI_at, if_neg k4, mPI_at, if_neg k0]; rw [a1 26 (by decide) (by decide)]
  · rw [p2.2.2.1]; exact a2 a (by omega)
  · rw [p2.1 3 (by decide) (by decide), mPI_ne (by decide), mPI_ne (by decide), e.1]; exact p1.2.2.1
  · rw [p2.1 4 (by decide) (by decide), mPI_ne (by decide), mPI_ne (by decide), e.1, p1.2.2.2 i hi, p2.2.2.2.2 i hi]
  · rw [p2.2.1 0 (by decide), mPI_at, if_neg (by decide), mPI_at, if_pos rfl]
  · rw [p2.2.2.1]; rfl
