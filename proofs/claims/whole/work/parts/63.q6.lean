/-! ===== the tape: trim, feed ===== -/
theorem Rel_T {σ τ : mS} (h : Rel σ) (f1 : ∀ a, a < 60 → a ≠ 1 → a ≠ 2 → a ≠ 26 → a ≠ 27 → τ.1 a = σ.1 a) (f2 : ∀ k, k ≠ 0 → k ≠ 2 → τ.1 26 k = σ.1 26 k) (f3 : ∀ a, a < 59 → τ.2.1 a = σ.2.1 a) (t : RT τ) : Rel τ := by
  obtain ⟨⟨a1, a2, a3⟩, ⟨s1, s2, s3, s4, s5⟩, ⟨m1, m2, m3⟩, _, p, e⟩ := h
  have eM : DM τ = DM σ := by
    rw [DM, DM, f1 32 (by decide) (by decide) (by decide) (by decide) (by decide), f1 34 (by decide) (by decide) (by decide) (by decide) (by decide), f1 36 (by decide) (by decide) (by decide) (by decide) (by decide), f1 37 (by decide) (by decide) (by decide) (by decide) (by decide), f1 38 (by decide) (by decide) (by decide) (by decide) (by decide), f1 39 (by decide) (by decide) (by decide) (by decide) (by decide), f1 40 (by decide) (by decide) (by decide) (by decide) (by decide), f1 41 (by decide) (by decide) (by decide) (by decide) (by decide), f3 35 (by decide), f3 33 (by decide)]
  have eC : DC τ = DC σ := by
    rw [DC, DC, f1 5 (by decide) (by decide) (by decide) (by decide) (by decide), f1 9 (by decide) (by decide) (by decide) (by decide) (by decide), f1 10 (by decide) (by decide) (by decide) (by decide) (by decide), f1 11 (by decide) (by decide) (by decide) (by decide) (by decide), f1 12 (by decide) (by decide) (by decide) (by decide) (by decide), f1 13 (by decide) (by decide) (by decide) (by decide) (by decide), f1 7 (by decide) (by decide) (by decide) (by decide) (by decide), f3 5 (by decide), f3 8 (by decide), f3 6 (by decide)]
  refine ⟨⟨?_, by rw [eM, eC]; exact a2, by rw [eM]; exact a3⟩, ⟨?_, ?_, ?_, ?_, ?_⟩, ⟨?_, ?_, ?_, ?_, ?_⟩, t, ?_, ?_⟩
  · rw [cV, eC, f1 14 (by decide) (by decide) (by decide) (by decide) (by decide), f3 5 (by decide)]; exact a1
  · rw [f3 16 (by decide), f3 5 (by decide)]; exact s1
  · rw [f3 16 (by decide), eM]; exact s2
  · rw [f3 16 (by decide), eM]; exact s3
  · rw [f1 16 (by decide) (by decide) (by decide) (by decide) (by decide), eM]; exact s4
  · rw [f1 17 (by decide) (by decide) (by decide) (by decide) (by decide), eM]; exact s5
  · rw [f1 52 (by decide) (by decide) (by decide) (by decide) (by decide), f1 53 (by decide) (by decide) (by decide) (by decide) (by decide), eM]; exact m1
  · rw [f2 15 (by decide) (by decide), eM]; exact m2
  · rw [f2 18 (by decide) (by decide)]; exact m3.1
  · rw [f2 19 (by decide) (by decide)]; exact m3.2.1
  · rw [f2 20 (by decide) (by decide)]; exact m3.2.2
  · rw [RP, f1 3 (by decide) (by decide) (by decide) (by decide) (by decide), f2 4 (by decide) (by decide), f1 4 (by decide) (by decide) (by decide) (by decide) (by decide), f1 28 (by decide) (by decide) (by decide) (by decide) (by decide)]; exact p
  · rw [f1 0 (by decide) (by decide) (by decide) (by decide) (by decide), f2 1 (by decide) (by decide)]; exact e
theorem P_trim {Γ : Nat × (Nat → Int32)} {d : Nat} {σ : mS} (h : Rel σ) (x : Int32) : mCall Γ M_X7_trim (d + 12) 1 6 [.ref 0, .int x] 60 mSH σ (PO Γ (d + 12) xIA xIA M_X9_trim 0 0 [.ref 26, .int x]) := by
  obtain ⟨n, hn, hc, hm, hb⟩ := h.2.2.2.1
  have bad : (∀ k, k < n + 1 → x ≠ nI k) → PO Γ (d + 12) xIA xIA M_X9_trim 0 0 [.ref 26, .int x] (.inr xIA) 60 mSH σ := fun hx => by
    refine PO_q h (FQ_r σ) 1 0 (.inr (.inl ⟨rfl, rfl⟩)) (fun τ hτ e f Q hQ => ?_)
    refine C_X9_trim_26 x ⟨fun _ => noQ (hQ _ (Rel_q hτ 1)), fun c => absurd ?_ c⟩
    rw [f.1 26 (by decide) (by decide), hm]; exact isIn_0 (by omega) hx
  rcases itemCase (n + 1) x with ⟨k, hk, rfl⟩ | hx
  · refine C_X7_trim_0 (nI k) ⟨fun c => absurd c (nI_pos (by omega)), fun c0 => ⟨fun _ => ?_, fun c => absurd (by rw [show f_X3_length_1 σ = nI n from hc]; exact nI_le (by omega) (by omega)) c⟩⟩
    have eg : g_X3_shortenTo_1 σ (nI k) = mPI σ 1 1 (nI k) := by rw [g_X3_shortenTo_1, if_neg c0, hc, if_neg (nI_nlt (by omega) (by omega))]
    rw [eg]
    refine ⟨rfl, rfl, 0, _, .inl ⟨rfl, rfl⟩, fun τ e Q hQ => ?_⟩
    refine C_X9_trim_26 (nI k) ⟨fun c => ab1 ?_ c, fun _ => ?_⟩
    · rw [e.1, mPI_ne (by decide), hm]; exact isIn_1 (by omega) (by omega) rfl
    · refine hQ _ ⟨Rel_T h (fun a ha h1 h2 h3 h4 => ?_) (fun a h0 h2 => ?_) (fun a ha => ?_) ⟨k, by omega, ?_, ?_, fun i hi => ?_⟩, ?_, rfl⟩
      · rw [mPI_ne h3, mPI_ne h3, e.1, mPI_ne h1]
      · rw [mPI_at, if_neg h2, mPI_at, if_neg h0, e.1, mPI_ne (by decide)]
      · exact e.2.1 a (by omega)
      · rw [mPI_ne (by decide), mPI_ne (by decide), e.1, mPI_at, if_pos rfl]
      · rw [mPI_at, if_pos rfl]
      · rw [mPI_ne (by decide), mPI_ne (by decide), mPI_ne (by decide), mPI_ne (by decide), e.1, mPI_ne (by decide), mPI_ne (by decide)]; exact hb i (by omega)
      · rw [mPI_at, if_neg (by decide), mPI_at, if_pos rfl]
  · refine C_X7_trim_0 x ⟨fun _ => bad hx, fun c0 => ⟨fun c => ?_, fun _ => bad hx⟩⟩
    obtain ⟨j, hj, rfl⟩ := nI_of c0
    rw [show f_X3_length_1 σ = nI n from hc, nI_leI hj (by omega)] at c
    exact absurd rfl (hx j (by omega))
/-- a byte of five ints -/
def fbY (a : Nat → Int32) (i : Nat) : Int32 := (Int32.toUInt32 (a (i / 4)) >>> (Int32.toUInt32 (nI (24 - 8 * (i % 4))) &&& Int32.toUInt32 31)).toInt32 &&& 255
theorem byE (n : Nat) (hn : n ≤ 24) (x : Int32) : (x >>> (nI n &&& 31)) &&& 255 = (Int32.toUInt32 x >>> (Int32.toUInt32 (nI n) &&& Int32.toUInt32 31)).toInt32 &&& 255 := by
  refine b_ext (fun i hi => ?_)
  rw [b_and, b_and, b_255]
  by_cases e : i < 8
  · rw [b_sshr n (by omega) x hi, b_ushr n (by omega), if_pos (by omega)]
  · simp [e]
theorem byE0 (x : Int32) : x &&& 255 = (Int32.toUInt32 x >>> (Int32.toUInt32 (nI 0) &&& Int32.toUInt32 31)).toInt32 &&& 255 := by
  refine b_ext (fun i hi => ?_)
  rw [b_and, b_and, b_255]
  by_cases e : i < 8
  · rw [b_ushr 0 (by omega), Nat.zero_add]
  · simp [e]
def tX (σ τ : mS) (n m : Nat) (f : Nat → Int32) : Prop := (∀ a, a ≠ 1 → a ≠ 2 → τ.1 a = σ.1 a) ∧ τ.2 = σ.2 ∧ τ.1 1 1 = nI (n + m) ∧ (∀ i, i < n → τ.1 2 i = σ.1 2 i) ∧ ∀ i, i < m → τ.1 2 (n + i) &&& 255 = f i
theorem tX_app {σ τ : mS} {n m : Nat} {f : Nat → Int32} {a : Int32} (h : tX σ τ n m f) (hl : n + m < 2000) (hf : f m = a &&& 255) : tX σ (g_X3_append_1 τ a) n (m + 1) f := by
  obtain ⟨h1, h2, h3, h4, h5⟩ := h
  have e : g_X3_append_1 τ a = mPI (mPI τ 2 (n + m) (vp_nar .byte (Int32.toInt8 a).toInt32)) 1 1 (nI (n + (m + 1))) := by
    rw [g_X3_append_1, h3, if_neg (nI_pos (by omega)), if_neg (by rw [show (2000 : Int32) = nI 2000 by decide]; exact nI_ge (by omega) (by omega)), nI_clamp (by omega), nI_1]; rfl
  rw [e]
  refine ⟨fun b b1 b2 => ?_, h2, ?_, fun i hi => ?_, fun i hi => ?_⟩
  · rw [mPI_ne b1, mPI_ne b2]; exact h1 b b1 b2
  · rw [mPI_at, if_pos rfl]
  · rw [mPI_ne (by decide), mPI_at, if_neg (by omega)]; exact h4 i hi
  · rw [mPI_ne (by decide), mPI_at]
    by_cases q : i = m
    · subst q
      rw [if_pos rfl, vp_nar_byte, hf, ← bp_b a]
      have : (Int32.toInt8 (Int32.toInt8 a).toInt32) = Int32.toInt8 a := by simp
      rw [this]
    · rw [if_neg (by omega)]; exact h5 i (by omega)
theorem tX_four {σ τ : mS} {n q : Nat} {a : Nat → Int32} (h : tX σ τ n (4 * q) (fbY a)) (hl : n + 4 * q + 4 ≤ 2000) : tX σ (g_X3_appendFour_1 τ (a q)) n (4 * (q + 1)) (fbY a) := by
  rw [g_X3_appendFour_1]
  have a0 := tX_app (a := a q >>> (24 &&& 31)) h (by omega) (by rw [fbY, show (4 * q) / 4 = q by omega, show (4 * q) % 4 = 0 by omega]; exact (byE 24 (by omega) (a q)).symm)
  have a1 := tX_app (a := a q >>> (16 &&& 31)) a0 (by omega) (by rw [fbY, show (4 * q + 1) / 4 = q by omega, show (4 * q + 1) % 4 = 1 by omega]; exact (byE 16 (by omega) (a q)).symm)
  have a2 := tX_app (a := a q >>> (8 &&& 31)) a1 (by omega) (by rw [fbY, show (4 * q + 1 + 1) / 4 = q by omega, show (4 * q + 1 + 1) % 4 = 2 by omega]; exact (byE 8 (by omega) (a q)).symm)
  have a3 := tX_app (a := a q) a2 (by omega) (by rw [fbY, show (4 * q + 1 + 1 + 1) / 4 = q by omega, show (4 * q + 1 + 1 + 1) % 4 = 3 by omega]; exact (byE0 (a q)).symm)
  exact a3
def five (a b c d e : Int32) : Nat → Int32 := fun k => match k with
  | 0 => a
  | 1 => b
  | 2 => c
  | 3 => d
  | _ => e
theorem fd_k : ∀ i, i < 20 → nI i / 4 = nI (i / 4) ∧ (24 - 8 * (nI i - nI i / 4 * 4)) = nI (24 - 8 * (i % 4)) := by decide
theorem L_feedM {Γ : Nat × (Nat → Int32)} {d : Nat} {Q : mQ} {τ : mS} {n : Nat} {a : Nat → Int32} (hn : n + 20 ≤ 2000) (ht : τ.1 26 2 = nI n)
    (hQ : ∀ ρ, (∀ b, b < 60 → b ≠ 26 → b ≠ 27 → ρ.1 b = τ.1 b) → (∀ k, k ≠ 2 → ρ.1 26 k = τ.1 26 k) → (∀ b, b < 60 → ρ.2.1 b = τ.2.1 b) → ρ.1 26 2 = nI (n + 20) → (∀ i, i < n → ρ.1 27 i = τ.1 27 i) → (∀ i, i < 20 → ρ.1 27 (n + i) = fbY a i) → Q (.inl (some (.int (nI (n + 20))))) 60 mSH ρ) :
    ∀ m i, i + m = 20 → ∀ σ', (∀ b, b < 60 → b ≠ 27 → σ'.1 b = τ.1 b) → (∀ b, b < 60 → σ'.2.1 b = τ.2.1 b) → (∀ k, k < 5 → σ'.1 60 k = a k) → (∀ k, k < n → σ'.1 27 k = τ.1 27 k) → (∀ k, k < i → σ'.1 27 (n + k) = fbY a k) →
    mK Γ M_X9_feed (d + 2) Q 60 0 0 54 [(0, .ref 26), (6, .ref 60), (7, .int (nI i))] [] 61 (mNw mSH 60 (100, 5, fun _ => none)) σ'
  | 0, i, hm, σ', h1, h2, h3, h4, h5 => by
    refine T_X9_feed_26_54 _ ⟨fun _ => ?_, fun c => absurd (by rw [show (20 : Int32) = nI 20 by decide]; exact nI_le (by omega) (by omega)) c⟩
    have e26 : σ'.1 26 2 + 20 = nI (n + 20) := by rw [h1 26 (by decide) (by decide), ht]; exact nI_add n 20
    rw [e26]
    refine ⟨_, mBk_r _, hQ _ (fun b hb b1 b2 => ?_) (fun k hk => ?_) (fun b hb => h2 b hb) ?_ (fun k hk => ?_) (fun k hk => ?_)⟩
    · rw [mPI_ne b1]; exact h1 b hb b2
    · rw [mPI_at, if_neg hk, h1 26 (by decide) (by decide)]
    · rw [mPI_at, if_pos rfl]
    · rw [mPI_ne (by decide)]; exact h4 k hk
    · rw [mPI_ne (by decide)]; exact h5 k (by omega)
  | m + 1, i, hm, σ', h1, h2, h3, h4, h5 => by
    obtain ⟨k1, k2⟩ := fd_k i (by omega)
    have e26 : σ'.1 26 2 + nI i = nI (n + i) := by rw [h1 26 (by decide) (by decide), ht]; exact nI_add n i
    refine T_X9_feed_26_54 _ ⟨fun c => absurd c (by rw [show (20 : Int32) = nI 20 by decide]; exact nI_ge (by omega) (by omega)), fun _ => ?_⟩
    rw [k2, k1, e26, nI_clamp (show i / 4 < 2 ^ 31 by omega), nI_clamp (show n + i < 2 ^ 31 by omega), h3 (i / 4) (by omega), nI_1]
    refine ⟨vp_in_nI (by omega) (by omega), vp_in_nI (by omega) (by omega), ?_⟩
    refine L_feedM hn ht hQ m (i + 1) (by omega) _ (fun b hb b2 => ?_) h2 (fun k hk => ?_) (fun k hk => ?_) (fun k hk => ?_)
    · rw [mPI_ne b2]; exact h1 b hb b2
    · rw [mPI_ne (by decide)]; exact h3 k hk
    · rw [mPI_at, if_neg (by omega)]; exact h4 k hk
    · rw [mPI_at]
      by_cases q : k = i
      · subst q; rw [if_pos rfl]; rfl
      · rw [if_neg (by omega)]; exact h5 k (by omega)
theorem P_feed {Γ : Nat × (Nat → Int32)} {d : Nat} {σ : mS} (h : Rel σ) (x1 x2 x3 x4 x5 : Int32) : mCall Γ M_X7_feed (d + 12) 1 6 [.ref 0, .int x1, .int x2, .int x3, .int x4, .int x5] 60 mSH σ (PO Γ (d + 12) xIS xIS M_X9_feed 1 5 [.ref 26, .int x1, .int x2, .int x3, .int x4, .int x5]) := by
  obtain ⟨n, hn, hc, hm, hb⟩ := h.2.2.2.1
  have e20 : nI n + 20 = nI (n + 20) := nI_add n 20
  refine C_X7_feed_0 x1 x2 x3 x4 x5 ?_
  rw [show f_X3_length_1 σ = nI n from hc, e20, show (2000 : Int32) = nI 2000 by decide, nI_leI (by omega) (by omega)]
  refine ⟨fun c => ?_, fun c => ?_⟩
  · have t0 : tX σ σ n (4 * 0) (fbY (five x1 x2 x3 x4 x5)) := ⟨fun _ _ _ => rfl, rfl, hc, fun _ _ => rfl, fun i hi => absurd hi (by omega)⟩
    have t1 := tX_four t0 (by omega)
    have t2 := tX_four t1 (by omega)
    have t3 := tX_four t2 (by omega)
    have t4 := tX_four t3 (by omega)
    have t5 := tX_four t4 (by omega)
    have t5' : tX σ (g_X3_appendFour_1 (g_X3_appendFour_1 (g_X3_appendFour_1 (g_X3_appendFour_1 (g_X3_appendFour_1 σ x1) x2) x3) x4) x5) n 20 (fbY (five x1 x2 x3 x4 x5)) := t5
    generalize g_X3_appendFour_1 (g_X3_appendFour_1 (g_X3_appendFour_1 (g_X3_appendFour_1 (g_X3_appendFour_1 σ x1) x2) x3) x4) x5 = μ at t5'
    obtain ⟨u1, u2, u3, u4, u5⟩ := t5'
    refine ⟨rfl, rfl, 0, nI (n + 20), .inl ⟨rfl, by rw [show f_X3_length_1 μ = nI (n + 20) from u3]⟩, fun τ e Q hQ => ?_⟩
    have tt : τ.1 26 2 = nI n := by rw [e.1, u1 26 (by decide) (by decide), hm]
    refine E_X9_feed_26 x1 x2 x3 x4 x5 ?_
    rw [tt, e20, show (2000 : Int32) = nI 2000 by decide, nI_leI (by omega) (by omega)]
    refine ⟨fun _ => ?_, fun c' => absurd c c'⟩
    refine L_feedM (τ := th τ 0) (n := n) (a := five x1 x2 x3 x4 x5) (by omega) (by rw [th_26 τ 0 (by decide)]; exact tt) (fun ρ g1 g2 g3 g4 g5 g6 => ?_) 20 0 rfl _ (fun b hb' b2 => ?_) (fun b hb' => ?_) (fun k hk => ?_) (fun k hk => ?_) (fun k hk => absurd hk (by omega))
    · refine hQ ρ ⟨Rel_T h (fun a ha h1 h2 h3 h4 => ?_) (fun k k0 k2 => ?_) (fun a ha => ?_) ⟨n + 20, c, ?_, g4, fun i hi => ?_⟩, ?_, ?_⟩
      · rw [g1 a ha h3 h4, th_ne _ _ h3, e.1, u1 a h1 h2]
      · rw [g2 k k2, th_26 τ 0 k0, e.1, u1 26 (by decide) (by decide)]
      · rw [g3 a (by omega)]
        show τ.2.1 a = _
        rw [e.2.1 a (by omega), u2]
      · rw [g1 1 (by decide) (by decide) (by decide), th_ne _ _ (by decide), e.1, u3]
      · rw [g1 2 (by decide) (by decide) (by decide), th_ne _ _ (by decide), e.1]
        by_cases q : i < n
        · rw [g5 i q, th_ne _ _ (by decide), e.1, u4 i q, u1 27 (by decide) (by decide)]; exact hb i q
        · obtain ⟨k, rfl⟩ : ∃ k, i = n + k := ⟨i - n, by omega⟩
          rw [g6 k (by omega)]; exact u5 k (by omega)
      · rw [g2 0 (by decide)]; exact th_0 τ 0
      · rw [g3 59 (by decide)]; rfl
    · rw [mPI_ne (show b ≠ 60 by omega), mPI_ne (show b ≠ 60 by omega), mPI_ne (show b ≠ 60 by omega), mPI_ne (show b ≠ 60 by omega), mPI_ne (show b ≠ 60 by omega), mZr_ne (show b ≠ 60 by omega)]; rfl
    · show (if b = 60 then _ else (th τ 0).2.1 b) = _
      rw [if_neg (by omega)]
    · rcases k with _ | _ | _ | _ | _ | k
      all_goals first
        | omega
        | (simp only [mPI_at]; rfl)
    · rw [mPI_ne (by decide), mPI_ne (by decide), mPI_ne (by decide), mPI_ne (by decide), mPI_ne (by decide), mZr_ne (by decide)]; rfl
  · refine PO_q h (FQ_r σ) 1 0 (.inr (.inl ⟨rfl, rfl⟩)) (fun τ hτ e f Q hQ => ?_)
    refine E_X9_feed_26 x1 x2 x3 x4 x5 ?_
    rw [f.1 26 (by decide) (by decide), hm, e20, show (2000 : Int32) = nI 2000 by decide, nI_leI (by omega) (by omega)]
    exact ⟨fun c' => absurd c' c, fun _ => noQ (hQ _ (Rel_q hτ 1))⟩
/-! ===== the share ===== -/
def shV (a b : Nat) : UInt64 := if b = 0 then FP.dconst0 else FP.ddiv (FP.i2d (nI a)) (FP.i2d (nI b))
theorem sh_ok : ∀ a : Fin 41, ∀ b : Fin 41, b.1 ≠ 0 → (FP.ddiv (FP.i2d (nI a.1)) (FP.i2d (nI b.1))) &&& 0x7fffffffffffffff ≤ 0x7ff0000000000000 := by decide +kernel
theorem sh_eq : ∀ a : Fin 41, ∀ b : Fin 41, FP.dcmp (shV a.1 b.1) (shV a.1 b.1) = some .eq := by decide +kernel
theorem sh_vf {a b : Nat} (ha : a ≤ 40) (hb : b ≤ 40) (h : b ≠ 0) : vf_n64 (FP.ddiv (FP.i2d (nI a)) (FP.i2d (nI b))) := sh_ok ⟨a, by omega⟩ ⟨b, by omega⟩ h
def cE (D : mDeb) (b : Nat → Int32) (i : Nat) : Nat := mCnt (fun k => decide (dk D k = 0) && decide (b k = 1)) i
theorem cE_n (D : mDeb) (b : Nat → Int32) (i : Nat) (h : ¬ (dk D i = 0 ∧ b i = 1)) : cE D b (i + 1) = cE D b i := by
  rw [cE, mCnt]
  by_cases e : dk D i = 0
  · have : ¬ b i = 1 := fun q => h ⟨e, q⟩
    simp [e, this, cE]
  · simp [e, cE]
theorem cE_s (D : mDeb) (b : Nat → Int32) (i : Nat) (h : dk D i = 0 ∧ b i = 1) : cE D b (i + 1) = cE D b i + 1 := by
  rw [cE, mCnt]; simp [h.1, h.2, cE]
theorem nI_z {n : Nat} (hn : n < 2 ^ 31) (h : nI n = 0) : n = 0 := (nI_eq hn (by decide)).mp (h.trans nI_0.symm)
theorem L_shareM {Γ : Nat × (Nat → Int32)} {d n0 bc bs : Nat} {Q : mQ} {σ : mS} (h : Rel σ) (hQ : Q (.inl (some (.double (shV (cE (DM σ) (bF (DM σ)) (dn (DM σ))) (cJ (dk (DM σ)) 0 (dn (DM σ))))))) 60 mSH σ) :
    ∀ m i, i + m = dn (DM σ) → mK Γ M_X9_share (d + 1) Q n0 bc bs 11 [(0, .ref 26), (1, .int (nI (cJ (dk (DM σ)) 0 i))), (2, .int (nI (cE (DM σ) (bF (DM σ)) i))), (3, .int (nI i))] [] 60 mSH σ
  | 0, i, hm => by
    have h40 := h.n40
    have hi : i = dn (DM σ) := by omega
    subst hi
    have l1 : cJ (dk (DM σ)) 0 (dn (DM σ)) ≤ dn (DM σ) := mCnt_le ..
    have l2 : cE (DM σ) (bF (DM σ)) (dn (DM σ)) ≤ dn (DM σ) := mCnt_le ..
    rw [shV] at hQ
    refine T_X9_share_26_11 _ _ _ ⟨fun _ => ⟨fun c => ?_, fun c => ?_⟩, fun c => absurd (by rw [sV_n h.S]; exact nI_le (by omega) (by omega)) c⟩
    · have c0 : cJ (dk (DM σ)) 0 (dn (DM σ)) = 0 := nI_z (by omega) c
      rw [if_pos c0] at hQ; exact hQ
    · have c' : cJ (dk (DM σ)) 0 (dn (DM σ)) ≠ 0 := fun q => c (by rw [q]; rfl)
      rw [if_neg c'] at hQ
      exact ⟨sh_vf (by omega) (by omega) c', hQ⟩
  | m + 1, i, hm => by
    have h40 := h.n40
    have hi : i < dn (DM σ) := by omega
    have ih := L_shareM (d := d) (n0 := n0) (bc := bc) (bs := bs) (Γ := Γ) h hQ m (i + 1) (by omega)
    refine T_X9_share_26_11 _ _ _ ⟨fun c => absurd c (by rw [sV_n h.S]; exact nI_ge (by omega) (by omega)), fun _ => ⟨vp_in_nI (by omega) (by omega), ?_⟩⟩
    rw [nI_clamp (by omega), m_kind hi, h.B i hi, nI_1, nI_1, nI_1, Int32.add_zero]
    refine ⟨fun k0 => ⟨fun b1 => ?_, fun b1 => ?_⟩, fun k0 => ?_⟩
    · rw [cJ_s, if_pos (k0.trans (by decide)), cE_s _ _ _ ⟨k0, b1⟩] at ih; exact ih
    · rw [cJ_s, if_pos (k0.trans (by decide)), cE_n _ _ _ (fun q => b1 q.2)] at ih; exact ih
    · rw [cJ_s, if_neg (fun q => k0 (q.trans (by decide))), cE_n _ _ _ (fun q => k0 q.1), Nat.add_zero] at ih; exact ih
theorem P_share {Γ : Nat × (Nat → Int32)} {d : Nat} {σ : mS} (h : Rel σ) : mCall Γ M_X7_share (d + 12) 0 0 [.ref 0] 60 mSH σ (PG Γ (d + 12) M_X9_share 0 0 [.ref 26] (fun v => ∃ x, v = .double x ∧ FP.dcmp x x = some .eq)) := by
  have h40 := h.n40
  have l1 : cJ (dk (DM σ)) 0 (dn (DM σ)) ≤ dn (DM σ) := mCnt_le ..
  have l2 : cE (DM σ) (bF (DM σ)) (dn (DM σ)) ≤ dn (DM σ) := mCnt_le ..
  have e1 : mCnt (bB (f_X0_itemsOfKind_5 σ 0)) 64 = cJ (dk (DM σ)) 0 (dn (DM σ)) := cntB (by omega) (h.bKind 0)
  have e2 : mCnt (bB (f_X0_itemsOfKind_5 σ 0 &&& f_X4_itemsIn_16 σ)) 64 = cE (DM σ) (bF (DM σ)) (dn (DM σ)) := cntB (by omega) (fun k => by
    rw [bB_and, h.bKind, f_X4_itemsIn_16, h.2.1.2.1, h.bIn (by decide)]
    by_cases q : k < dn (DM σ) <;> simp [q])
  have ev : f_X7_share_0 σ = shV (cE (DM σ) (bF (DM σ)) (dn (DM σ))) (cJ (dk (DM σ)) 0 (dn (DM σ))) := by
    rw [f_X7_share_0, e1, e2, shV]
    by_cases q : cJ (dk (DM σ)) 0 (dn (DM σ)) = 0
    · rw [if_pos q, if_pos (by rw [q]; rfl)]
    · rw [if_neg q, if_neg (fun w => q (nI_z (by omega) w))]
  refine S_X7_share_0 h.cn (fun c => ?_) ?_
  · rw [e1] at c
    rw [e1, e2]
    exact sh_vf (by omega) (by omega) (fun q => c (by rw [q]; rfl))
  · rw [ev]
    refine ⟨rfl, rfl, _, ⟨_, rfl, sh_eq ⟨cE (DM σ) (bF (DM σ)) (dn (DM σ)), by omega⟩ ⟨cJ (dk (DM σ)) 0 (dn (DM σ)), by omega⟩⟩, rfl, fun τ e Q hQ => ?_⟩
    have hτ : Rel τ := Rel_FQ h (FQ_e (FQ_r σ) e)
    have eD : DM τ = DM σ := FQ_DM (FQ_e (FQ_r σ) e)
    refine E_X9_share_26 ?_
    refine L_shareM (σ := th τ 0) (Rel_th hτ 0) ?_ (dn (DM (th τ 0))) 0 (Nat.zero_add _)
    rw [show DM (th τ 0) = DM σ from eD]
    exact hQ _ ⟨Rel_th hτ 0, rfl⟩
