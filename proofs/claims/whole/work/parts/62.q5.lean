theorem O_why {Γ : Nat × (Nat → Int32)} {d : Nat} {Q : mQ} {σ : mS} {b : Nat → Int32} (x : Nat) (h : sI_16 σ b) (hx : x < dn (DC σ)) (hQ : Q (.inl (some (.int (dWhy (DC σ) b x)))) 60 mSH σ) : mCall Γ M_X7_why (d + 3) 0 0 [.ref 0, .int (nI x)] 60 mSH σ Q := by
  have hn := h.1.1.2.1
  refine O_X7_why_0 (nI x) ⟨fun c => ?_, fun _ => ?_⟩
  · rw [c_hasItem h.1 hx] at c; exact absurd c (by decide)
  · rw [c_isOut0_16 hn h.2.1 h.2.2.2 (by omega)]
    rw [dWhy] at hQ
    refine ⟨fun c => ?_, fun c => ?_⟩
    · rw [if_neg c] at hQ; exact hQ
    · rw [if_pos (Classical.not_not.mp c)] at hQ
      exact L_why h hx (dn (DC σ)) 0 (by omega) hQ
theorem O_far {Γ : Nat × (Nat → Int32)} {d : Nat} {Q : mQ} {σ : mS} (x : Nat) (h : cV σ) (hx : x < dn (DC σ)) (hQ : Q (.inl (some (.int (dFar (DC σ) x)))) 60 mSH σ) : mCall Γ M_X7_far (d + 3) 0 0 [.ref 0, .int (nI x)] 60 mSH σ Q := by
  refine O_X7_far_0 (nI x) ⟨fun c => ?_, fun _ => ?_⟩
  · rw [c_hasItem h hx] at c; exact absurd c (by decide)
  · rw [c_target h hx]
    refine L_far h 40 0 _ (by omega) ?_ (by rw [Nat.zero_add]; exact hQ)
    rcases dV_t h.1 hx with e | ⟨i, hi, e⟩
    · exact .inl e
    · exact .inr ⟨i, by omega, e⟩
/-! ===== the checksum: both sides ===== -/
def dgL (f : Nat → Int32) (s : Int64) : Nat → Int64
  | 0 => s
  | i + 1 => dgL f s i * 31 + Int32.toInt64 (f i)
noncomputable def dgP (D : mDeb) (s : Int64) : Nat → Int64
  | 0 => s
  | p + 1 => dgL (aSpk D (coD D noS) (bF D) p) (dgP D s p) 7
noncomputable def dgI (D : mDeb) (s : Int64) : Nat → Int64
  | 0 => s
  | k + 1 => (dgL (aItm D (bF D) (nF D) k) (dgI D s k) 11 * 31 + Int32.toInt64 (dWhy D (bF D) k)) * 31 + Int32.toInt64 (dFar D k)
noncomputable def dgA (D : mDeb) (tl pl : Int32) (f : Nat → Int32) (n : Nat) : Int64 := dgL f (dgI D (dgP D (dgL (aCnt D (bF D) (nI (rF D)) tl pl) 719 12) (ds D)) (dn D)) n
theorem i7 : (7 : Int32) = nI 7 := by decide
theorem i12 : (12 : Int32) = nI 12 := by decide
theorem i11 : (11 : Int32) = nI 11 := by decide
theorem L_dgC1 {Γ : Nat × (Nat → Int32)} {d n0 bc bs : Nat} {Q : mQ} {σ : mS} (h : Rel σ)
    (k : mK Γ M_X7_digest (d + 7) Q n0 bc bs 33 [(0, .ref 0), (1, .long (dgL (aCnt (DM σ) (bF (DM σ)) (nI (rF (DM σ))) (σ.1 1 1) (σ.1 3 1)) 719 12)), (3, .int 0)] [] 60 mSH σ) :
    ∀ m i, i + m = 12 → mK Γ M_X7_digest (d + 7) Q n0 bc bs 6 [(0, .ref 0), (1, .long (dgL (aCnt (DM σ) (bF (DM σ)) (nI (rF (DM σ))) (σ.1 1 1) (σ.1 3 1)) 719 i)), (3, .int (nI i))] [] 60 mSH σ
  | 0, i, hm => T_X7_digest_0_6 _ _ ⟨fun _ => by rw [show i = 12 by omega]; exact k, fun c => absurd (by rw [i12]; exact nI_le (by omega) (by omega)) c⟩
  | m + 1, i, hm => by
    have ih := L_dgC1 h k m (i + 1) (by omega)
    refine T_X7_digest_0_6 _ _ ⟨fun c => absurd c (by rw [i12]; exact nI_ge (by omega) (by omega)), fun _ => ?_⟩
    refine O_count h (nI i) (fun j hj e => T_X7_digest_0_22a _ _ _ _ ?_) (fun hx => absurd rfl (hx i (by omega)))
    have e' : i = j := (nI_eq (by omega) (by omega)).mp e
    subst e'
    rw [nI_1]; exact ih
theorem L_dgC3 {Γ : Nat × (Nat → Int32)} {d n0 bc bs : Nat} {Q : mQ} {σ : mS} {p : Nat} {s : Int64} (h : Rel σ) (hp : p < ds (DM σ))
    (k : mK Γ M_X7_digest (d + 7) Q n0 bc bs 33 [(0, .ref 0), (1, .long (dgL (aSpk (DM σ) (coD (DM σ) noS) (bF (DM σ)) p) s 7)), (3, .int (nI (p + 1)))] [] 60 mSH σ) :
    ∀ m i, i + m = 7 → mK Γ M_X7_digest (d + 7) Q n0 bc bs 47 [(0, .ref 0), (1, .long (dgL (aSpk (DM σ) (coD (DM σ) noS) (bF (DM σ)) p) s i)), (3, .int (nI p)), (4, .int (nI i))] [] 60 mSH σ
  | 0, i, hm => T_X7_digest_0_47 _ _ _ ⟨fun _ => by rw [show i = 7 by omega, nI_1]; exact k, fun c => absurd (by rw [i7]; exact nI_le (by omega) (by omega)) c⟩
  | m + 1, i, hm => by
    have ih := L_dgC3 h hp k m (i + 1) (by omega)
    refine T_X7_digest_0_47 _ _ _ ⟨fun c => absurd c (by rw [i7]; exact nI_ge (by omega) (by omega)), fun _ => ?_⟩
    refine O_spk h p hp (nI i) (fun j hj e => T_X7_digest_0_66a _ _ _ _ _ ?_) (fun hx => absurd rfl (hx i (by omega)))
    have e' : i = j := (nI_eq (by omega) (by omega)).mp e
    subst e'
    rw [nI_1]; exact ih
theorem L_dgC2 {Γ : Nat × (Nat → Int32)} {d n0 bc bs : Nat} {Q : mQ} {σ : mS} {s : Int64} (h : Rel σ)
    (k : mK Γ M_X7_digest (d + 7) Q n0 bc bs 83 [(0, .ref 0), (1, .long (dgP (DM σ) s (ds (DM σ)))), (3, .int 0)] [] 60 mSH σ) :
    ∀ m i, i + m = ds (DM σ) → mK Γ M_X7_digest (d + 7) Q n0 bc bs 33 [(0, .ref 0), (1, .long (dgP (DM σ) s i)), (3, .int (nI i))] [] 60 mSH σ
  | 0, i, hm => by
    have h6 := h.s6
    have e : f_X0_speakers_5 σ = nI (ds (DM σ)) := by rw [← h.D]; exact cV_s h.V
    exact T_X7_digest_0_33 _ _ ⟨fun _ => by rw [show i = ds (DM σ) by omega]; exact k, fun c => absurd (by rw [e]; exact nI_le (by omega) (by omega)) c⟩
  | m + 1, i, hm => by
    have h6 := h.s6
    have e : f_X0_speakers_5 σ = nI (ds (DM σ)) := by rw [← h.D]; exact cV_s h.V
    have ih := L_dgC2 h k m (i + 1) (by omega)
    refine T_X7_digest_0_33 _ _ ⟨fun c => absurd c (by rw [e]; exact nI_ge (by omega) (by omega)), fun _ => ?_⟩
    exact L_dgC3 h (by omega) ih 7 0 rfl
theorem L_dgC5 {Γ : Nat × (Nat → Int32)} {d n0 bc bs : Nat} {Q : mQ} {σ : mS} {x : Nat} {s : Int64} (h : Rel σ) (hx : x < dn (DM σ))
    (k : mK Γ M_X7_digest (d + 7) Q n0 bc bs 83 [(0, .ref 0), (1, .long ((dgL (aItm (DM σ) (bF (DM σ)) (nF (DM σ)) x) s 11 * 31 + Int32.toInt64 (dWhy (DM σ) (bF (DM σ)) x)) * 31 + Int32.toInt64 (dFar (DM σ) x))), (3, .int (nI (x + 1)))] [] 60 mSH σ) :
    ∀ m i, i + m = 11 → mK Γ M_X7_digest (d + 7) Q n0 bc bs 97 [(0, .ref 0), (1, .long (dgL (aItm (DM σ) (bF (DM σ)) (nF (DM σ)) x) s i)), (3, .int (nI x)), (4, .int (nI i))] [] 60 mSH σ
  | 0, i, hm => by
    have hx' : x < dn (DC σ) := by rw [h.D]; exact hx
    refine T_X7_digest_0_97 _ _ _ ⟨fun _ => ?_, fun c => absurd (by rw [i11]; exact nI_le (by omega) (by omega)) c⟩
    rw [show i = 11 by omega]
    refine O_why (b := bF (DM σ)) x h.I hx' (T_X7_digest_0_135a _ _ _ _ _ ?_)
    refine O_far x h.V hx' (T_X7_digest_0_148a _ _ _ _ _ ?_)
    rw [h.D, nI_1]; exact k
  | m + 1, i, hm => by
    have ih := L_dgC5 h hx k m (i + 1) (by omega)
    refine T_X7_digest_0_97 _ _ _ ⟨fun c => absurd c (by rw [i11]; exact nI_ge (by omega) (by omega)), fun _ => ?_⟩
    refine O_itm h x hx (nI i) (fun j hj e => T_X7_digest_0_116a _ _ _ _ _ ?_) (fun hy => absurd rfl (hy i (by omega)))
    have e' : i = j := (nI_eq (by omega) (by omega)).mp e
    subst e'
    rw [nI_1]; exact ih
theorem L_dgC4 {Γ : Nat × (Nat → Int32)} {d n0 bc bs : Nat} {Q : mQ} {σ : mS} {s : Int64} (h : Rel σ)
    (k : mK Γ M_X7_digest (d + 7) Q n0 bc bs 159 [(0, .ref 0), (1, .long (dgI (DM σ) s (dn (DM σ)))), (3, .int 0)] [] 60 mSH σ) :
    ∀ m i, i + m = dn (DM σ) → mK Γ M_X7_digest (d + 7) Q n0 bc bs 83 [(0, .ref 0), (1, .long (dgI (DM σ) s i)), (3, .int (nI i))] [] 60 mSH σ
  | 0, i, hm => by
    have h40 := h.n40
    have e : f_X0_items_5 σ = nI (dn (DM σ)) := by rw [← h.D]; exact cV_n h.V
    exact T_X7_digest_0_83 _ _ ⟨fun _ => by rw [show i = dn (DM σ) by omega]; exact k, fun c => absurd (by rw [e]; exact nI_le (by omega) (by omega)) c⟩
  | m + 1, i, hm => by
    have h40 := h.n40
    have e : f_X0_items_5 σ = nI (dn (DM σ)) := by rw [← h.D]; exact cV_n h.V
    have ih := L_dgC4 h k m (i + 1) (by omega)
    refine T_X7_digest_0_83 _ _ ⟨fun c => absurd c (by rw [e]; exact nI_ge (by omega) (by omega)), fun _ => ?_⟩
    exact L_dgC5 h (by omega) ih 11 0 rfl
theorem L_dgC6 {Γ : Nat × (Nat → Int32)} {d n0 bc bs : Nat} {Q : mQ} {σ : mS} {s : Int64} {n : Nat} (hn : n ≤ 920) (hl : σ.1 3 1 = nI n) (hb : ∀ i, i < n → σ.1 4 i &&& 255 = σ.1 28 i)
    (hQ : Q (.inl (some (.long (dgL (σ.1 28) s n)))) 60 mSH σ) :
    ∀ m i, i + m = n → mK Γ M_X7_digest (d + 7) Q n0 bc bs 159 [(0, .ref 0), (1, .long (dgL (σ.1 28) s i)), (3, .int (nI i))] [] 60 mSH σ
  | 0, i, hm => T_X7_digest_0_159 _ _ ⟨fun _ => by rw [show i = n by omega]; exact hQ, fun c => absurd (by rw [f_X3_length_3, hl]; exact nI_le (by omega) (by omega)) c⟩
  | m + 1, i, hm => by
    have ih := L_dgC6 (Γ := Γ) (d := d) (n0 := n0) (bc := bc) (bs := bs) hn hl hb hQ m (i + 1) (by omega)
    refine T_X7_digest_0_159 _ _ ⟨fun c => absurd c (by rw [f_X3_length_3, hl]; exact nI_ge (by omega) (by omega)), fun _ => ?_⟩
    rw [f_X3_at_3, if_neg (nI_pos (by omega)), if_neg (by rw [hl]; exact nI_ge (by omega) (by omega)), if_neg (by rw [show (920 : Int32) = nI 920 by decide]; exact nI_ge (by omega) (by omega)), nI_clamp (by omega), hb i (by omega), nI_1]
    exact ih
theorem S_digestC {Γ : Nat × (Nat → Int32)} {d : Nat} {Q : mQ} {σ : mS} (h : Rel σ) {n : Nat} (hn : n ≤ 920) (hl : σ.1 3 1 = nI n) (hb : ∀ i, i < n → σ.1 4 i &&& 255 = σ.1 28 i)
    (hQ : Q (.inl (some (.long (dgA (DM σ) (σ.1 1 1) (σ.1 3 1) (σ.1 28) n)))) 60 mSH σ) : mCall Γ M_X7_digest (d + 7) 0 0 [.ref 0] 60 mSH σ Q :=
  E_X7_digest_0 (L_dgC1 h (L_dgC2 h (L_dgC4 h (L_dgC6 hn hl hb hQ n 0 (Nat.zero_add _)) (dn (DM σ)) 0 (Nat.zero_add _)) (ds (DM σ)) 0 (Nat.zero_add _)) 12 0 rfl)
theorem L_dgM1 {Γ : Nat × (Nat → Int32)} {d n0 bc bs : Nat} {Q : mQ} {σ : mS} (h : Rel σ)
    (k : mK Γ M_X9_digest (d + 5) Q n0 bc bs 38 [(0, .ref 26), (1, .long (dgL (aCnt (DM σ) (bF (DM σ)) (nI (rF (DM σ))) (σ.1 26 2) (σ.1 26 4)) 719 12)), (3, .int 0)] [] 60 mSH σ) :
    ∀ m i, i + m = 12 → mK Γ M_X9_digest (d + 5) Q n0 (bc + 3 * m) (bs + 18 * m) 11 [(0, .ref 26), (1, .long (dgL (aCnt (DM σ) (bF (DM σ)) (nI (rF (DM σ))) (σ.1 26 2) (σ.1 26 4)) 719 i)), (3, .int (nI i))] [] 60 mSH σ
  | 0, i, hm => T_X9_digest_26_11 _ _ ⟨fun _ => by rw [show i = 12 by omega]; exact k, fun c => absurd (by rw [i11]; exact nI_lt (by omega) (by omega)) c⟩
  | m + 1, i, hm => by
    have ih := L_dgM1 h k m (i + 1) (by omega)
    refine T_X9_digest_26_11 _ _ ⟨fun c => absurd c (by rw [i11]; exact nI_nlt (by omega) (by omega)), fun _ => ⟨by omega, ?_⟩⟩
    rw [show bc + 3 * (m + 1) - 3 = bc + 3 * m by omega, show bs + 18 * (m + 1) - 18 = bs + 18 * m by omega]
    refine S_counted i h (by omega) (T_X9_digest_26_27a _ _ _ _ ?_)
    rw [nI_1]; exact ih
theorem L_dgM3 {Γ : Nat × (Nat → Int32)} {d n0 bc bs : Nat} {Q : mQ} {σ : mS} {p : Nat} {s : Int64} (h : Rel σ) (hp : p < ds (DM σ))
    (k : mK Γ M_X9_digest (d + 5) Q n0 bc bs 38 [(0, .ref 26), (1, .long (dgL (aSpk (DM σ) (coD (DM σ) noS) (bF (DM σ)) p) s 7)), (3, .int (nI (p + 1)))] [] 60 mSH σ) :
    ∀ m i, i + m = 7 → mK Γ M_X9_digest (d + 5) Q n0 (bc + 2 * m) (bs + 10 * m) 52 [(0, .ref 26), (1, .long (dgL (aSpk (DM σ) (coD (DM σ) noS) (bF (DM σ)) p) s i)), (3, .int (nI p)), (4, .int (nI i))] [] 60 mSH σ
  | 0, i, hm => T_X9_digest_26_52 _ _ _ ⟨fun _ => by rw [show i = 7 by omega, nI_1]; exact k, fun c => absurd (by rw [i01.2.2.2.2.2.2.1]; exact nI_lt (by omega) (by omega)) c⟩
  | m + 1, i, hm => by
    have ih := L_dgM3 h hp k m (i + 1) (by omega)
    refine T_X9_digest_26_52 _ _ _ ⟨fun c => absurd c (by rw [i01.2.2.2.2.2.2.1]; exact nI_nlt (by omega) (by omega)), fun _ => ⟨by omega, ?_⟩⟩
    rw [show bc + 2 * (m + 1) - 2 = bc + 2 * m by omega, show bs + 10 * (m + 1) - 10 = bs + 10 * m by omega]
    refine S_spkTold p i h hp (by omega) (T_X9_digest_26_71a _ _ _ _ _ ?_)
    rw [nI_1]; exact ih
theorem L_dgM2 {Γ : Nat × (Nat → Int32)} {d n0 bc bs : Nat} {Q : mQ} {σ : mS} {s : Int64} (h : Rel σ)
    (k : mK Γ M_X9_digest (d + 5) Q n0 bc bs 88 [(0, .ref 26), (1, .long (dgP (DM σ) s (ds (DM σ)))), (3, .int 0)] [] 60 mSH σ) :
    ∀ m i, i + m = ds (DM σ) → mK Γ M_X9_digest (d + 5) Q n0 (bc + 14 * m) (bs + 70 * m) 38 [(0, .ref 26), (1, .long (dgP (DM σ) s i)), (3, .int (nI i))] [] 60 mSH σ
  | 0, i, hm => by
    have h6 := h.s6
    exact T_X9_digest_26_38 _ _ ⟨fun _ => by rw [show i = ds (DM σ) by omega]; exact k, fun c => absurd (by rw [sV_s h.S]; exact nI_le (by omega) (by omega)) c⟩
  | m + 1, i, hm => by
    have h6 := h.s6
    have ih := L_dgM2 h k m (i + 1) (by omega)
    refine T_X9_digest_26_38 _ _ ⟨fun c => absurd c (by rw [sV_s h.S]; exact nI_ge (by omega) (by omega)), fun _ => ?_⟩
    rw [show bc + 14 * (m + 1) = bc + 14 * m + 2 * 7 by omega, show bs + 70 * (m + 1) = bs + 70 * m + 10 * 7 by omega]
    exact L_dgM3 h (by omega) ih 7 0 rfl
theorem L_dgM5 {Γ : Nat × (Nat → Int32)} {d n0 bc bs : Nat} {Q : mQ} {σ : mS} {x : Nat} {s : Int64} (h : Rel σ) (hx : x < dn (DM σ))
    (k : mK Γ M_X9_digest (d + 5) Q n0 bc bs 88 [(0, .ref 26), (1, .long ((dgL (aItm (DM σ) (bF (DM σ)) (nF (DM σ)) x) s 11 * 31 + Int32.toInt64 (dWhy (DM σ) (bF (DM σ)) x)) * 31 + Int32.toInt64 (dFar (DM σ) x))), (3, .int (nI (x + 1)))] [] 60 mSH σ) :
    ∀ m i, i + m = 11 → mK Γ M_X9_digest (d + 5) Q n0 bc bs 102 [(0, .ref 26), (1, .long (dgL (aItm (DM σ) (bF (DM σ)) (nF (DM σ)) x) s i)), (3, .int (nI x)), (4, .int (nI i))] [] 60 mSH σ
  | 0, i, hm => by
    refine T_X9_digest_26_102 _ _ _ ⟨fun _ => ?_, fun c => absurd (by rw [i01.2.2.2.2.2.2.2.2.2.2.1]; exact nI_lt (by omega) (by omega)) c⟩
    rw [show i = 11 by omega]
    refine S_whyOf x h.S hx (T_X9_digest_26_140a _ _ _ _ _ ?_)
    refine S_farOf x h.S hx (T_X9_digest_26_151a _ _ _ _ _ ?_)
    rw [dWhy_congr h.B hx, nI_1]; exact k
  | m + 1, i, hm => by
    have ih := L_dgM5 h hx k m (i + 1) (by omega)
    refine T_X9_digest_26_102 _ _ _ ⟨fun c => absurd c (by rw [i01.2.2.2.2.2.2.2.2.2.2.1]; exact nI_nlt (by omega) (by omega)), fun _ => ?_⟩
    refine S_itmTold x i h hx (by omega) (T_X9_digest_26_121a _ _ _ _ _ ?_)
    rw [nI_1]; exact ih
theorem L_dgM4 {Γ : Nat × (Nat → Int32)} {d n0 bc bs : Nat} {Q : mQ} {σ : mS} {s : Int64} (h : Rel σ)
    (k : mK Γ M_X9_digest (d + 5) Q n0 bc bs 162 [(0, .ref 26), (1, .long (dgI (DM σ) s (dn (DM σ)))), (3, .int 0)] [] 60 mSH σ) :
    ∀ m i, i + m = dn (DM σ) → mK Γ M_X9_digest (d + 5) Q n0 bc bs 88 [(0, .ref 26), (1, .long (dgI (DM σ) s i)), (3, .int (nI i))] [] 60 mSH σ
  | 0, i, hm => by
    have h40 := h.n40
    exact T_X9_digest_26_88 _ _ ⟨fun _ => by rw [show i = dn (DM σ) by omega]; exact k, fun c => absurd (by rw [sV_n h.S]; exact nI_le (by omega) (by omega)) c⟩
  | m + 1, i, hm => by
    have h40 := h.n40
    have ih := L_dgM4 h k m (i + 1) (by omega)
    refine T_X9_digest_26_88 _ _ ⟨fun c => absurd c (by rw [sV_n h.S]; exact nI_ge (by omega) (by omega)), fun _ => ?_⟩
    exact L_dgM5 h (by omega) ih 11 0 rfl
theorem L_dgM6 {Γ : Nat × (Nat → Int32)} {d n0 bc bs : Nat} {Q : mQ} {σ : mS} {s : Int64} {n : Nat} (hn : n ≤ 920) (hl : σ.1 26 4 = nI n)
    (hQ : Q (.inl (some (.long (dgL (σ.1 28) s n)))) 60 mSH σ) :
    ∀ m i, i + m = n → mK Γ M_X9_digest (d + 5) Q n0 bc bs 162 [(0, .ref 26), (1, .long (dgL (σ.1 28) s i)), (3, .int (nI i))] [] 60 mSH σ
  | 0, i, hm => T_X9_digest_26_162 _ _ ⟨fun _ => by rw [show i = n by omega]; exact hQ, fun c => absurd (by rw [hl]; exact nI_le (by omega) (by omega)) c⟩
  | m + 1, i, hm => by
    have ih := L_dgM6 (Γ := Γ) (d := d) (n0 := n0) (bc := bc) (bs := bs) hn hl hQ m (i + 1) (by omega)
    refine T_X9_digest_26_162 _ _ ⟨fun c => absurd c (by rw [hl]; exact nI_ge (by omega) (by omega)), fun _ => ⟨vp_in_nI (by omega) (by omega), ?_⟩⟩
    rw [nI_clamp (by omega), nI_1]
    exact ih
theorem S_digestM {Γ : Nat × (Nat → Int32)} {d : Nat} {Q : mQ} {σ : mS} (h : Rel σ) {n : Nat} (hn : n ≤ 920) (hl : σ.1 26 4 = nI n)
    (hQ : Q (.inl (some (.long (dgA (DM σ) (σ.1 26 2) (σ.1 26 4) (σ.1 28) n)))) 60 mSH (th σ 0)) : mCall Γ M_X9_digest (d + 5) 120 636 [.ref 26] 60 mSH σ Q := by
  have h6 := h.s6
  have hθ := Rel_th h 0
  have k4 := L_dgM4 (Γ := Γ) (d := d) (n0 := 60) (bc := 84 - 14 * ds (DM σ)) (bs := 420 - 70 * ds (DM σ)) (Q := Q) hθ (L_dgM6 (σ := th σ 0) hn (by rw [th_26 σ 0 (by decide)]; exact hl) hQ n 0 (Nat.zero_add _)) (dn (DM σ)) 0 (Nat.zero_add _)
  have k2 := L_dgM2 hθ k4 (ds (DM σ)) 0 (Nat.zero_add _)
  rw [show 84 - 14 * ds (DM σ) + 14 * ds (DM σ) = 84 by omega, show 420 - 70 * ds (DM σ) + 70 * ds (DM σ) = 420 by omega] at k2
  exact E_X9_digest_26 (L_dgM1 hθ k2 12 0 rfl)
/-- answers that are no ints -/
def PG (Γ : Nat × (Nat → Int32)) (d : Nat) (JM : mM) (c s : Nat) (as : List Value) (ok : Value → Prop) (o : mO) (N : Nat) (sh : mH) (τ : mS) : Prop :=
  N = 60 ∧ sh = mSH ∧ ∃ v : Value, ok v ∧ o = .inl (some v) ∧
    ∀ τ', e59 τ τ' → ∀ Q : mQ, (∀ ρ, Rel ρ ∧ ρ.2.1 59 = τ'.2.1 59 → Q (.inl (some v)) 60 mSH ρ) → mCall Γ JM d c s as 60 mSH τ' Q
theorem P_digest {Γ : Nat × (Nat → Int32)} {d : Nat} {σ : mS} (h : Rel σ) : mCall Γ M_X7_digest (d + 12) 0 0 [.ref 0] 60 mSH σ (PG Γ (d + 12) M_X9_digest 120 636 [.ref 26] (fun v => ∃ x, v = .long x)) := by
  obtain ⟨n, hn, hc, hm, hb⟩ := h.2.2.2.2.1
  refine S_digestC h hn hc hb ⟨rfl, rfl, _, ⟨_, rfl⟩, rfl, fun τ e Q hQ => ?_⟩
  have hτ : Rel τ := Rel_FQ h (FQ_e (FQ_r σ) e)
  refine S_digestM hτ hn (by rw [e.1]; exact hm) ?_
  have eD : DM τ = DM σ := FQ_DM (FQ_e (FQ_r σ) e)
  have t1 : τ.1 26 2 = σ.1 1 1 := by
    obtain ⟨n, _, a, b, _⟩ := h.2.2.2.1
    rw [e.1, b, a]
  have t2 : τ.1 26 4 = σ.1 3 1 := by rw [e.1, hm, hc]
  rw [eD, t1, t2, show τ.1 28 = σ.1 28 by rw [e.1]]
  exact hQ _ ⟨Rel_th hτ 0, rfl⟩
