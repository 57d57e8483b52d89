/-! ===== what a round finds ===== -/
theorem c_isIn_16 {σ : mS} {b : Nat → Int32} {n : Nat} (hn : n ≤ 40) (hb : sOk n b) (hi : σ.2.1 16 3 = sSet b 1) {k : Nat} (hk : k < 64) : f_X4_isIn_16 σ (nI k) = if b k = 1 then 1 else 0 := by
  rw [f_X4_isIn_16, hi]
  have := bB_isIn (sSet b 1) hk
  rw [bB_sSet hn (by decide) hb] at this
  by_cases e : b k = 1
  · rw [if_pos e, if_neg (fun q => by have := this.mp q; simp [e] at this)]
  · rw [if_neg e, if_pos (this.mpr (by simp [e]))]
theorem c_isOut_16 {σ : mS} {b : Nat → Int32} {n : Nat} (hn : n ≤ 40) (hb : sOk n b) (hi : σ.2.1 16 4 = sSet b 2) {k : Nat} (hk : k < 64) : f_X4_isOut_16 σ (nI k) = if b k = 2 then 1 else 0 := by
  rw [f_X4_isOut_16, hi]
  have := bB_isIn (sSet b 2) hk
  rw [bB_sSet hn (by decide) hb] at this
  by_cases e : b k = 2
  · rw [if_pos e, if_neg (fun q => by have := this.mp q; simp [e] at this)]
  · rw [if_neg e, if_pos (this.mpr (by simp [e]))]
theorem c_isIn_m_16 (σ : mS) : f_X4_isIn_16 σ (-1) = f_X4_isIn_16 σ (nI 63) := by
  have : (Int32.toInt64 (-1) &&& 63) = (Int32.toInt64 (nI 63) &&& 63) := by decide
  rw [f_X4_isIn_16, f_X4_isIn_16, this]
theorem c_isOut_m_16 (σ : mS) : f_X4_isOut_16 σ (-1) = f_X4_isOut_16 σ (nI 63) := by
  have : (Int32.toInt64 (-1) &&& 63) = (Int32.toInt64 (nI 63) &&& 63) := by decide
  rw [f_X4_isOut_16, f_X4_isOut_16, this]
theorem c_isIn0_16 {σ : mS} {b : Nat → Int32} {n : Nat} (hn : n ≤ 40) (hb : sOk n b) (hi : σ.2.1 16 3 = sSet b 1) {k : Nat} (hk : k < 64) : f_X4_isIn_16 σ (nI k) = 0 ↔ b k ≠ 1 := by
  rw [c_isIn_16 hn hb hi hk]
  by_cases e : b k = 1 <;> simp [e]
theorem c_isOut0_16 {σ : mS} {b : Nat → Int32} {n : Nat} (hn : n ≤ 40) (hb : sOk n b) (hi : σ.2.1 16 4 = sSet b 2) {k : Nat} (hk : k < 64) : f_X4_isOut_16 σ (nI k) = 0 ↔ b k ≠ 2 := by
  rw [c_isOut_16 hn hb hi hk]
  by_cases e : b k = 2 <;> simp [e]
theorem fmH_b_16 {σ : mS} {b : Nat → Int32} (hV : cV σ) (hb : sOk (dn (DC σ)) b) (hi : σ.2.1 16 3 = sSet b 1) {i k : Nat} (h : i < dn (DC σ)) (hk : k < 64) : bB (fmH_16 σ i) k = true ↔ dst (DC σ) i = true ∧ dt (DC σ) i = nI k ∧ b i = 1 := by
  have hn := hV.1.2.1
  rw [fmH_16]
  by_cases c1 : dst (DC σ) i = true
  · rw [if_neg (by rw [c_strong0 hV h, c1]; decide)]
    by_cases c2 : b i = 1
    · rw [if_neg (by rw [c_isIn0_16 hn hb hi (by omega)]; exact fun q => q c2), c_target hV h]
      obtain ⟨j, hj, e⟩ := dV_st hV.1 h c1
      rw [e, bB_bit σ (by omega), decide_eq_true_eq, nI_eq (by omega) (by omega)]
      constructor
      · rintro rfl; exact ⟨c1, rfl, c2⟩
      · rintro ⟨_, q, _⟩; exact q.symm
    · rw [if_pos (by rw [c_isIn0_16 hn hb hi (by omega)]; exact c2), bB_0]
      simp [c2]
  · rw [if_pos (by rw [c_strong0 hV h]; exact Bool.not_eq_true _ ▸ c1), bB_0]
    simp [c1]
theorem fmT_b_16 {σ : mS} {b : Nat → Int32} (hV : cV σ) (hb : sOk (dn (DC σ)) b) (hi : σ.2.1 16 4 = sSet b 2) {i k : Nat} (h : i < dn (DC σ)) (hk : k < 64) : bB (fmT_16 σ i) k = true ↔ dst (DC σ) i = true ∧ dt (DC σ) i = nI k ∧ b i ≠ 2 := by
  have hn := hV.1.2.1
  rw [fmT_16]
  by_cases c1 : dst (DC σ) i = true
  · rw [if_neg (by rw [c_strong0 hV h, c1]; decide)]
    by_cases c2 : b i = 2
    · rw [if_neg (by rw [c_isOut0_16 hn hb hi (by omega)]; exact fun q => q c2), bB_0]
      simp [c2]
    · rw [if_pos (by rw [c_isOut0_16 hn hb hi (by omega)]; exact c2), c_target hV h]
      obtain ⟨j, hj, e⟩ := dV_st hV.1 h c1
      rw [e, bB_bit σ (by omega), decide_eq_true_eq, nI_eq (by omega) (by omega)]
      constructor
      · rintro rfl; exact ⟨c1, rfl, c2⟩
      · rintro ⟨_, q, _⟩; exact q.symm
  · rw [if_pos (by rw [c_strong0 hV h]; exact Bool.not_eq_true _ ▸ c1), bB_0]
    simp [c1]
theorem fmO_b_16 {σ : mS} {b : Nat → Int32} (hV : cV σ) (hb : sOk (dn (DC σ)) b) (hi : σ.2.1 16 4 = sSet b 2) {i k : Nat} (h : i < dn (DC σ)) : bB (fmO_16 σ i) k = true ↔ k = i ∧ dr (DC σ) i ≠ -1 ∧ b (uN (dr (DC σ) i)) = 2 := by
  have hn := hV.1.2.1
  rw [fmO_16, c_source hV h]
  rcases dV_r hV.1 h with e | ⟨j, hj, e⟩
  · rw [e, if_pos rfl, bB_0]; simp
  · rw [e, if_neg (nI_m1 (by omega))]
    have u : uN (nI j) = j := nI_clamp (by omega)
    rw [u]
    by_cases c : b j = 2
    · rw [if_neg (by rw [c_isOut0_16 hn hb hi (by omega)]; exact fun q => q c), bB_bit σ (by omega), decide_eq_true_eq]
      exact ⟨fun q => ⟨q, nI_m1 (by omega), c⟩, fun q => q.1⟩
    · rw [if_pos (by rw [c_isOut0_16 hn hb hi (by omega)]; exact c), bB_0]; simp [c]
theorem fmN_b_16 {σ : mS} {b : Nat → Int32} (hV : cV σ) (hb : sOk (dn (DC σ)) b) (hi : σ.2.1 16 3 = sSet b 1) {i k : Nat} (h : i < dn (DC σ)) : bB (fmN_16 σ i) k = true ↔ k = i ∧ dr (DC σ) i ≠ -1 ∧ b (uN (dr (DC σ) i)) ≠ 1 := by
  have hn := hV.1.2.1
  rw [fmN_16, c_source hV h]
  rcases dV_r hV.1 h with e | ⟨j, hj, e⟩
  · rw [e, if_pos rfl, bB_0]; simp
  · rw [e, if_neg (nI_m1 (by omega))]
    have u : uN (nI j) = j := nI_clamp (by omega)
    rw [u]
    by_cases c : b j = 1
    · rw [if_neg (by rw [c_isIn0_16 hn hb hi (by omega)]; exact fun q => q c), bB_0]; simp [c]
    · rw [if_pos (by rw [c_isIn0_16 hn hb hi (by omega)]; exact c), bB_bit σ (by omega), decide_eq_true_eq]
      exact ⟨fun q => ⟨q, nI_m1 (by omega), c⟩, fun q => q.1⟩
theorem c_open_16 {σ : mS} {b : Nat → Int32} (hV : cV σ) (hb : sOk (dn (DC σ)) b) (hi : σ.2.1 16 3 = sSet b 1) (ho : σ.2.1 16 4 = sSet b 2) {k : Nat} (hk : k < 64) : bB (f_X4_itemsOpen_16 σ) k = true ↔ k < dn (DC σ) ∧ b k = 0 := by
  have hn := hV.1.2.1
  rw [f_X4_itemsOpen_16, f_X0_allItems_5, cV_n hV, bB_and, bB_all σ (by omega), bB_not _ hk, bB_or, hi, ho, bB_sSet hn (by decide) hb, bB_sSet hn (by decide) hb]
  rcases hb.1 k with e | e | e <;> simp [e]
def fmF_16 (σ : mS) (s : Int64) (n : Nat) : Int64 := f_X4_itemsOpen_16 σ &&& ((σ.2.1 16 2 ||| orA s (fmH_16 σ) n) ||| orA 0 (fmO_16 σ) n)
def fmS_16 (σ : mS) (s : Int64) (n : Nat) : Int64 := f_X4_itemsOpen_16 σ &&& (((fmF_16 σ s n ||| orA 0 (fmT_16 σ) n) ||| orA 0 (fmN_16 σ) n) ^^^ (-1))
theorem fmF_b_16 {σ : mS} {b : Nat → Int32} {s : Int64} (hV : cV σ) (hb : sOk (dn (DC σ)) b) (hi : σ.2.1 16 3 = sSet b 1) (ho : σ.2.1 16 4 = sSet b 2) {k : Nat} (hk : k < 64) : bB (fmF_16 σ s (dn (DC σ))) k = true ↔ k < dn (DC σ) ∧ b k = 0 ∧ sHit (DC σ) (bB (σ.2.1 16 2)) (bB s) b k := by
  rw [fmF_16, bB_and, Bool.and_eq_true, c_open_16 hV hb hi ho hk, bB_or, Bool.or_eq_true, bB_or, Bool.or_eq_true, bB_orA, bB_orA]
  constructor
  · rintro ⟨⟨h1, h2⟩, ((h | h | ⟨i, hi', h⟩) | (h | ⟨i, hi', h⟩))⟩
    · exact ⟨h1, h2, .inl h⟩
    · exact ⟨h1, h2, .inr (.inl h)⟩
    · rw [fmH_b_16 hV hb hi hi' hk] at h
      exact ⟨h1, h2, .inr (.inr (.inr ⟨i, hi', h⟩))⟩
    · rw [bB_0] at h; cases h
    · rw [fmO_b_16 hV hb ho hi'] at h
      obtain ⟨rfl, h⟩ := h
      exact ⟨h1, h2, .inr (.inr (.inl h))⟩
  · rintro ⟨h1, h2, (h | h | h | ⟨i, hi', h⟩)⟩
    · exact ⟨⟨h1, h2⟩, .inl (.inl h)⟩
    · exact ⟨⟨h1, h2⟩, .inl (.inr (.inl h))⟩
    · exact ⟨⟨h1, h2⟩, .inr (.inr ⟨k, h1, (fmO_b_16 hV hb ho h1).mpr ⟨rfl, h⟩⟩)⟩
    · exact ⟨⟨h1, h2⟩, .inl (.inr (.inr ⟨i, hi', (fmH_b_16 hV hb hi hi' hk).mpr h⟩))⟩
theorem fmS_b_16 {σ : mS} {b : Nat → Int32} {s : Int64} (hV : cV σ) (hb : sOk (dn (DC σ)) b) (hi : σ.2.1 16 3 = sSet b 1) (ho : σ.2.1 16 4 = sSet b 2) {k : Nat} (hk : k < 64) : bB (fmS_16 σ s (dn (DC σ))) k = true ↔ k < dn (DC σ) ∧ b k = 0 ∧ ¬ sHit (DC σ) (bB (σ.2.1 16 2)) (bB s) b k ∧ sFree (DC σ) b k := by
  rw [fmS_16, bB_and, Bool.and_eq_true, c_open_16 hV hb hi ho hk, bB_not _ hk, Bool.not_eq_true', ← Bool.not_eq_true, bB_or, Bool.or_eq_true, bB_or, Bool.or_eq_true, bB_orA, bB_orA, fmF_b_16 hV hb hi ho hk]
  constructor
  · rintro ⟨⟨h1, h2⟩, h3⟩
    refine ⟨h1, h2, fun q => h3 (.inl (.inl ⟨h1, h2, q⟩)), fun a ha w1 w2 => ?_, ?_⟩
    · by_cases e : b a = 2
      · exact e
      · exact absurd (.inl (.inr (.inr ⟨a, ha, (fmT_b_16 hV hb ho ha hk).mpr ⟨w1, w2, e⟩⟩))) h3
    · by_cases e : dr (DC σ) k = -1
      · exact .inl e
      · by_cases e2 : b (uN (dr (DC σ) k)) = 1
        · exact .inr e2
        · exact absurd (.inr (.inr ⟨k, h1, (fmN_b_16 hV hb hi h1).mpr ⟨rfl, e, e2⟩⟩)) h3
  · rintro ⟨h1, h2, h3, h4, h5⟩
    refine ⟨⟨h1, h2⟩, ?_⟩
    rintro ((⟨_, _, q⟩ | (q | ⟨i, hi', q⟩)) | (q | ⟨i, hi', q⟩))
    · exact h3 q
    · rw [bB_0] at q; cases q
    · rw [fmT_b_16 hV hb ho hi' hk] at q
      exact q.2.2 (h4 i hi' q.1 q.2.1)
    · rw [bB_0] at q; cases q
    · rw [fmN_b_16 hV hb hi hi'] at q
      obtain ⟨rfl, q1, q2⟩ := q
      rcases h5 with h5 | h5
      · exact q1 h5
      · exact q2 h5
theorem fm_out_16 {σ : mS} {b : Nat → Int32} {s : Int64} (hV : cV σ) (hb : sOk (dn (DC σ)) b) (hi : σ.2.1 16 3 = sSet b 1) (ho : σ.2.1 16 4 = sSet b 2) : σ.2.1 16 4 ||| fmF_16 σ s (dn (DC σ)) = sSet (sStep (DC σ) (bB (σ.2.1 16 2)) (bB s) b) 2 := by
  have hn := hV.1.2.1
  refine bB_ext (fun k hk => ?_)
  rw [bB_or, ho, bB_sSet hn (by decide) hb, bB_sSet hn (by decide) (sStep_ok hb), Bool.eq_iff_iff, Bool.or_eq_true, decide_eq_true_eq, decide_eq_true_eq, fmF_b_16 hV hb hi ho hk, sStep]
  by_cases h1 : k < dn (DC σ)
  · rw [if_pos h1]
    by_cases h2 : b k = 0
    · rw [if_pos h2, sFinds_2]; simp [h1, h2]
    · rw [if_neg h2]; simp [h2]
  · rw [if_neg h1, hb.2 k (by omega)]; simp [h1]
theorem fm_in_16 {σ : mS} {b : Nat → Int32} {s : Int64} (hV : cV σ) (hb : sOk (dn (DC σ)) b) (hi : σ.2.1 16 3 = sSet b 1) (ho : σ.2.1 16 4 = sSet b 2) : σ.2.1 16 3 ||| fmS_16 σ s (dn (DC σ)) = sSet (sStep (DC σ) (bB (σ.2.1 16 2)) (bB s) b) 1 := by
  have hn := hV.1.2.1
  refine bB_ext (fun k hk => ?_)
  rw [bB_or, hi, bB_sSet hn (by decide) hb, bB_sSet hn (by decide) (sStep_ok hb), Bool.eq_iff_iff, Bool.or_eq_true, decide_eq_true_eq, decide_eq_true_eq, fmS_b_16 hV hb hi ho hk, sStep]
  by_cases h1 : k < dn (DC σ)
  · rw [if_pos h1]
    by_cases h2 : b k = 0
    · rw [if_pos h2, sFinds_1]; simp [h1, h2]
    · rw [if_neg h2]; simp [h2]
  · rw [if_neg h1, hb.2 k (by omega)]; simp [h1]
theorem fm_new_16 {σ : mS} {b : Nat → Int32} {s : Int64} (hV : cV σ) (hb : sOk (dn (DC σ)) b) (hi : σ.2.1 16 3 = sSet b 1) (ho : σ.2.1 16 4 = sSet b 2) {k : Nat} (hk : k < 64) : bB (fmF_16 σ s (dn (DC σ)) ||| fmS_16 σ s (dn (DC σ))) k = true ↔ b k = 0 ∧ sStep (DC σ) (bB (σ.2.1 16 2)) (bB s) b k ≠ 0 := by
  rw [bB_or, Bool.or_eq_true, fmF_b_16 hV hb hi ho hk, fmS_b_16 hV hb hi ho hk, sStep]
  by_cases h1 : k < dn (DC σ)
  · rw [if_pos h1]
    by_cases h2 : b k = 0
    · rw [if_pos h2, sFinds]
      by_cases h3 : sHit (DC σ) (bB (σ.2.1 16 2)) (bB s) b k
      · rw [iteP_pos h3]; simp [h1, h2, h3]
      · rw [iteP_neg h3]
        by_cases h4 : sFree (DC σ) b k
        · rw [iteP_pos h4]; simp [h1, h2, h3, h4]
        · rw [iteP_neg h4]; simp [h2, h3, h4]
    · simp [h2]
  · rw [if_neg h1]; simp [h1]
noncomputable def fmG_16 (σ : mS) (s : Int64) (b : Nat → Int32) (r : Int32) : mS := mRw (mPL (mPL σ 16 4 (sSet (sStep (DC σ) (bB (σ.2.1 16 2)) (bB s) b) 2)) 16 3 (sSet (sStep (DC σ) (bB (σ.2.1 16 2)) (bB s) b) 1)) 17 (fun k => if k < 40 ∧ bB (fmF_16 σ s (dn (DC σ)) ||| fmS_16 σ s (dn (DC σ))) k = true then r else σ.1 17 k)
theorem S_findMore_16 {Γ : Nat × (Nat → Int32)} {d : Nat} {Q : mQ} {σ : mS} {b : Nat → Int32} (a1 : Int32) (s : Int64) (hV : cV σ) (hb : sOk (dn (DC σ)) b) (hi : σ.2.1 16 3 = sSet b 1) (ho : σ.2.1 16 4 = sSet b 2)
    (h0 : (∀ k, b k = 0 → sStep (DC σ) (bB (σ.2.1 16 2)) (bB s) b k = 0) → Q (.inl (some (.int 0))) 60 mSH (fmG_16 σ s b a1))
    (h1 : (∃ k, b k = 0 ∧ sStep (DC σ) (bB (σ.2.1 16 2)) (bB s) b k ≠ 0) → Q (.inl (some (.int 1))) 60 mSH (fmG_16 σ s b a1)) :
    mCall Γ M_X4_findMore (d + 4) 0 0 [.ref 16, .int a1, .long s] 60 mSH σ Q := by
  have hn := hV.1.2.1
  refine E_X4_findMore_16 a1 s ?_
  refine L_findMore_16 (s := s) hn (cV_n hV) ?_ (dn (DC σ)) 0 (by omega)
  refine T_X4_findMore_16_15 _ _ _ _ _ _ ⟨fun _ => ?_, fun c => absurd (by rw [show f_X0_items_5 σ = nI (dn (DC σ)) from cV_n hV]; exact nI_le (by omega) (by omega)) c⟩
  show mCall Γ M_X4_noteRound (d + 1 + 2) 0 0 [.ref 16, .long (fmF_16 σ s (dn (DC σ)) ||| fmS_16 σ s (dn (DC σ))), .int a1] 60 mSH (mPL (mPL σ 16 4 (σ.2.1 16 4 ||| fmF_16 σ s (dn (DC σ)))) 16 3 (σ.2.1 16 3 ||| fmS_16 σ s (dn (DC σ)))) _
  rw [fm_out_16 hV hb hi ho, fm_in_16 hV hb hi ho]
  refine S_noteRound_16 _ _ ?_
  refine T_X4_findMore_16_232a _ _ _ _ _ _ _ _ ⟨fun c => h0 ?_, fun c => h1 ?_⟩
  · intro k hk
    by_cases h : k < dn (DC σ)
    · have w := (bB_zero.mp c) k (by omega)
      by_cases e : sStep (DC σ) (bB (σ.2.1 16 2)) (bB s) b k = 0
      · exact e
      · have := (fm_new_16 (s := s) hV hb hi ho (k := k) (by omega)).mpr ⟨hk, e⟩
        rw [fmF_16, fmS_16, fmF_16] at this
        rw [this] at w; cases w
    · rw [sStep, if_neg h]
  · apply Classical.byContradiction
    intro q
    refine c (bB_zero.mpr (fun k hk => ?_))
    rw [← Bool.not_eq_true]
    intro w
    exact q ⟨k, (fm_new_16 (s := s) hV hb hi ho (k := k) hk).mp w⟩
theorem c_isIn_18 {σ : mS} {b : Nat → Int32} {n : Nat} (hn : n ≤ 40) (hb : sOk n b) (hi : σ.2.1 18 3 = sSet b 1) {k : Nat} (hk : k < 64) : f_X4_isIn_18 σ (nI k) = if b k = 1 then 1 else 0 := by
  rw [f_X4_isIn_18, hi]
  have := bB_isIn (sSet b 1) hk
  rw [bB_sSet hn (by decide) hb] at this
  by_cases e : b k = 1
  · rw [if_pos e, if_neg (fun q => by have := this.mp q; simp [e] at this)]
  · rw [if_neg e, if_pos (this.mpr (by simp [e]))]
theorem c_isOut_18 {σ : mS} {b : Nat → Int32} {n : Nat} (hn : n ≤ 40) (hb : sOk n b) (hi : σ.2.1 18 4 = sSet b 2) {k : Nat} (hk : k < 64) : f_X4_isOut_18 σ (nI k) = if b k = 2 then 1 else 0 := by
  rw [f_X4_isOut_18, hi]
  have := bB_isIn (sSet b 2) hk
  rw [bB_sSet hn (by decide) hb] at this
  by_cases e : b k = 2
  · rw [if_pos e, if_neg (fun q => by have := this.mp q; simp [e] at this)]
  · rw [if_neg e, if_pos (this.mpr (by simp [e]))]
theorem c_isIn_m_18 (σ : mS) : f_X4_isIn_18 σ (-1) = f_X4_isIn_18 σ (nI 63) := by
  have : (Int32.toInt64 (-1) &&& 63) = (Int32.toInt64 (nI 63) &&& 63) := by decide
  rw [f_X4_isIn_18, f_X4_isIn_18, this]
theorem c_isOut_m_18 (σ : mS) : f_X4_isOut_18 σ (-1) = f_X4_isOut_18 σ (nI 63) := by
  have : (Int32.toInt64 (-1) &&& 63) = (Int32.toInt64 (nI 63) &&& 63) := by decide
  rw [f_X4_isOut_18, f_X4_isOut_18, this]
theorem c_isIn0_18 {σ : mS} {b : Nat → Int32} {n : Nat} (hn : n ≤ 40) (hb : sOk n b) (hi : σ.2.1 18 3 = sSet b 1) {k : Nat} (hk : k < 64) : f_X4_isIn_18 σ (nI k) = 0 ↔ b k ≠ 1 := by
  rw [c_isIn_18 hn hb hi hk]
  by_cases e : b k = 1 <;> simp [e]
theorem c_isOut0_18 {σ : mS} {b : Nat → Int32} {n : Nat} (hn : n ≤ 40) (hb : sOk n b) (hi : σ.2.1 18 4 = sSet b 2) {k : Nat} (hk : k < 64) : f_X4_isOut_18 σ (nI k) = 0 ↔ b k ≠ 2 := by
  rw [c_isOut_18 hn hb hi hk]
  by_cases e : b k = 2 <;> simp [e]
theorem fmH_b_18 {σ : mS} {b : Nat → Int32} (hV : cV σ) (hb : sOk (dn (DC σ)) b) (hi : σ.2.1 18 3 = sSet b 1) {i k : Nat} (h : i < dn (DC σ)) (hk : k < 64) : bB (fmH_18 σ i) k = true ↔ dst (DC σ) i = true ∧ dt (DC σ) i = nI k ∧ b i = 1 := by
  have hn := hV.1.2.1
  rw [fmH_18]
  by_cases c1 : dst (DC σ) i = true
  · rw [if_neg (by rw [c_strong0 hV h, c1]; decide)]
    by_cases c2 : b i = 1
    · rw [if_neg (by rw [c_isIn0_18 hn hb hi (by omega)]; exact fun q => q c2), c_target hV h]
      obtain ⟨j, hj, e⟩ := dV_st hV.1 h c1
      rw [e, bB_bit σ (by omega), decide_eq_true_eq, nI_eq (by omega) (by omega)]
      constructor
      · rintro rfl; exact ⟨c1, rfl, c2⟩
      · rintro ⟨_, q, _⟩; exact q.symm
    · rw [if_pos (by rw [c_isIn0_18 hn hb hi (by omega)]; exact c2), bB_0]
      simp [c2]
  · rw [if_pos (by rw [c_strong0 hV h]; exact Bool.not_eq_true _ ▸ c1), bB_0]
    simp [c1]
theorem fmT_b_18 {σ : mS} {b : Nat → Int32} (hV : cV σ) (hb : sOk (dn (DC σ)) b) (hi : σ.2.1 18 4 = sSet b 2) {i k : Nat} (h : i < dn (DC σ)) (hk : k < 64) : bB (fmT_18 σ i) k = true ↔ dst (DC σ) i = true ∧ dt (DC σ) i = nI k ∧ b i ≠ 2 := by
  have hn := hV.1.2.1
  rw [fmT_18]
  by_cases c1 : dst (DC σ) i = true
  · rw [if_neg (by rw [c_strong0 hV h, c1]; decide)]
    by_cases c2 : b i = 2
    · rw [if_neg (by rw [c_isOut0_18 hn hb hi (by omega)]; exact fun q => q c2), bB_0]
      simp [c2]
    · rw [if_pos (by rw [c_isOut0_18 hn hb hi (by omega)]; exact c2), c_target hV h]
      obtain ⟨j, hj, e⟩ := dV_st hV.1 h c1
      rw [e, bB_bit σ (by omega), decide_eq_true_eq, nI_eq (by omega) (by omega)]
      constructor
      · rintro rfl; exact ⟨c1, rfl, c2⟩
      · rintro ⟨_, q, _⟩; exact q.symm
  · rw [if_pos (by rw [c_strong0 hV h]; exact Bool.not_eq_true _ ▸ c1), bB_0]
    simp [c1]
theorem fmO_b_18 {σ : mS} {b : Nat → Int32} (hV : cV σ) (hb : sOk (dn (DC σ)) b) (hi : σ.2.1 18 4 = sSet b 2) {i k : Nat} (h : i < dn (DC σ)) : bB (fmO_18 σ i) k = true ↔ k = i ∧ dr (DC σ) i ≠ -1 ∧ b (uN (dr (DC σ) i)) = 2 := by
  have hn := hV.1.2.1
  rw [fmO_18, c_source hV h]
  rcases dV_r hV.1 h with e | ⟨j, hj, e⟩
  · rw [e, if_pos rfl, bB_0]; simp
  · rw [e, if_neg (nI_m1 (by omega))]
    have u : uN (nI j) = j := nI_clamp (by omega)
    rw [u]
    by_cases c : b j = 2
    · rw [if_neg (by rw [c_isOut0_18 hn hb hi (by omega)]; exact fun q => q c), bB_bit σ (by omega), decide_eq_true_eq]
      exact ⟨fun q => ⟨q, nI_m1 (by omega), c⟩, fun q => q.1⟩
    · rw [if_pos (by rw [c_isOut0_18 hn hb hi (by omega)]; exact c), bB_0]; simp [c]
theorem fmN_b_18 {σ : mS} {b : Nat → Int32} (hV : cV σ) (hb : sOk (dn (DC σ)) b) (hi : σ.2.1 18 3 = sSet b 1) {i k : Nat} (h : i < dn (DC σ)) : bB (fmN_18 σ i) k = true ↔ k = i ∧ dr (DC σ) i ≠ -1 ∧ b (uN (dr (DC σ) i)) ≠ 1 := by
  have hn := hV.1.2.1
  rw [fmN_18, c_source hV h]
  rcases dV_r hV.1 h with e | ⟨j, hj, e⟩
  · rw [e, if_pos rfl, bB_0]; simp
  · rw [e, if_neg (nI_m1 (by omega))]
    have u : uN (nI j) = j := nI_clamp (by omega)
    rw [u]
    by_cases c : b j = 1
    · rw [if_neg (by rw [c_isIn0_18 hn hb hi (by omega)]; exact fun q => q c), bB_0]; simp [c]
    · rw [if_pos (by rw [c_isIn0_18 hn hb hi (by omega)]; exact c), bB_bit σ (by omega), decide_eq_true_eq]
      exact ⟨fun q => ⟨q, nI_m1 (by omega), c⟩, fun q => q.1⟩
theorem c_open_18 {σ : mS} {b : Nat → Int32} (hV : cV σ) (hb : sOk (dn (DC σ)) b) (hi : σ.2.1 18 3 = sSet b 1) (ho : σ.2.1 18 4 = sSet b 2) {k : Nat} (hk : k < 64) : bB (f_X4_itemsOpen_18 σ) k = true ↔ k < dn (DC σ) ∧ b k = 0 := by
  have hn := hV.1.2.1
  rw [f_X4_itemsOpen_18, f_X0_allItems_5, cV_n hV, bB_and, bB_all σ (by omega), bB_not _ hk, bB_or, hi, ho, bB_sSet hn (by decide) hb, bB_sSet hn (by decide) hb]
  rcases hb.1 k with e | e | e <;> simp [e]
def fmF_18 (σ : mS) (s : Int64) (n : Nat) : Int64 := f_X4_itemsOpen_18 σ &&& ((σ.2.1 18 2 ||| orA s (fmH_18 σ) n) ||| orA 0 (fmO_18 σ) n)
def fmS_18 (σ : mS) (s : Int64) (n : Nat) : Int64 := f_X4_itemsOpen_18 σ &&& (((fmF_18 σ s n ||| orA 0 (fmT_18 σ) n) ||| orA 0 (fmN_18 σ) n) ^^^ (-1))
theorem fmF_b_18 {σ : mS} {b : Nat → Int32} {s : Int64} (hV : cV σ) (hb : sOk (dn (DC σ)) b) (hi : σ.2.1 18 3 = sSet b 1) (ho : σ.2.1 18 4 = sSet b 2) {k : Nat} (hk : k < 64) : bB (fmF_18 σ s (dn (DC σ))) k = true ↔ k < dn (DC σ) ∧ b k = 0 ∧ sHit (DC σ) (bB (σ.2.1 18 2)) (bB s) b k := by
  rw [fmF_18, bB_and, Bool.and_eq_true, c_open_18 hV hb hi ho hk, bB_or, Bool.or_eq_true, bB_or, Bool.or_eq_true, bB_orA, bB_orA]
  constructor
  · rintro ⟨⟨h1, h2⟩, ((h | h | ⟨i, hi', h⟩) | (h | ⟨i, hi', h⟩))⟩
    · exact ⟨h1, h2, .inl h⟩
    · exact ⟨h1, h2, .inr (.inl h)⟩
    · rw [fmH_b_18 hV hb hi hi' hk] at h
      exact ⟨h1, h2, .inr (.inr (.inr ⟨i, hi', h⟩))⟩
    · rw [bB_0] at h; cases h
    · rw [fmO_b_18 hV hb ho hi'] at h
      obtain ⟨rfl, h⟩ := h
      exact ⟨h1, h2, .inr (.inr (.inl h))⟩
  · rintro ⟨h1, h2, (h | h | h | ⟨i, hi', h⟩)⟩
    · exact ⟨⟨h1, h2⟩, .inl (.inl h)⟩
    · exact ⟨⟨h1, h2⟩, .inl (.inr (.inl h))⟩
    · exact ⟨⟨h1, h2⟩, .inr (.inr ⟨k, h1, (fmO_b_18 hV hb ho h1).mpr ⟨rfl, h⟩⟩)⟩
    · exact ⟨⟨h1, h2⟩, .inl (.inr (.inr ⟨i, hi', (fmH_b_18 hV hb hi hi' hk).mpr h⟩))⟩
theorem fmS_b_18 {σ : mS} {b : Nat → Int32} {s : Int64} (hV : cV σ) (hb : sOk (dn (DC σ)) b) (hi : σ.2.1 18 3 = sSet b 1) (ho : σ.2.1 18 4 = sSet b 2) {k : Nat} (hk : k < 64) : bB (fmS_18 σ s (dn (DC σ))) k = true ↔ k < dn (DC σ) ∧ b k = 0 ∧ ¬ sHit (DC σ) (bB (σ.2.1 18 2)) (bB s) b k ∧ sFree (DC σ) b k := by
  rw [fmS_18, bB_and, Bool.and_eq_true, c_open_18 hV hb hi ho hk, bB_not _ hk, Bool.not_eq_true', ← Bool.not_eq_true, bB_or, Bool.or_eq_true, bB_or, Bool.or_eq_true, bB_orA, bB_orA, fmF_b_18 hV hb hi ho hk]
  constructor
  · rintro ⟨⟨h1, h2⟩, h3⟩
    refine ⟨h1, h2, fun q => h3 (.inl (.inl ⟨h1, h2, q⟩)), fun a ha w1 w2 => ?_, ?_⟩
    · by_cases e : b a = 2
      · exact e
      · exact absurd (.inl (.inr (.inr ⟨a, ha, (fmT_b_18 hV hb ho ha hk).mpr ⟨w1, w2, e⟩⟩))) h3
    · by_cases e : dr (DC σ) k = -1
      · exact .inl e
      · by_cases e2 : b (uN (dr (DC σ) k)) = 1
        · exact .inr e2
        · exact absurd (.inr (.inr ⟨k, h1, (fmN_b_18 hV hb hi h1).mpr ⟨rfl, e, e2⟩⟩)) h3
  · rintro ⟨h1, h2, h3, h4, h5⟩
    refine ⟨⟨h1, h2⟩, ?_⟩
    rintro ((⟨_, _, q⟩ | (q | ⟨i, hi', q⟩)) | (q | ⟨i, hi', q⟩))
    · exact h3 q
    · rw [bB_0] at q; cases q
    · rw [fmT_b_18 hV hb ho hi' hk] at q
      exact q.2.2 (h4 i hi' q.1 q.2.1)
    · rw [bB_0] at q; cases q
    · rw [fmN_b_18 hV hb hi hi'] at q
      obtain ⟨rfl, q1, q2⟩ := q
      rcases h5 with h5 | h5
      · exact q1 h5
      · exact q2 h5
theorem fm_out_18 {σ : mS} {b : Nat → Int32} {s : Int64} (hV : cV σ) (hb : sOk (dn (DC σ)) b) (hi : σ.2.1 18 3 = sSet b 1) (ho : σ.2.1 18 4 = sSet b 2) : σ.2.1 18 4 ||| fmF_18 σ s (dn (DC σ)) = sSet (sStep (DC σ) (bB (σ.2.1 18 2)) (bB s) b) 2 := by
  have hn := hV.1.2.1
  refine bB_ext (fun k hk => ?_)
  rw [bB_or, ho, bB_sSet hn (by decide) hb, bB_sSet hn (by decide) (sStep_ok hb), Bool.eq_iff_iff, Bool.or_eq_true, decide_eq_true_eq, decide_eq_true_eq, fmF_b_18 hV hb hi ho hk, sStep]
  by_cases h1 : k < dn (DC σ)
  · rw [if_pos h1]
    by_cases h2 : b k = 0
    · rw [if_pos h2, sFinds_2]; simp [h1, h2]
    · rw [if_neg h2]; simp [h2]
  · rw [if_neg h1, hb.2 k (by omega)]; simp [h1]
theorem fm_in_18 {σ : mS} {b : Nat → Int32} {s : Int64} (hV : cV σ) (hb : sOk (dn (DC σ)) b) (hi : σ.2.1 18 3 = sSet b 1) (ho : σ.2.1 18 4 = sSet b 2) : σ.2.1 18 3 ||| fmS_18 σ s (dn (DC σ)) = sSet (sStep (DC σ) (bB (σ.2.1 18 2)) (bB s) b) 1 := by
  have hn := hV.1.2.1
  refine bB_ext (fun k hk => ?_)
  rw [bB_or, hi, bB_sSet hn (by decide) hb, bB_sSet hn (by decide) (sStep_ok hb), Bool.eq_iff_iff, Bool.or_eq_true, decide_eq_true_eq, decide_eq_true_eq, fmS_b_18 hV hb hi ho hk, sStep]
  by_cases h1 : k < dn (DC σ)
  · rw [if_pos h1]
    by_cases h2 : b k = 0
    · rw [if_pos h2, sFinds_1]; simp [h1, h2]
    · rw [if_neg h2]; simp [h2]
  · rw [if_neg h1, hb.2 k (by omega)]; simp [h1]
theorem fm_new_18 {σ : mS} {b : Nat → Int32} {s : Int64} (hV : cV σ) (hb : sOk (dn (DC σ)) b) (hi : σ.2.1 18 3 = sSet b 1) (ho : σ.2.1 18 4 = sSet b 2) {k : Nat} (hk : k < 64) : bB (fmF_18 σ s (dn (DC σ)) ||| fmS_18 σ s (dn (DC σ))) k = true ↔ b k = 0 ∧ sStep (DC σ) (bB (σ.2.1 18 2)) (bB s) b k ≠ 0 := by
  rw [bB_or, Bool.or_eq_true, fmF_b_18 hV hb hi ho hk, fmS_b_18 hV hb hi ho hk, sStep]
  by_cases h1 : k < dn (DC σ)
  · rw [if_pos h1]
    by_cases h2 : b k = 0
    · rw [if_pos h2, sFinds]
      by_cases h3 : sHit (DC σ) (bB (σ.2.1 18 2)) (bB s) b k
      · rw [iteP_pos h3]; simp [h1, h2, h3]
      · rw [iteP_neg h3]
        by_cases h4 : sFree (DC σ) b k
        · rw [iteP_pos h4]; simp [h1, h2, h3, h4]
        · rw [iteP_neg h4]; simp [h2, h3, h4]
    · simp [h2]
  · rw [if_neg h1]; simp [h1]
noncomputable def fmG_18 (σ : mS) (s : Int64) (b : Nat → Int32) (r : Int32) : mS := mRw (mPL (mPL σ 18 4 (sSet (sStep (DC σ) (bB (σ.2.1 18 2)) (bB s) b) 2)) 18 3 (sSet (sStep (DC σ) (bB (σ.2.1 18 2)) (bB s) b) 1)) 19 (fun k => if k < 40 ∧ bB (fmF_18 σ s (dn (DC σ)) ||| fmS_18 σ s (dn (DC σ))) k = true then r else σ.1 19 k)
theorem S_findMore_18 {Γ : Nat × (Nat → Int32)} {d : Nat} {Q : mQ} {σ : mS} {b : Nat → Int32} (a1 : Int32) (s : Int64) (hV : cV σ) (hb : sOk (dn (DC σ)) b) (hi : σ.2.1 18 3 = sSet b 1) (ho : σ.2.1 18 4 = sSet b 2)
    (h0 : (∀ k, b k = 0 → sStep (DC σ) (bB (σ.2.1 18 2)) (bB s) b k = 0) → Q (.inl (some (.int 0))) 60 mSH (fmG_18 σ s b a1))
    (h1 : (∃ k, b k = 0 ∧ sStep (DC σ) (bB (σ.2.1 18 2)) (bB s) b k ≠ 0) → Q (.inl (some (.int 1))) 60 mSH (fmG_18 σ s b a1)) :
    mCall Γ M_X4_findMore (d + 4) 0 0 [.ref 18, .int a1, .long s] 60 mSH σ Q := by
  have hn := hV.1.2.1
  refine E_X4_findMore_18 a1 s ?_
  refine L_findMore_18 (s := s) hn (cV_n hV) ?_ (dn (DC σ)) 0 (by omega)
  refine T_X4_findMore_18_15 _ _ _ _ _ _ ⟨fun _ => ?_, fun c => absurd (by rw [show f_X0_items_5 σ = nI (dn (DC σ)) from cV_n hV]; exact nI_le (by omega) (by omega)) c⟩
  show mCall Γ M_X4_noteRound (d + 1 + 2) 0 0 [.ref 18, .long (fmF_18 σ s (dn (DC σ)) ||| fmS_18 σ s (dn (DC σ))), .int a1] 60 mSH (mPL (mPL σ 18 4 (σ.2.1 18 4 ||| fmF_18 σ s (dn (DC σ)))) 18 3 (σ.2.1 18 3 ||| fmS_18 σ s (dn (DC σ)))) _
  rw [fm_out_18 hV hb hi ho, fm_in_18 hV hb hi ho]
  refine S_noteRound_18 _ _ ?_
  refine T_X4_findMore_18_232a _ _ _ _ _ _ _ _ ⟨fun c => h0 ?_, fun c => h1 ?_⟩
  · intro k hk
    by_cases h : k < dn (DC σ)
    · have w := (bB_zero.mp c) k (by omega)
      by_cases e : sStep (DC σ) (bB (σ.2.1 18 2)) (bB s) b k = 0
      · exact e
      · have := (fm_new_18 (s := s) hV hb hi ho (k := k) (by omega)).mpr ⟨hk, e⟩
        rw [fmF_18, fmS_18, fmF_18] at this
        rw [this] at w; cases w
    · rw [sStep, if_neg h]
  · apply Classical.byContradiction
    intro q
    refine c (bB_zero.mpr (fun k hk => ?_))
    rw [← Bool.not_eq_true]
    intro w
    exact q ⟨k, (fm_new_18 (s := s) hV hb hi ho (k := k) hk).mp w⟩
