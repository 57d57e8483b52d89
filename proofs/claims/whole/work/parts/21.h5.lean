/-! ===== scores ===== -/
def dWorth (D : mDeb) (co : Nat → Bool) (b : Nat → Int32) (k : Nat) : Int32 :=
  (if co k = true then -1 else 0) + (if b k = 1 then (if dk D k = 0 then dz D k else if dk D k = 2 then 1 else if dst D k = true then dz D k / 2 else 0) else if b k = 0 ∧ dk D k = 0 then dz D k / 2 else 0)
def dHelp (D : mDeb) (b : Nat → Int32) (k : Nat) : Int32 := if dk D k = 2 ∧ b k = 1 ∧ dk D (uN (dt D k)) = 0 ∧ b (uN (dt D k)) = 1 then dz D k else 0
def scW (D : mDeb) (co : Nat → Bool) (b : Nat → Int32) (p : Nat) : Nat → Int32
  | 0 => dm D p / 60
  | k + 1 => scW D co b p k + (if db D k = nI p then dWorth D co b k else 0) + (if dt D k ≠ -1 ∧ db D (uN (dt D k)) = nI p then dHelp D b k else 0)
theorem scW_s (D : mDeb) (co : Nat → Bool) (b : Nat → Int32) (p k : Nat) : scW D co b p (k + 1) = scW D co b p k + (if db D k = nI p then dWorth D co b k else 0) + (if dt D k ≠ -1 ∧ db D (uN (dt D k)) = nI p then dHelp D b k else 0) := rfl
def dScore (D : mDeb) (co : Nat → Bool) (b : Nat → Int32) (p : Nat) : Int32 := scW D co b p (dn D)
theorem uN_nI {k : Nat} (h : k < 2 ^ 31) : uN (nI k) = k := nI_clamp h
theorem c_tsp {σ : mS} (hV : cV σ) {k p : Nat} (hk : k < dn (DC σ)) (hp : p < 64) : f_X0_speakerOf_5 σ (f_X0_targetOf_5 σ (nI k)) = nI p ↔ dt (DC σ) k ≠ -1 ∧ db (DC σ) (uN (dt (DC σ) k)) = nI p := by
  have hn := hV.1.2.1
  rw [c_target hV hk]
  rcases dV_t hV.1 hk with e | ⟨j, hj, e⟩
  · rw [e, c_owner_m]
    constructor
    · intro q; exact absurd q.symm (nI_m1 (by omega))
    · rintro ⟨q, _⟩; exact absurd rfl q
  · rw [e, c_owner hV (by omega), uN_nI (by omega)]
    exact ⟨fun q => ⟨nI_m1 (by omega), q⟩, fun q => q.2⟩
theorem c_time {σ : mS} (h : cV σ) {p : Nat} (hp : p < ds (DC σ)) : f_X0_timeOf_5 σ (nI p) = dm (DC σ) p := by
  have h6 := h.1.2.2.2.1
  have e : f_X0_hasSpeaker_5 σ (nI p) = 1 := by
    rw [f_X0_hasSpeaker_5, cV_s h, if_neg (nI_pos (by omega)), if_neg (nI_ge hp (by omega)), if_neg (by rw [i6]; exact nI_ge (by omega) (by omega))]
  rw [f_X0_timeOf_5, e, nI_clamp (by omega), if_neg (by decide)]
  show σ.1 7 p = mkI (ds (DC σ)) (σ.1 7) p
  rw [mkI, if_pos hp]
theorem c_worth_16 {σ : mS} {b : Nat → Int32} (hV : cV σ) (hb : sOk (dn (DC σ)) b) (hi : σ.2.1 16 3 = sSet b 1) (ho : σ.2.1 16 4 = sSet b 2) {k : Nat} (hk : k < dn (DC σ)) : f_X4_worthOf_16 σ (nI k) = dWorth (DC σ) (bB (σ.2.1 16 2)) b k := by
  have hn := hV.1.2.1
  have k64 : k < 64 := by omega
  simp only [f_X4_worthOf_16, bB_isSet σ _ k64, c_isIn0_16 hn hb hi k64, c_isOut0_16 hn hb ho k64, c_kind hV hk, c_size hV hk, c_strong0 hV hk, dWorth]
  rcases hb.1 k with e | e | e <;> by_cases k0 : dk (DC σ) k = 0 <;> by_cases k2 : dk (DC σ) k = 2 <;> cases dst (DC σ) k <;> cases bB (σ.2.1 16 2) k <;> simp [e, k0, k2]
theorem c_help_16 {σ : mS} {b : Nat → Int32} (hV : cV σ) (hb : sOk (dn (DC σ)) b) (hi : σ.2.1 16 3 = sSet b 1) {k : Nat} (hk : k < dn (DC σ)) : f_X4_helpOf_16 σ (nI k) = dHelp (DC σ) b k := by
  have hn := hV.1.2.1
  have k64 : k < 64 := by omega
  simp only [f_X4_helpOf_16, c_isIn0_16 hn hb hi k64, c_kind hV hk, c_size hV hk, c_target hV hk, dHelp]
  by_cases k2 : dk (DC σ) k = 2
  · obtain ⟨j, hj, e⟩ : ∃ j, j < k ∧ dt (DC σ) k = nI j := by
      rcases (hV.1.2.2.2.2 k hk).2.2.2 with q | q
      · rw [q.1] at k2; exact absurd k2 (by decide)
      · exact q.2.2
    rw [e, c_kind hV (by omega), uN_nI (by omega)]
    simp only [c_isIn0_16 hn hb hi (show j < 64 by omega)]
    by_cases b1 : b k = 1 <;> by_cases d0 : dk (DC σ) j = 0 <;> by_cases b2 : b j = 1 <;> simp [k2, b1, d0, b2]
  · simp [k2]
theorem L_scoreOf_16 {Γ : Nat × (Nat → Int32)} {d n0 bc bs : Nat} {Q : mQ} {σ : mS} {b : Nat → Int32} {p : Nat} (hV : cV σ) (hb : sOk (dn (DC σ)) b) (hi : σ.2.1 16 3 = sSet b 1) (ho : σ.2.1 16 4 = sSet b 2) (hp : p < 64) : ∀ m i, i + m = dn (DC σ) → Q (.inl (some (.int (dScore (DC σ) (bB (σ.2.1 16 2)) b p)))) 60 mSH σ →
    mK Γ M_X4_scoreOf (d + 4) Q n0 bc bs 14 [(0, .ref 16), (1, .int (nI p)), (2, .int (scW (DC σ) (bB (σ.2.1 16 2)) b p i)), (3, .int (nI i))] [] 60 mSH σ
  | 0, i, hm, hQ => by
    have hn := hV.1.2.1
    refine T_X4_scoreOf_16_14 _ _ _ ⟨fun _ => ?_, fun c => absurd (by rw [show f_X0_items_5 σ = nI (dn (DC σ)) from cV_n hV]; exact nI_le (by omega) (by omega)) c⟩
    rw [show i = dn (DC σ) by omega]
    exact hQ
  | m + 1, i, hm, hQ => by
    have hn := hV.1.2.1
    have hk : i < dn (DC σ) := by omega
    have ih := L_scoreOf_16 (d := d) (n0 := n0) (bc := bc) (bs := bs) (Γ := Γ) hV hb hi ho hp m (i + 1) (by omega) hQ
    rw [scW_s] at ih
    refine T_X4_scoreOf_16_14 _ _ _ ⟨fun c => absurd c (by rw [show f_X0_items_5 σ = nI (dn (DC σ)) from cV_n hV]; exact nI_ge (by omega) (by omega)), fun _ => ?_⟩
    rw [c_owner hV hk, c_tsp hV hk hp, c_worth_16 hV hb hi ho hk, c_help_16 hV hb hi hk, nI_1]
    refine ⟨fun c1 => ⟨fun c2 => ?_, fun c2 => ?_⟩, fun c1 => ⟨fun c2 => ?_, fun c2 => ?_⟩⟩
    · rw [if_pos c1, if_pos c2] at ih; exact ih
    · rw [if_pos c1, if_neg c2, Int32.add_zero] at ih; exact ih
    · rw [if_neg c1, if_pos c2, Int32.add_zero] at ih; exact ih
    · rw [if_neg c1, if_neg c2, Int32.add_zero, Int32.add_zero] at ih; exact ih
theorem S_scoreOf_16 {Γ : Nat × (Nat → Int32)} {d : Nat} {Q : mQ} {σ : mS} {b : Nat → Int32} (p : Nat) (hV : cV σ) (hb : sOk (dn (DC σ)) b) (hi : σ.2.1 16 3 = sSet b 1) (ho : σ.2.1 16 4 = sSet b 2) (hp : p < ds (DC σ)) (hQ : Q (.inl (some (.int (dScore (DC σ) (bB (σ.2.1 16 2)) b p)))) 60 mSH σ) : mCall Γ M_X4_scoreOf (d + 4) 0 0 [.ref 16, .int (nI p)] 60 mSH σ Q := by
  refine E_X4_scoreOf_16 (nI p) ?_
  have h6 := hV.1.2.2.2.1
  rw [c_time hV hp]
  exact L_scoreOf_16 hV hb hi ho (by omega) (dn (DC σ)) 0 (by omega) hQ
theorem c_worth_18 {σ : mS} {b : Nat → Int32} (hV : cV σ) (hb : sOk (dn (DC σ)) b) (hi : σ.2.1 18 3 = sSet b 1) (ho : σ.2.1 18 4 = sSet b 2) {k : Nat} (hk : k < dn (DC σ)) : f_X4_worthOf_18 σ (nI k) = dWorth (DC σ) (bB (σ.2.1 18 2)) b k := by
  have hn := hV.1.2.1
  have k64 : k < 64 := by omega
  simp only [f_X4_worthOf_18, bB_isSet σ _ k64, c_isIn0_18 hn hb hi k64, c_isOut0_18 hn hb ho k64, c_kind hV hk, c_size hV hk, c_strong0 hV hk, dWorth]
  rcases hb.1 k with e | e | e <;> by_cases k0 : dk (DC σ) k = 0 <;> by_cases k2 : dk (DC σ) k = 2 <;> cases dst (DC σ) k <;> cases bB (σ.2.1 18 2) k <;> simp [e, k0, k2]
theorem c_help_18 {σ : mS} {b : Nat → Int32} (hV : cV σ) (hb : sOk (dn (DC σ)) b) (hi : σ.2.1 18 3 = sSet b 1) {k : Nat} (hk : k < dn (DC σ)) : f_X4_helpOf_18 σ (nI k) = dHelp (DC σ) b k := by
  have hn := hV.1.2.1
  have k64 : k < 64 := by omega
  simp only [f_X4_helpOf_18, c_isIn0_18 hn hb hi k64, c_kind hV hk, c_size hV hk, c_target hV hk, dHelp]
  by_cases k2 : dk (DC σ) k = 2
  · obtain ⟨j, hj, e⟩ : ∃ j, j < k ∧ dt (DC σ) k = nI j := by
      rcases (hV.1.2.2.2.2 k hk).2.2.2 with q | q
      · rw [q.1] at k2; exact absurd k2 (by decide)
      · exact q.2.2
    rw [e, c_kind hV (by omega), uN_nI (by omega)]
    simp only [c_isIn0_18 hn hb hi (show j < 64 by omega)]
    by_cases b1 : b k = 1 <;> by_cases d0 : dk (DC σ) j = 0 <;> by_cases b2 : b j = 1 <;> simp [k2, b1, d0, b2]
  · simp [k2]
theorem L_scoreOf_18 {Γ : Nat × (Nat → Int32)} {d n0 bc bs : Nat} {Q : mQ} {σ : mS} {b : Nat → Int32} {p : Nat} (hV : cV σ) (hb : sOk (dn (DC σ)) b) (hi : σ.2.1 18 3 = sSet b 1) (ho : σ.2.1 18 4 = sSet b 2) (hp : p < 64) : ∀ m i, i + m = dn (DC σ) → Q (.inl (some (.int (dScore (DC σ) (bB (σ.2.1 18 2)) b p)))) 60 mSH σ →
    mK Γ M_X4_scoreOf (d + 4) Q n0 bc bs 14 [(0, .ref 18), (1, .int (nI p)), (2, .int (scW (DC σ) (bB (σ.2.1 18 2)) b p i)), (3, .int (nI i))] [] 60 mSH σ
  | 0, i, hm, hQ => by
    have hn := hV.1.2.1
    refine T_X4_scoreOf_18_14 _ _ _ ⟨fun _ => ?_, fun c => absurd (by rw [show f_X0_items_5 σ = nI (dn (DC σ)) from cV_n hV]; exact nI_le (by omega) (by omega)) c⟩
    rw [show i = dn (DC σ) by omega]
    exact hQ
  | m + 1, i, hm, hQ => by
    have hn := hV.1.2.1
    have hk : i < dn (DC σ) := by omega
    have ih := L_scoreOf_18 (d := d) (n0 := n0) (bc := bc) (bs := bs) (Γ := Γ) hV hb hi ho hp m (i + 1) (by omega) hQ
    rw [scW_s] at ih
    refine T_X4_scoreOf_18_14 _ _ _ ⟨fun c => absurd c (by rw [show f_X0_items_5 σ = nI (dn (DC σ)) from cV_n hV]; exact nI_ge (by omega) (by omega)), fun _ => ?_⟩
    rw [c_owner hV hk, c_tsp hV hk hp, c_worth_18 hV hb hi ho hk, c_help_18 hV hb hi hk, nI_1]
    refine ⟨fun c1 => ⟨fun c2 => ?_, fun c2 => ?_⟩, fun c1 => ⟨fun c2 => ?_, fun c2 => ?_⟩⟩
    · rw [if_pos c1, if_pos c2] at ih; exact ih
    · rw [if_pos c1, if_neg c2, Int32.add_zero] at ih; exact ih
    · rw [if_neg c1, if_pos c2, Int32.add_zero] at ih; exact ih
    · rw [if_neg c1, if_neg c2, Int32.add_zero, Int32.add_zero] at ih; exact ih
theorem S_scoreOf_18 {Γ : Nat × (Nat → Int32)} {d : Nat} {Q : mQ} {σ : mS} {b : Nat → Int32} (p : Nat) (hV : cV σ) (hb : sOk (dn (DC σ)) b) (hi : σ.2.1 18 3 = sSet b 1) (ho : σ.2.1 18 4 = sSet b 2) (hp : p < ds (DC σ)) (hQ : Q (.inl (some (.int (dScore (DC σ) (bB (σ.2.1 18 2)) b p)))) 60 mSH σ) : mCall Γ M_X4_scoreOf (d + 4) 0 0 [.ref 18, .int (nI p)] 60 mSH σ Q := by
  refine E_X4_scoreOf_18 (nI p) ?_
  have h6 := hV.1.2.2.2.1
  rw [c_time hV hp]
  exact L_scoreOf_18 hV hb hi ho (by omega) (dn (DC σ)) 0 (by omega) hQ
