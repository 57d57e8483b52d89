/-! ===== count, speaker, item: pairs ===== -/
theorem isIn_1 {σ : mS} {x : Int32} {j n : Nat} (hj : j ≤ n) (hn : n < 2 ^ 31) (e : x = nI j) : f_X9_isIn σ x 0 (nI n) = 1 := by
  rw [f_X9_isIn, e, if_neg (nI_pos (by omega)), if_neg (nI_nlt (by omega) (by omega))]
theorem isIn_0 {σ : mS} {x : Int32} {n : Nat} (hn : n < 2 ^ 31) (hx : ∀ j, j < n + 1 → x ≠ nI j) : f_X9_isIn σ x 0 (nI n) = 0 := by
  rw [f_X9_isIn]
  by_cases a : x < 0
  · rw [if_pos a]
  · obtain ⟨j, hj, rfl⟩ := nI_of a
    rw [if_neg a]
    have hjn : n < j := by
      apply Classical.byContradiction
      intro q
      exact hx j (by omega) rfl
    rw [if_pos (nI_lt hjn hj)]
theorem P_count {Γ : Nat × (Nat → Int32)} {d : Nat} {σ : mS} (h : Rel σ) (x : Int32) : mCall Γ M_X7_count (d + 12) 1 6 [.ref 0, .int x] 60 mSH σ (PO Γ (d + 12) xIO xIO M_X9_count 3 18 [.ref 26, .int x]) := by
  refine C_count h x (fun j hj e => ?_) (fun hx => ?_)
  · refine PO_q h (FQ_r σ) 0 _ (.inl ⟨rfl, rfl⟩) (fun τ hτ eD f Q hQ => ?_)
    subst e
    refine E_X9_count_26 (nI j) ⟨fun c => ab1 (by rw [i01.2.2.2.2.2.2.2.2.2.2.2]; exact isIn_1 (by omega) (by omega) rfl) c, fun _ => ?_⟩
    refine S_counted (σ := th τ 0) j (Rel_th hτ 0) hj (T_X9_count_26_20a _ _ ?_)
    have t1 : (th τ 0).1 26 2 = σ.1 1 1 := by
      obtain ⟨n, _, a, b, _⟩ := h.2.2.2.1
      rw [th_26 τ 0 (by decide), f.1 26 (by decide) (by decide), b, a]
    have t2 : (th τ 0).1 26 4 = σ.1 3 1 := by
      obtain ⟨n, _, a, b, _⟩ := h.2.2.2.2.1
      rw [th_26 τ 0 (by decide), f.1 26 (by decide) (by decide), b, a]
    rw [t1, t2, show DM (th τ 0) = DM σ from eD]
    exact hQ _ (Rel_q hτ 0)
  · refine PO_q h (FQ_r σ) 1 0 (.inr (.inl ⟨rfl, rfl⟩)) (fun τ hτ e _ Q hQ => ?_)
    refine E_X9_count_26 x ⟨fun _ => noQ (hQ _ (Rel_q hτ 1)), fun c => absurd ?_ c⟩
    rw [i01.2.2.2.2.2.2.2.2.2.2.2]; exact isIn_0 (by omega) hx
def cO (D : mDeb) (f : Nat → Int32) (p j i : Nat) : Nat := mCnt (fun k => decide (db D k = nI p) && decide (f k = nI j)) i
theorem cO_n (D : mDeb) (f : Nat → Int32) (p j i : Nat) (h : ¬ db D i = nI p) : cO D f p j (i + 1) = cO D f p j i := by
  rw [cO, mCnt, decide_eq_false h]; rfl
theorem cO_s (D : mDeb) (f : Nat → Int32) (p j i : Nat) (h : db D i = nI p) : cO D f p j (i + 1) = cO D f p j i + (if f i = nI j then 1 else 0) := by
  rw [cO, mCnt]
  by_cases e : f i = nI j <;> simp [h, e, cO]
theorem cO_c {D : mDeb} (h : dV D) {p i : Nat} (hi : i < dn D) (o : db D i = nI p) : nI (cO D (dc D) p 1 i) + dc D i = nI (cO D (dc D) p 1 (i + 1)) := by
  rw [cO_s _ _ _ _ _ o]
  rcases (h.2.2.2.2 i hi).2.2.1 with q | q
  · rw [q, if_neg (by decide)]; exact nI_add _ 0
  · rw [q, if_pos (by decide)]; exact nI_add _ 1
def aSpk (D : mDeb) (co : Nat → Bool) (b : Nat → Int32) (p : Nat) : Nat → Int32
  | 0 => dm D p
  | 1 => dScore D co b p
  | 2 => dLead D co b p
  | 3 => nI (cO D (dk D) p 0 (dn D))
  | 4 => nI (cO D (dk D) p 1 (dn D))
  | 5 => nI (cO D (dk D) p 2 (dn D))
  | _ => nI (cO D (dc D) p 1 (dn D))
theorem Rel.tm {σ : mS} (h : Rel σ) {p : Nat} (hp : p < ds (DM σ)) : σ.1 7 p = dm (DM σ) p := by
  rw [← h.D]
  show _ = mkI (ds (DC σ)) (σ.1 7) p
  rw [mkI, if_pos (by rw [h.D]; exact hp)]
theorem m_tm {σ : mS} {p : Nat} (hp : p < ds (DM σ)) : σ.1 34 p = dm (DM σ) p := by
  show _ = mkI (ds (DM σ)) (σ.1 34) p
  rw [mkI, if_pos hp]
theorem Rel.ok {σ : mS} (h : Rel σ) {p : Nat} (y : Int32) (k : Nat) : bB (f_X0_itemsOfSpeaker_5 σ (nI p) &&& f_X0_itemsOfKind_5 σ y) k = (decide (k < dn (DM σ)) && (decide (db (DM σ) k = nI p) && decide (dk (DM σ) k = y))) := by
  rw [bB_and, h.bOwn, h.bKind]
  by_cases e : k < dn (DM σ) <;> simp [e]
theorem Rel.oc {σ : mS} (h : Rel σ) {p : Nat} (k : Nat) : bB (f_X0_itemsOfSpeaker_5 σ (nI p) &&& f_X0_concededItems_5 σ) k = (decide (k < dn (DM σ)) && (decide (db (DM σ) k = nI p) && decide (dc (DM σ) k = nI 1))) := by
  rw [bB_and, h.bOwn, f_X0_concededItems_5, h.bCo]
  by_cases e : k < dn (DM σ) <;> simp [e]
theorem C_spk {Γ : Nat × (Nat → Int32)} {d : Nat} {Q : mQ} {σ : mS} (h : Rel σ) (p : Nat) (hp : p < ds (DM σ)) (y : Int32)
    (hQ : ∀ j, j < 7 → y = nI j → Q (.inl (some (.int (aSpk (DM σ) (coD (DM σ) noS) (bF (DM σ)) p j)))) 60 mSH σ)
    (hX : (∀ j, j < 7 → y ≠ nI j) → Q (.inr "java/lang/IndexOutOfBoundsException") 60 mSH σ) : mCall Γ M_X7_speaker (d + 6) 2 12 [.ref 0, .int (nI p), .int y] 60 mSH σ Q := by
  have h40 := h.n40
  have h6 := h.s6
  have hp' : p < ds (DC σ) := by rw [h.D]; exact hp
  refine E_X7_speaker_0 (nI p) y ⟨fun c => ab1 (h.hs1 hp) c, fun _ => ⟨h.cn, fun c => ?_, fun c0 => ⟨fun c => ?_, fun c1 => ⟨fun c => ?_, fun c2 => ⟨fun c => ?_, fun c3 => ⟨fun c => ?_, fun c4 => ⟨fun c => ?_, fun c5 => ⟨fun c => ?_, fun c6 => ?_⟩⟩⟩⟩⟩⟩⟩⟩
  · have := hQ 0 (by omega) (c.trans (by decide))
    rw [f_X0_timeOf_5, h.hs1 hp, if_neg (by decide), nI_clamp (by omega), h.tm hp]; exact this
  · have := hQ 1 (by omega) (c.trans (by decide))
    refine S_scoreOf_16 (b := bF (DM σ)) p h.V h.I.2.1 h.I.2.2.1 h.I.2.2.2 hp' (T_X7_speaker_0_73a _ _ _ _ ?_)
    rw [h.D, h.C]; exact this
  · have := hQ 2 (by omega) (c.trans (by decide))
    refine S_leadOf_16 (b := bF (DM σ)) p h.I hp' (T_X7_speaker_0_82a _ _ _ _ ?_)
    rw [h.D, h.C]; exact this
  · have := hQ 3 (by omega) (c.trans (by decide)); rw [cntB (by omega) (h.ok 0)]; exact this
  · have := hQ 4 (by omega) (c.trans (by decide)); rw [cntB (by omega) (h.ok 1)]; exact this
  · have := hQ 5 (by omega) (c.trans (by decide)); rw [cntB (by omega) (h.ok 2)]; exact this
  · have := hQ 6 (by omega) (c.trans (by decide)); rw [cntB (by omega) h.oc]; exact this
  · refine hX (fun j hj e => ?_)
    rcases j with _ | _ | _ | _ | _ | _ | _ | j
    · exact c0 (e.trans (by decide))
    · exact c1 (e.trans (by decide))
    · exact c2 (e.trans (by decide))
    · exact c3 (e.trans (by decide))
    · exact c4 (e.trans (by decide))
    · exact c5 (e.trans (by decide))
    · exact c6 (e.trans (by decide))
    · omega
theorem O_spk {Γ : Nat × (Nat → Int32)} {d : Nat} {Q : mQ} {σ : mS} (h : Rel σ) (p : Nat) (hp : p < ds (DM σ)) (y : Int32)
    (hQ : ∀ j, j < 7 → y = nI j → Q (.inl (some (.int (aSpk (DM σ) (coD (DM σ) noS) (bF (DM σ)) p j)))) 60 mSH σ)
    (hX : (∀ j, j < 7 → y ≠ nI j) → False) : mCall Γ M_X7_speaker (d + 6) 0 0 [.ref 0, .int (nI p), .int y] 60 mSH σ Q := by
  have h40 := h.n40
  have h6 := h.s6
  have hp' : p < ds (DC σ) := by rw [h.D]; exact hp
  refine O_X7_speaker_0 (nI p) y ⟨fun c => ab1 (h.hs1 hp) c, fun _ => ⟨h.cn, fun c => ?_, fun c0 => ⟨fun c => ?_, fun c1 => ⟨fun c => ?_, fun c2 => ⟨fun c => ?_, fun c3 => ⟨fun c => ?_, fun c4 => ⟨fun c => ?_, fun c5 => ⟨fun c => ?_, fun c6 => ?_⟩⟩⟩⟩⟩⟩⟩⟩
  · have := hQ 0 (by omega) (c.trans (by decide))
    rw [f_X0_timeOf_5, h.hs1 hp, if_neg (by decide), nI_clamp (by omega), h.tm hp]; exact this
  · have := hQ 1 (by omega) (c.trans (by decide))
    refine S_scoreOf_16 (b := bF (DM σ)) p h.V h.I.2.1 h.I.2.2.1 h.I.2.2.2 hp' (T_X7_speaker_0_73a _ _ _ _ ?_)
    rw [h.D, h.C]; exact this
  · have := hQ 2 (by omega) (c.trans (by decide))
    refine S_leadOf_16 (b := bF (DM σ)) p h.I hp' (T_X7_speaker_0_82a _ _ _ _ ?_)
    rw [h.D, h.C]; exact this
  · have := hQ 3 (by omega) (c.trans (by decide)); rw [cntB (by omega) (h.ok 0)]; exact this
  · have := hQ 4 (by omega) (c.trans (by decide)); rw [cntB (by omega) (h.ok 1)]; exact this
  · have := hQ 5 (by omega) (c.trans (by decide)); rw [cntB (by omega) (h.ok 2)]; exact this
  · have := hQ 6 (by omega) (c.trans (by decide)); rw [cntB (by omega) h.oc]; exact this
  · refine hX (fun j hj e => ?_)
    rcases j with _ | _ | _ | _ | _ | _ | _ | j
    · exact c0 (e.trans (by decide))
    · exact c1 (e.trans (by decide))
    · exact c2 (e.trans (by decide))
    · exact c3 (e.trans (by decide))
    · exact c4 (e.trans (by decide))
    · exact c5 (e.trans (by decide))
    · exact c6 (e.trans (by decide))
    · omega
theorem L_spkTold {Γ : Nat × (Nat → Int32)} {d : Nat} {Q : mQ} {σ : mS} {p j : Nat} (h : Rel σ) (hp : p < ds (DM σ)) (hj : j < 7)
    (hQ : Q (.inl (some (.int (aSpk (DM σ) (coD (DM σ) noS) (bF (DM σ)) p j)))) 60 mSH σ) :
    ∀ m i, i + m = dn (DM σ) → ∀ σ', mBk σ' σ → (∀ a, a < 3 → σ'.1 60 a = nI (cO (DM σ) (dk (DM σ)) p a i)) →
    mK Γ M_X9_speakerTold (d + 4) Q 60 1 7 10 [(0, .ref 26), (1, .int (nI p)), (2, .int (nI j)), (3, .ref 60), (4, .int (nI (cO (DM σ) (dc (DM σ)) p 1 i))), (5, .int (nI i))] [] 61 (mNw mSH 60 (100, 3, fun _ => none)) σ'
  | 0, i, hm, σ', hB, hC => by
    have h40 := h.n40
    have h6 := h.s6
    have hi : i = dn (DM σ) := by omega
    subst hi
    refine T_X9_speakerTold_26_10 _ _ _ _ ⟨fun _ => ⟨vp_in_nI (by omega) (by omega), ?_⟩, fun c => absurd (by rw [(hB 32 (by decide)).1, sV_n h.S]; exact nI_le (by omega) (by omega)) c⟩
    have hB1 : mBk (mPI (mZr σ' 61) 61 0 ((mZr σ' 61).1 34 (nI p).toNatClampNeg)) σ := mBk_p (mBk_z hB (by decide)) (by decide)
    have eD := mBk_DM hB1
    have hS1 : sV (mPI (mZr σ' 61) 61 0 ((mZr σ' 61).1 34 (nI p).toNatClampNeg)) := by rw [sV, eD]; exact h.S
    have eC : coM (mPI (mZr σ' 61) 61 0 ((mZr σ' 61).1 34 (nI p).toNatClampNeg)) = coM σ := coM_26 (hB1 26 (by decide)).1 eD
    have e52 := (hB1 52 (by decide)).1
    refine S_score_52w p hS1 (by rw [eD]; exact hp) ?_
    rw [eD, eC, e52, dScore_congr h.S h.O h.B]
    refine T_X9_speakerTold_26_103a _ _ _ _ _ _ ⟨by unfold vp_in; decide, ?_⟩
    have hB2 : mBk (mPI (mPI (mZr σ' 61) 61 0 ((mZr σ' 61).1 34 (nI p).toNatClampNeg)) 61 (1 : Int32).toNatClampNeg (dScore (DM σ) (coD (DM σ) noS) (bF (DM σ)) p)) σ := mBk_p hB1 (by decide)
    have eD2 := mBk_DM hB2
    have hS2 : sV (mPI (mPI (mZr σ' 61) 61 0 ((mZr σ' 61).1 34 (nI p).toNatClampNeg)) 61 (1 : Int32).toNatClampNeg (dScore (DM σ) (coD (DM σ) noS) (bF (DM σ)) p)) := by rw [sV, eD2]; exact h.S
    have eC2 : coM (mPI (mPI (mZr σ' 61) 61 0 ((mZr σ' 61).1 34 (nI p).toNatClampNeg)) 61 (1 : Int32).toNatClampNeg (dScore (DM σ) (coD (DM σ) noS) (bF (DM σ)) p)) = coM σ := coM_26 (hB2 26 (by decide)).1 eD2
    have e522 := (hB2 52 (by decide)).1
    refine S_lead_52w p hS2 (by rw [eD2]; exact hp) ?_
    rw [eD2, eC2, e522, dLead_congr h.S h.O h.B]
    refine T_X9_speakerTold_26_115a _ _ _ _ _ _ ⟨by unfold vp_in; decide, vp_in_nI (by omega) (by omega), σ, ?_, ?_⟩
    · repeat (first | exact hB | refine mBk_p ?_ (by decide) | refine mBk_z ?_ (by decide))
    · have c0 := hC 0 (by omega)
      have c1 := hC 1 (by omega)
      have c2 := hC 2 (by omega)
      have et : (mZr σ' 61).1 34 (nI p).toNatClampNeg = dm (DM σ) p := by rw [mZr_ne (by decide), nI_clamp (by omega), (hB 34 (by decide)).1, m_tm hp]
      rw [show (1 : Int32).toNatClampNeg = 1 by decide, show (2 : Int32).toNatClampNeg = 2 by decide, nI_clamp (show j < 2 ^ 31 by omega), et, mPI_ne (show 60 ≠ 61 by decide), mPI_ne (show 60 ≠ 61 by decide), mZr_ne (show 60 ≠ 61 by decide), c0, c1, c2]
      rcases j with _ | _ | _ | _ | _ | _ | _ | j
      all_goals first
        | omega
        | (simp only [mPI_at]; exact hQ)
  | m + 1, i, hm, σ', hB, hC => by
    have h40 := h.n40
    have hi : i < dn (DM σ) := by omega
    obtain ⟨a, ha, ea⟩ := dV_k3 h.S hi
    have e1 : σ'.1 36 i = nI a := by rw [(hB 36 (by decide)).1, m_kind hi, ea]
    have e2 : σ'.1 37 i = db (DM σ) i := by rw [(hB 37 (by decide)).1, m_owner hi]
    have e3 : σ'.1 41 i = dc (DM σ) i := by rw [(hB 41 (by decide)).1, m_conc hi]
    refine T_X9_speakerTold_26_10 _ _ _ _ ⟨fun c => absurd c (by rw [(hB 32 (by decide)).1, sV_n h.S]; exact nI_ge (by omega) (by omega)), fun _ => ⟨vp_in_nI (by omega) (by omega), ?_⟩⟩
    rw [nI_clamp (show i < 2 ^ 31 by omega), e1, e2, e3, nI_clamp (show a < 2 ^ 31 by omega), nI_1]
    refine ⟨fun o => ⟨vp_in_nI (by omega) (by omega), ?_⟩, fun o => ?_⟩
    · rw [cO_c h.S hi o]
      refine L_spkTold h hp hj hQ m (i + 1) (by omega) _ (mBk_p hB (by decide)) (fun z hz => ?_)
      rw [mPI_at, cO_s _ _ _ _ _ o, ea, nIf (show a < 2 ^ 31 by omega) (show z < 2 ^ 31 by omega)]
      by_cases q : z = a
      · subst q; rw [if_pos rfl, if_pos rfl, hC z hz, nI_1]
      · rw [if_neg q, if_neg (fun w => q w.symm), hC z hz, Nat.add_zero]
    · rw [← cO_n (DM σ) (dc (DM σ)) p 1 i o]
      exact L_spkTold h hp hj hQ m (i + 1) (by omega) _ hB (fun z hz => by rw [cO_n _ _ _ _ _ o]; exact hC z hz)
theorem S_spkTold {Γ : Nat × (Nat → Int32)} {d : Nat} {Q : mQ} {σ : mS} (p j : Nat) (h : Rel σ) (hp : p < ds (DM σ)) (hj : j < 7)
    (hQ : Q (.inl (some (.int (aSpk (DM σ) (coD (DM σ) noS) (bF (DM σ)) p j)))) 60 mSH σ) : mCall Γ M_X9_speakerTold (d + 4) 2 10 [.ref 26, .int (nI p), .int (nI j)] 60 mSH σ Q := by
  refine E_X9_speakerTold_26 (nI p) (nI j) (L_spkTold h hp hj hQ (dn (DM σ)) 0 (Nat.zero_add _) _ (mBk_z (mBk_r σ) (by decide)) (fun a ha => ?_))
  rw [mZr_eq]; rfl
theorem P_speaker {Γ : Nat × (Nat → Int32)} {d : Nat} {σ : mS} (h : Rel σ) (x y : Int32) : mCall Γ M_X7_speaker (d + 12) 2 12 [.ref 0, .int x, .int y] 60 mSH σ (PO Γ (d + 12) xIO xIO M_X9_speaker 2 10 [.ref 26, .int x, .int y]) := by
  rcases itemCase (ds (DM σ)) x with ⟨p, hp, rfl⟩ | hx
  · refine C_spk h p hp y (fun j hj e => ?_) (fun hy => ?_)
    · refine PO_q h (FQ_r σ) 0 _ (.inl ⟨rfl, rfl⟩) (fun τ hτ eD f Q hQ => ?_)
      subst e
      have hp' : p < ds (DM τ) := by rw [eD]; exact hp
      refine E_X9_speaker_26 (nI p) (nI j) ⟨isIn01 _ _ _ _, fun c => ab1 (isSp1 hτ hp') c, fun _ => ⟨fun c => ab1 (by rw [i01.2.2.2.2.2.2.1]; exact isIn_1 (by omega) (by omega) rfl) c, fun _ => ?_⟩⟩
      refine S_spkTold (σ := th τ 0) p j (Rel_th hτ 0) hp' hj (T_X9_speaker_26_29a _ _ _ ?_)
      rw [show DM (th τ 0) = DM σ from eD]
      exact hQ _ (Rel_q hτ 0)
    · refine PO_q h (FQ_r σ) 1 0 (.inr (.inl ⟨rfl, rfl⟩)) (fun τ hτ e _ Q hQ => ?_)
      refine E_X9_speaker_26 _ y ⟨isIn01 _ _ _ _, fun _ => noQ (hQ _ (Rel_q hτ 1)), fun _ => ⟨fun _ => noQ (hQ _ (Rel_q hτ 1)), fun c => absurd ?_ c⟩⟩
      rw [i01.2.2.2.2.2.2.1]; exact isIn_0 (by omega) hy
  · refine E_X7_speaker_0 x y ⟨fun _ => ?_, fun c => absurd (h.hs0 hx) c⟩
    refine PO_q h (FQ_r σ) 1 0 (.inr (.inl ⟨rfl, rfl⟩)) (fun τ hτ e _ Q hQ => ?_)
    exact E_X9_speaker_26 x y ⟨isIn01 _ _ _ _, fun _ => noQ (hQ _ (Rel_q hτ 1)), fun c => absurd (isSp0 hτ (by rw [e]; exact hx)) c⟩
def aItm (D : mDeb) (b r : Nat → Int32) (k : Nat) : Nat → Int32
  | 0 => dk D k
  | 1 => db D k
  | 2 => dz D k
  | 3 => dr D k
  | 4 => dt D k
  | 5 => b k
  | 6 => r k
  | 7 => dc D k
  | 8 => if dst D k = true then 1 else 0
  | 9 => nI (mCnt (fun i => decide (dk D i = 1 ∧ dt D i = nI k)) (dn D))
  | _ => nI (mCnt (fun i => decide (dk D i = 2 ∧ dt D i = nI k)) (dn D))
theorem Rel.tk {σ : mS} (h : Rel σ) {p : Nat} (y : Int32) (k : Nat) : bB (f_X0_itemsWithTarget_5 σ (nI p) &&& f_X0_itemsOfKind_5 σ y) k = (decide (k < dn (DM σ)) && decide (dk (DM σ) k = y ∧ dt (DM σ) k = nI p)) := by
  rw [bB_and, h.bTgt, h.bKind, Bool.decide_and, Bool.and_comm]
  by_cases e : k < dn (DM σ) <;> simp [e]
theorem C_itm {Γ : Nat × (Nat → Int32)} {d : Nat} {Q : mQ} {σ : mS} (h : Rel σ) (k : Nat) (hk : k < dn (DM σ)) (y : Int32)
    (hQ : ∀ j, j < 11 → y = nI j → Q (.inl (some (.int (aItm (DM σ) (bF (DM σ)) (nF (DM σ)) k j)))) 60 mSH σ)
    (hX : (∀ j, j < 11 → y ≠ nI j) → Q (.inr "java/lang/IndexOutOfBoundsException") 60 mSH σ) : mCall Γ M_X7_item (d + 4) 2 12 [.ref 0, .int (nI k), .int y] 60 mSH σ Q := by
  have h40 := h.n40
  have hk' : k < dn (DC σ) := by rw [h.D]; exact hk
  have kd := c_kind h.V hk'
  have ow := c_owner h.V hk'
  have sz := c_size h.V hk'
  have so := c_source h.V hk'
  have tg := c_target h.V hk'
  have cc := c_conc h.V hk'
  have ss := c_strong0 h.V hk'
  rw [h.D] at kd ow sz so tg cc ss
  refine C_X7_item_0 (nI k) y ⟨fun c => ab1 (h.hi1 hk) c, fun _ => ?_⟩
  rw [kd, ow, sz, so, tg, cc, ss, c_isIn0_16 (b := bF (DM σ)) h40 h.bOK h.2.1.2.1 (by omega), c_isOut0_16 (b := bF (DM σ)) h40 h.bOK h.2.1.2.2.1 (by omega)]
  refine ⟨fun c => ?_, fun c0 => ⟨fun c => ?_, fun c1 => ⟨fun c => ?_, fun c2 => ⟨fun c => ?_, fun c3 => ⟨fun c => ?_, fun c4 => ⟨fun c => ⟨fun w => ⟨fun v => ?_, fun v => ?_⟩, fun w => ?_⟩, fun c5 => ⟨fun c => ?_, fun c6 => ⟨fun c => ⟨fun w => ?_, fun w => ?_⟩, fun c7 => ⟨fun c => ⟨fun w => ?_, fun w => ?_⟩, fun c8 => ⟨fun c => ⟨h.cn, ?_⟩, fun c9 => ⟨fun c => ⟨h.cn, ?_⟩, fun c10 => ?_⟩⟩⟩⟩⟩⟩⟩⟩⟩⟩⟩
  · exact hQ 0 (by omega) (c.trans (by decide))
  · exact hQ 1 (by omega) (c.trans (by decide))
  · exact hQ 2 (by omega) (c.trans (by decide))
  · exact hQ 3 (by omega) (c.trans (by decide))
  · exact hQ 4 (by omega) (c.trans (by decide))
  · have := hQ 5 (by omega) (c.trans (by decide))
    rw [aItm, (h.bOK.1 k).resolve_right (fun q => q.elim w v)] at this; exact this
  · have := hQ 5 (by omega) (c.trans (by decide))
    rw [aItm, Classical.not_not.mp v] at this; exact this
  · have := hQ 5 (by omega) (c.trans (by decide))
    rw [aItm, Classical.not_not.mp w] at this; exact this
  · have := hQ 6 (by omega) (c.trans (by decide))
    rw [f_X4_roundOf_16, if_neg (nI_pos (by omega)), if_neg (by rw [i40]; exact nI_ge (by omega) (by omega)), nI_clamp (by omega), h.2.1.2.2.2.2 k (by omega)]; exact this
  · have := hQ 7 (by omega) (c.trans (by decide))
    have d0 : dc (DM σ) k = 0 := by
      rcases (h.S.2.2.2.2 k hk).2.2.1 with q | q
      · exact q
      · rw [if_pos q] at w; exact absurd w (by decide)
    rw [aItm, d0] at this; exact this
  · have := hQ 7 (by omega) (c.trans (by decide))
    have d1 : dc (DM σ) k = 1 := Classical.byContradiction (fun q => w (if_neg q))
    rw [aItm, d1] at this; exact this
  · have := hQ 8 (by omega) (c.trans (by decide))
    rw [aItm, w, if_neg (by decide)] at this; exact this
  · have := hQ 8 (by omega) (c.trans (by decide))
    rw [aItm, if_pos (Bool.not_eq_false _ ▸ w)] at this; exact this
  · have := hQ 9 (by omega) (c.trans (by decide)); rw [cntB (by omega) (h.tk 1)]; exact this
  · have := hQ 10 (by omega) (c.trans (by decide)); rw [cntB (by omega) (h.tk 2)]; exact this
  · refine hX (fun j hj e => ?_)
    rcases j with _ | _ | _ | _ | _ | _ | _ | _ | _ | _ | _ | j
    · exact c0 (e.trans (by decide))
    · exact c1 (e.trans (by decide))
    · exact c2 (e.trans (by decide))
    · exact c3 (e.trans (by decide))
    · exact c4 (e.trans (by decide))
    · exact c5 (e.trans (by decide))
    · exact c6 (e.trans (by decide))
    · exact c7 (e.trans (by decide))
    · exact c8 (e.trans (by decide))
    · exact c9 (e.trans (by decide))
    · exact c10 (e.trans (by decide))
    · omega
theorem O_itm {Γ : Nat × (Nat → Int32)} {d : Nat} {Q : mQ} {σ : mS} (h : Rel σ) (k : Nat) (hk : k < dn (DM σ)) (y : Int32)
    (hQ : ∀ j, j < 11 → y = nI j → Q (.inl (some (.int (aItm (DM σ) (bF (DM σ)) (nF (DM σ)) k j)))) 60 mSH σ)
    (hX : (∀ j, j < 11 → y ≠ nI j) → False) : mCall Γ M_X7_item (d + 4) 0 0 [.ref 0, .int (nI k), .int y] 60 mSH σ Q := by
  have h40 := h.n40
  have hk' : k < dn (DC σ) := by rw [h.D]; exact hk
  have kd := c_kind h.V hk'
  have ow := c_owner h.V hk'
  have sz := c_size h.V hk'
  have so := c_source h.V hk'
  have tg := c_target h.V hk'
  have cc := c_conc h.V hk'
  have ss := c_strong0 h.V hk'
  rw [h.D] at kd ow sz so tg cc ss
  refine O_X7_item_0 (nI k) y ⟨fun c => ab1 (h.hi1 hk) c, fun _ => ?_⟩
  rw [kd, ow, sz, so, tg, cc, ss, c_isIn0_16 (b := bF (DM σ)) h40 h.bOK h.2.1.2.1 (by omega), c_isOut0_16 (b := bF (DM σ)) h40 h.bOK h.2.1.2.2.1 (by omega)]
  refine ⟨fun c => ?_, fun c0 => ⟨fun c => ?_, fun c1 => ⟨fun c => ?_, fun c2 => ⟨fun c => ?_, fun c3 => ⟨fun c => ?_, fun c4 => ⟨fun c => ⟨fun w => ⟨fun v => ?_, fun v => ?_⟩, fun w => ?_⟩, fun c5 => ⟨fun c => ?_, fun c6 => ⟨fun c => ⟨fun w => ?_, fun w => ?_⟩, fun c7 => ⟨fun c => ⟨fun w => ?_, fun w => ?_⟩, fun c8 => ⟨fun c => ⟨h.cn, ?_⟩, fun c9 => ⟨fun c => ⟨h.cn, ?_⟩, fun c10 => ?_⟩⟩⟩⟩⟩⟩⟩⟩⟩⟩⟩
  · exact hQ 0 (by omega) (c.trans (by decide))
  · exact hQ 1 (by omega) (c.trans (by decide))
  · exact hQ 2 (by omega) (c.trans (by decide))
  · exact hQ 3 (by omega) (c.trans (by decide))
  · exact hQ 4 (by omega) (c.trans (by decide))
  · have := hQ 5 (by omega) (c.trans (by decide))
    rw [aItm, (h.bOK.1 k).resolve_right (fun q => q.elim w v)] at this; exact this
  · have := hQ 5 (by omega) (c.trans (by decide))
    rw [aItm, Classical.not_not.mp v] at this; exact this
  · have := hQ 5 (by omega) (c.trans (by decide))
    rw [aItm, Classical.not_not.mp w] at this; exact this
  · have := hQ 6 (by omega) (c.trans (by decide))
    rw [f_X4_roundOf_16, if_neg (nI_pos (by omega)), if_neg (by rw [i40]; exact nI_ge (by omega) (by omega)), nI_clamp (by omega), h.2.1.2.2.2.2 k (by omega)]; exact this
  · have := hQ 7 (by omega) (c.trans (by decide))
    have d0 : dc (DM σ) k = 0 := by
      rcases (h.S.2.2.2.2 k hk).2.2.1 with q | q
      · exact q
      · rw [if_pos q] at w; exact absurd w (by decide)
    rw [aItm, d0] at this; exact this
  · have := hQ 7 (by omega) (c.trans (by decide))
    have d1 : dc (DM σ) k = 1 := Classical.byContradiction (fun q => w (if_neg q))
    rw [aItm, d1] at this; exact this
  · have := hQ 8 (by omega) (c.trans (by decide))
    rw [aItm, w, if_neg (by decide)] at this; exact this
  · have := hQ 8 (by omega) (c.trans (by decide))
    rw [aItm, if_pos (Bool.not_eq_false _ ▸ w)] at this; exact this
  · have := hQ 9 (by omega) (c.trans (by decide)); rw [cntB (by omega) (h.tk 1)]; exact this
  · have := hQ 10 (by omega) (c.trans (by decide)); rw [cntB (by omega) (h.tk 2)]; exact this
  · refine hX (fun j hj e => ?_)
    rcases j with _ | _ | _ | _ | _ | _ | _ | _ | _ | _ | _ | j
    · exact c0 (e.trans (by decide))
    · exact c1 (e.trans (by decide))
    · exact c2 (e.trans (by decide))
    · exact c3 (e.trans (by decide))
    · exact c4 (e.trans (by decide))
    · exact c5 (e.trans (by decide))
    · exact c6 (e.trans (by decide))
    · exact c7 (e.trans (by decide))
    · exact c8 (e.trans (by decide))
    · exact c9 (e.trans (by decide))
    · exact c10 (e.trans (by decide))
    · omega
theorem S_itmTold {Γ : Nat × (Nat → Int32)} {d : Nat} {Q : mQ} {σ : mS} (k j : Nat) (h : Rel σ) (hk : k < dn (DM σ)) (hj : j < 11)
    (hQ : Q (.inl (some (.int (aItm (DM σ) (bF (DM σ)) (nF (DM σ)) k j)))) 60 mSH σ) : mCall Γ M_X9_itemTold (d + 2) 0 0 [.ref 26, .int (nI k), .int (nI j)] 60 mSH σ Q := by
  have h40 := h.n40
  have cl : (nI k).toNatClampNeg = k := nI_clamp (by omega)
  have vk : vp_in (nI k) 40 := vp_in_nI (by omega) (by omega)
  refine E_X9_itemTold_26 (nI k) (nI j) ?_
  rw [cl, m_kind hk, m_owner hk, m_size hk, m_source hk, m_target hk, m_conc hk, h.B k hk, (h.2.2.1.1 k hk).2, m_strong0 h.S hk]
  have st : dk (DM σ) k = 1 → vp_in (dt (DM σ) k) 40 := fun k1 => by
    rcases dV_k0 h.S hk with q | ⟨_, i, hi, q⟩
    · rw [q.1] at k1; exact absurd k1 (by decide)
    · rw [q]; exact vp_in_nI (by omega) (by omega)
  have ne : ∀ n, n < 11 → nI j = nI n → j = n := fun n hn e => (nI_eq (show j < 2 ^ 31 by omega) (by omega)).mp e
  refine ⟨fun c => ⟨vk, ?_⟩, fun n0 => ⟨fun c => ⟨vk, ?_⟩, fun n1 => ⟨fun c => ⟨vk, ?_⟩, fun n2 => ⟨fun c => ⟨vk, ?_⟩, fun n3 => ⟨fun c => ⟨vk, ?_⟩, fun n4 => ⟨fun c => ⟨vk, ?_⟩, fun n5 => ⟨fun c => ⟨vk, ?_⟩, fun n6 => ⟨fun c => ⟨vk, ?_⟩, fun n7 => ⟨fun c => ⟨vk, st, fun w => ?_, fun w => ?_⟩, fun n8 => ⟨fun c => ?_, fun n9 => ?_⟩⟩⟩⟩⟩⟩⟩⟩⟩⟩
  · rw [ne 0 (by omega) c] at hQ; exact hQ
  · rw [ne 1 (by omega) c] at hQ; exact hQ
  · rw [ne 2 (by omega) c] at hQ; exact hQ
  · rw [ne 3 (by omega) c] at hQ; exact hQ
  · rw [ne 4 (by omega) c] at hQ; exact hQ
  · rw [ne 5 (by omega) c] at hQ; exact hQ
  · rw [ne 6 (by omega) c] at hQ; exact hQ
  · rw [ne 7 (by omega) c] at hQ; exact hQ
  · rw [ne 8 (by omega) c, aItm, w, if_neg (by decide)] at hQ; exact hQ
  · rw [ne 8 (by omega) c, aItm, if_pos (Bool.not_eq_false _ ▸ w)] at hQ; exact hQ
  · rw [ne 9 (by omega) c] at hQ; exact S_on (nI k) 1 h.S (T_X9_itemTold_26_153a _ _ _ hQ)
  · refine S_on (nI k) 2 h.S (T_X9_itemTold_26_160a _ _ _ ?_)
    have e : j = 10 := by
      apply Classical.byContradiction
      intro q
      have : j < 10 := by omega
      rcases j with _ | _ | _ | _ | _ | _ | _ | _ | _ | _ | j
      · exact n0 (by decide)
      · exact n1 (by decide)
      · exact n2 (by decide)
      · exact n3 (by decide)
      · exact n4 (by decide)
      · exact n5 (by decide)
      · exact n6 (by decide)
      · exact n7 (by decide)
      · exact n8 (by decide)
      · exact n9 (by decide)
      · omega
    rw [e] at hQ; exact hQ
theorem P_item {Γ : Nat × (Nat → Int32)} {d : Nat} {σ : mS} (h : Rel σ) (x y : Int32) : mCall Γ M_X7_item (d + 12) 2 12 [.ref 0, .int x, .int y] 60 mSH σ (PO Γ (d + 12) xIO xIO M_X9_item 0 0 [.ref 26, .int x, .int y]) := by
  rcases itemCase (dn (DM σ)) x with ⟨k, hk, rfl⟩ | hx
  · refine C_itm h k hk y (fun j hj e => ?_) (fun hy => ?_)
    · refine PO_q h (FQ_r σ) 0 _ (.inl ⟨rfl, rfl⟩) (fun τ hτ eD f Q hQ => ?_)
      subst e
      have hk' : k < dn (DM τ) := by rw [eD]; exact hk
      refine E_X9_item_26 (nI k) (nI j) ⟨isIn01 _ _ _ _, fun c => ab1 (isIt1 hτ hk') c, fun _ => ⟨fun c => ab1 (by rw [i01.2.2.2.2.2.2.2.2.2.2.1]; exact isIn_1 (by omega) (by omega) rfl) c, fun _ => ?_⟩⟩
      refine S_itmTold (σ := th τ 0) k j (Rel_th hτ 0) hk' hj (T_X9_item_26_29a _ _ _ ?_)
      rw [show DM (th τ 0) = DM σ from eD]
      exact hQ _ (Rel_q hτ 0)
    · refine PO_q h (FQ_r σ) 1 0 (.inr (.inl ⟨rfl, rfl⟩)) (fun τ hτ e _ Q hQ => ?_)
      refine E_X9_item_26 _ y ⟨isIn01 _ _ _ _, fun _ => noQ (hQ _ (Rel_q hτ 1)), fun _ => ⟨fun _ => noQ (hQ _ (Rel_q hτ 1)), fun c => absurd ?_ c⟩⟩
      rw [i01.2.2.2.2.2.2.2.2.2.2.1]; exact isIn_0 (by omega) hy
  · refine C_X7_item_0 x y ⟨fun _ => ?_, fun c => absurd (h.hi0 hx) c⟩
    refine PO_q h (FQ_r σ) 1 0 (.inr (.inl ⟨rfl, rfl⟩)) (fun τ hτ e _ Q hQ => ?_)
    exact E_X9_item_26 x y ⟨isIn01 _ _ _ _, fun _ => noQ (hQ _ (Rel_q hτ 1)), fun c => absurd (isIt0 hτ (by rw [e]; exact hx)) c⟩
theorem O_count {Γ : Nat × (Nat → Int32)} {d : Nat} {Q : mQ} {σ : mS} (h : Rel σ) (x : Int32)
    (hQ : ∀ j, j < 12 → x = nI j → Q (.inl (some (.int (aCnt (DM σ) (bF (DM σ)) (nI (rF (DM σ))) (σ.1 1 1) (σ.1 3 1) j)))) 60 mSH σ)
    (hX : (∀ j, j < 12 → x ≠ nI j) → False) : mCall Γ M_X7_count (d + 4) 0 0 [.ref 0, .int x] 60 mSH σ Q := by
  have h40 := h.n40
  refine O_X7_count_0 x ⟨fun c => ?_, fun c0 => ⟨fun c => ?_, fun c1 => ⟨fun c => ⟨h.cn, ?_⟩, fun c2 => ⟨fun c => ⟨h.cn, ?_⟩, fun c3 => ⟨fun c => ⟨h.cn, ?_⟩, fun c4 => ⟨fun c => ?_, fun c5 => ⟨fun c => ?_, fun c6 => ⟨fun c => ?_, fun c7 => ⟨fun c => ?_, fun c8 => ⟨fun c => ?_, fun c9 => ⟨fun c => ?_, fun c10 => ⟨fun c => ?_, fun c11 => ?_⟩⟩⟩⟩⟩⟩⟩⟩⟩⟩⟩⟩
  · have := hQ 0 (by omega) (c.trans (by decide)); rw [show f_X0_speakers_5 σ = nI (ds (DM σ)) by rw [← h.D]; exact cV_s h.V]; exact this
  · have := hQ 1 (by omega) (c.trans (by decide)); rw [show f_X0_items_5 σ = nI (dn (DM σ)) by rw [← h.D]; exact cV_n h.V]; exact this
  · have := hQ 2 (by omega) (c.trans (by decide)); rw [cntB (by omega) (h.bKind 0)]; exact this
  · have := hQ 3 (by omega) (c.trans (by decide)); rw [cntB (by omega) (h.bKind 1)]; exact this
  · have := hQ 4 (by omega) (c.trans (by decide)); rw [cntB (by omega) (h.bKind 2)]; exact this
  · have := hQ 5 (by omega) (c.trans (by decide)); rw [f_X4_itemsIn_16, h.2.1.2.1, cntB (by omega) (h.bIn (by decide))]; exact this
  · have := hQ 6 (by omega) (c.trans (by decide)); rw [f_X4_itemsOut_16, h.2.1.2.2.1, cntB (by omega) (h.bIn (by decide))]; exact this
  · have := hQ 7 (by omega) (c.trans (by decide)); rw [cntB (by omega) h.bOp]; exact this
  · have := hQ 8 (by omega) (c.trans (by decide)); rw [f_X0_concededItems_5, cntB (by omega) h.bCo]; exact this
  · have := hQ 9 (by omega) (c.trans (by decide)); rw [f_X4_rounds_16, h.2.1.2.2.2.1]; exact this
  · have := hQ 10 (by omega) (c.trans (by decide)); exact this
  · have := hQ 11 (by omega) (c.trans (by decide)); exact this
  · refine hX (fun j hj e => ?_)
    rcases j with _ | _ | _ | _ | _ | _ | _ | _ | _ | _ | _ | _ | j
    · exact c0 (e.trans (by decide))
    · exact c1 (e.trans (by decide))
    · exact c2 (e.trans (by decide))
    · exact c3 (e.trans (by decide))
    · exact c4 (e.trans (by decide))
    · exact c5 (e.trans (by decide))
    · exact c6 (e.trans (by decide))
    · exact c7 (e.trans (by decide))
    · exact c8 (e.trans (by decide))
    · exact c9 (e.trans (by decide))
    · exact c10 (e.trans (by decide))
    · exact c11 (e.trans (by decide))
    · omega
