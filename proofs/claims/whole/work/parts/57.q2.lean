/-! ===== counts: the class's ===== -/
theorem mCnt_c {p q : Nat → Bool} : ∀ n, (∀ k, k < n → p k = q k) → mCnt p n = mCnt q n
  | 0, _ => rfl
  | n + 1, h => by rw [mCnt, mCnt, mCnt_c n (fun k hk => h k (by omega)), h n (by omega)]
theorem mCnt_cut {p : Nat → Bool} {n : Nat} (h : ∀ k, n ≤ k → p k = false) : ∀ m, n ≤ m → mCnt p m = mCnt p n
  | 0, hm => by rw [show n = 0 by omega]
  | m + 1, hm => by
    by_cases e : n = m + 1
    · rw [e]
    · rw [mCnt, h m (by omega), mCnt_cut h m (by omega)]; rfl
theorem cntB {s : Int64} {p : Nat → Bool} {n : Nat} (hn : n ≤ 64) (h : ∀ k, bB s k = (decide (k < n) && p k)) : mCnt (bB s) 64 = mCnt p n := by
  rw [mCnt_cut (n := n) (fun k hk => by rw [h k]; simp; omega) 64 hn]
  exact mCnt_c n (fun k hk => by rw [h k]; simp [hk])
def cJ (f : Nat → Int32) (j : Nat) (i : Nat) : Nat := mCnt (fun k => decide (f k = nI j)) i
theorem cJ_s (f : Nat → Int32) (j i : Nat) : cJ f j (i + 1) = cJ f j i + (if f i = nI j then 1 else 0) := by
  rw [cJ, mCnt]
  by_cases e : f i = nI j <;> simp [e, cJ]
theorem nIf {α : Type} {a z : Nat} {x y : α} (ha : a < 2 ^ 31) (hz : z < 2 ^ 31) : (if nI a = nI z then x else y) = if a = z then x else y := by
  by_cases e : a = z
  · rw [if_pos e, if_pos (by rw [e])]
  · rw [if_neg e, if_neg (fun q => e ((nI_eq ha hz).mp q))]
theorem cJ_c {D : mDeb} (h : dV D) {i : Nat} (hi : i < dn D) : nI (cJ (dc D) 1 i) + dc D i = nI (cJ (dc D) 1 (i + 1)) := by
  rw [cJ_s]
  rcases (h.2.2.2.2 i hi).2.2.1 with q | q
  · rw [q, if_neg (by decide)]; exact nI_add _ 0
  · rw [q, if_pos (by decide)]; exact nI_add _ 1
def aCnt (D : mDeb) (b : Nat → Int32) (r tl pl : Int32) : Nat → Int32
  | 0 => nI (ds D)
  | 1 => nI (dn D)
  | 2 => nI (cJ (dk D) 0 (dn D))
  | 3 => nI (cJ (dk D) 1 (dn D))
  | 4 => nI (cJ (dk D) 2 (dn D))
  | 5 => nI (cJ b 1 (dn D))
  | 6 => nI (cJ b 2 (dn D))
  | 7 => nI (cJ b 0 (dn D))
  | 8 => nI (cJ (dc D) 1 (dn D))
  | 9 => r
  | 10 => tl
  | _ => pl
theorem Rel.cn1 {σ : mS} (h : Rel σ) : (σ.1 5 10).toNatClampNeg = dn (DM σ) := by rw [← h.D]; rfl
theorem Rel.c9 {σ : mS} (h : Rel σ) {k : Nat} (hk : k < dn (DM σ)) : σ.1 9 k = dk (DM σ) k := by
  rw [← h.D]
  show _ = mkI (dn (DC σ)) (σ.1 9) k
  rw [mkI, if_pos (by rw [h.D]; exact hk)]
theorem Rel.c13 {σ : mS} (h : Rel σ) {k : Nat} (hk : k < dn (DM σ)) : σ.1 13 k = dt (DM σ) k := by
  rw [← h.D]
  show _ = mkI (dn (DC σ)) (σ.1 13) k
  rw [mkI, if_pos (by rw [h.D]; exact hk)]
theorem Rel.bKind {σ : mS} (h : Rel σ) (y : Int32) (k : Nat) : bB (f_X0_itemsOfKind_5 σ y) k = (decide (k < dn (DM σ)) && decide (dk (DM σ) k = y)) := by
  rw [f_X0_itemsOfKind_5, h.cn1, bB_setP _ _ h.n40]
  by_cases e : k < dn (DM σ)
  · rw [h.c9 e]
  · simp [e]
theorem Rel.bTgt {σ : mS} (h : Rel σ) (y : Int32) (k : Nat) : bB (f_X0_itemsWithTarget_5 σ y) k = (decide (k < dn (DM σ)) && decide (dt (DM σ) k = y)) := by
  rw [f_X0_itemsWithTarget_5, h.cn1, bB_setP _ _ h.n40]
  by_cases e : k < dn (DM σ)
  · rw [h.c13 e]
  · simp [e]
theorem Rel.bOwn {σ : mS} (h : Rel σ) (y : Int32) (k : Nat) : bB (f_X0_itemsOfSpeaker_5 σ y) k = (decide (k < dn (DM σ)) && decide (db (DM σ) k = y)) := by
  by_cases e : k < dn (DM σ)
  · rw [h.own y e]; simp [e]
  · rw [f_X0_itemsOfSpeaker_5, h.cn1, bB_setP _ _ h.n40]; simp [e]
theorem Rel.bOK {σ : mS} (_h : Rel σ) : sOk (dn (DM σ)) (bF (DM σ)) := stB_ok _ _ _ _
theorem Rel.bIn {σ : mS} (h : Rel σ) {v : Int32} (hv : v ≠ 0) (k : Nat) : bB (sSet (bF (DM σ)) v) k = (decide (k < dn (DM σ)) && decide (bF (DM σ) k = v)) := by
  rw [bB_sSet h.n40 hv h.bOK]
  by_cases e : k < dn (DM σ)
  · simp [e]
  · rw [h.bOK.2 k (by omega)]; simp [e]; exact fun q => hv q.symm
theorem Rel.bOp {σ : mS} (h : Rel σ) (k : Nat) : bB (f_X4_itemsOpen_16 σ) k = (decide (k < dn (DM σ)) && decide (bF (DM σ) k = 0)) := by
  have h40 := h.n40
  by_cases e64 : k < 64
  · rw [f_X4_itemsOpen_16, bB_and, bB_not _ e64, bB_or, h.2.1.2.1, h.2.1.2.2.1, h.bIn (by decide), h.bIn (by decide), f_X0_allItems_5, show σ.1 5 10 = nI (dn (DM σ)) by rw [← h.D]; exact cV_n h.V, bB_all σ (by omega)]
    by_cases e : k < dn (DM σ)
    · rcases h.bOK.1 k with q | q | q <;> simp [e, q]
    · simp [e]
  · rw [bB_ge _ (by omega)]; simp; omega
theorem Rel.bCo {σ : mS} (h : Rel σ) (k : Nat) : bB (σ.2.1 5 11) k = (decide (k < dn (DM σ)) && decide (dc (DM σ) k = nI 1)) := by
  by_cases e : k < dn (DM σ)
  · have := c_dc (σ := σ) (k := k) (by rw [h.D]; exact e)
    rw [h.D] at this
    rw [Bool.eq_iff_iff, ← this]
    simp [e]; rfl
  · rw [h.V.2.2 k (by rw [h.D]; omega)]; simp [e]
theorem i01 : (0 : Int32) = nI 0 ∧ (1 : Int32) = nI 1 ∧ (2 : Int32) = nI 2 ∧ (3 : Int32) = nI 3 ∧ (4 : Int32) = nI 4 ∧ (5 : Int32) = nI 5 ∧ (6 : Int32) = nI 6 ∧ (7 : Int32) = nI 7 ∧ (8 : Int32) = nI 8 ∧ (9 : Int32) = nI 9 ∧ (10 : Int32) = nI 10 ∧ (11 : Int32) = nI 11 := by decide
theorem C_count {Γ : Nat × (Nat → Int32)} {d : Nat} {Q : mQ} {σ : mS} (h : Rel σ) (x : Int32)
    (hQ : ∀ j, j < 12 → x = nI j → Q (.inl (some (.int (aCnt (DM σ) (bF (DM σ)) (nI (rF (DM σ))) (σ.1 1 1) (σ.1 3 1) j)))) 60 mSH σ)
    (hX : (∀ j, j < 12 → x ≠ nI j) → Q (.inr "java/lang/IndexOutOfBoundsException") 60 mSH σ) : mCall Γ M_X7_count (d + 4) 1 6 [.ref 0, .int x] 60 mSH σ Q := by
  have h40 := h.n40
  refine C_X7_count_0 x ⟨fun c => ?_, fun c0 => ⟨fun c => ?_, fun c1 => ⟨fun c => ⟨h.cn, ?_⟩, fun c2 => ⟨fun c => ⟨h.cn, ?_⟩, fun c3 => ⟨fun c => ⟨h.cn, ?_⟩, fun c4 => ⟨fun c => ?_, fun c5 => ⟨fun c => ?_, fun c6 => ⟨fun c => ?_, fun c7 => ⟨fun c => ?_, fun c8 => ⟨fun c => ?_, fun c9 => ⟨fun c => ?_, fun c10 => ⟨fun c => ?_, fun c11 => ?_⟩⟩⟩⟩⟩⟩⟩⟩⟩⟩⟩⟩
  · have := hQ 0 (by omega) (c.trans (by decide)); rw [show f_X0_speakers_5 σ = nI (ds (DM σ)) by rw [← h.D]; exact cV_s h.V]; exact this
  · have := hQ 1 (by omega) (c.trans (by decide)); rw [show f_X0_items_5 σ = nI (dn (DM σ)) by rw [← h.D]; exact cV_n h.V]; exact this
  · have := hQ 2 (by omega) (c.trans (by decide)); rw [cntB (by omega) (h.bKind 0)]; exact this
  · have := hQ 3 (by omega) (c.trans (by decide)); rw [cntB (by omega) (h.bKind 1)]; exact this
  · have := hQ 4 (by omega) (c.trans (by decide)); rw [cntB (by omega) (h.bKind 2)]; exact this
  · have := hQ 5 (by omega) (c.trans (by decide)); rw [f_X4_itemsIn_16, h.2.1.2.1, cntB (by omega) (h.bIn (by decide))]; exact this
  · have := hQ 6 (by omega) (c.trans (by decide)); rw [f_X4_itemsOut_16, h.2.1.2.2.1, cntB (by omega) (h.bIn (by decide))]; exact this
  · have := hQ 7 (by omega) (c.trans (by decide)); rw [cntB (by omega) h.bOp]; exact this
  · have := hQ 8 (by omega) (c.trans (by decide)); rw [f_X0_concededItems_5, cntB (by omega) h.bCo]; exact this
  · have := hQ 9 (by omega) (c.trans (by decide)); rw [f_X4_rounds_16, h.2.1.2.2.2.1]; exact this
  · have := hQ 10 (by omega) (c.trans (by decide)); exact this
  · have := hQ 11 (by omega) (c.trans (by decide)); exact this
  · refine hX (fun j hj e => ?_)
    rcases j with _ | _ | _ | _ | _ | _ | _ | _ | _ | _ | _ | _ | j
    · exact c0 (e.trans (by decide))
    · exact c1 (e.trans (by decide))
    · exact c2 (e.trans (by decide))
    · exact c3 (e.trans (by decide))
    · exact c4 (e.trans (by decide))
    · exact c5 (e.trans (by decide))
    · exact c6 (e.trans (by decide))
    · exact c7 (e.trans (by decide))
    · exact c8 (e.trans (by decide))
    · exact c9 (e.trans (by decide))
    · exact c10 (e.trans (by decide))
    · exact c11 (e.trans (by decide))
    · omega
/-! ===== counts: the model's ===== -/
theorem mBk_r (σ : mS) : mBk σ σ := fun _ _ => ⟨rfl, rfl, rfl⟩
theorem mBk_p {σ τ : mS} {j k : Nat} {x : Int32} (h : mBk σ τ) (hj : 60 ≤ j) : mBk (mPI σ j k x) τ := fun a ha => by
  rw [mPI_ne (show a ≠ j by omega)]; exact h a ha
theorem mBk_z {σ τ : mS} {j : Nat} (h : mBk σ τ) (hj : 60 ≤ j) : mBk (mZr σ j) τ := fun a ha => by
  simp only [mZr]
  rw [if_neg (by omega), if_neg (by omega), if_neg (by omega)]; exact h a ha
theorem mZr_ne {σ : mS} {N a : Nat} (h : a ≠ N) : (mZr σ N).1 a = σ.1 a := by simp [mZr, h]
theorem mZr_eq (σ : mS) (N k : Nat) : (mZr σ N).1 N k = 0 := by simp [mZr]
theorem mBk_DM {σ τ : mS} (h : mBk σ τ) : DM σ = DM τ := by
  rw [DM, DM, (h 32 (by decide)).1, (h 34 (by decide)).1, (h 36 (by decide)).1, (h 37 (by decide)).1, (h 38 (by decide)).1, (h 39 (by decide)).1, (h 40 (by decide)).1, (h 41 (by decide)).1, (h 35 (by decide)).2.1, (h 33 (by decide)).2.1]
theorem dV_k3 {D : mDeb} (h : dV D) {k : Nat} (hk : k < dn D) : ∃ a, a < 3 ∧ dk D k = nI a := by
  rcases (h.2.2.2.2 k hk).2.2.2 with q | q
  · exact ⟨0, by omega, q.1⟩
  · rcases q.1 with e | e
    · exact ⟨1, by omega, e⟩
    · exact ⟨2, by omega, e⟩
theorem sOk_3 {n : Nat} {b : Nat → Int32} (h : sOk n b) (k : Nat) : ∃ a, a < 3 ∧ b k = nI a := by
  rcases h.1 k with q | q | q
  · exact ⟨0, by omega, q⟩
  · exact ⟨1, by omega, q⟩
  · exact ⟨2, by omega, q⟩
abbrev mSH2 : mH := mNw (mNw mSH 60 (100, 3, fun _ => none)) 61 (100, 3, fun _ => none)
theorem L_counted {Γ : Nat × (Nat → Int32)} {d : Nat} {Q : mQ} {σ : mS} {j : Nat} (h : Rel σ) (hj : j < 12)
    (hQ : Q (.inl (some (.int (aCnt (DM σ) (bF (DM σ)) (nI (rF (DM σ))) (σ.1 26 2) (σ.1 26 4) j)))) 60 mSH σ) :
    ∀ m i, i + m = dn (DM σ) → ∀ σ', mBk σ' σ → (∀ a, a < 3 → σ'.1 60 a = nI (cJ (dk (DM σ)) a i) ∧ σ'.1 61 a = nI (cJ (bF (DM σ)) a i)) →
    mK Γ M_X9_counted (d + 1) Q 60 1 12 14 [(0, .ref 26), (1, .int (nI j)), (2, .ref 60), (3, .ref 61), (4, .int (nI (cJ (dc (DM σ)) 1 i))), (5, .int (nI i))] [] 62 mSH2 σ'
  | 0, i, hm, σ', hB, hC => by
    have h40 := h.n40
    refine T_X9_counted_26_14 _ _ _ ⟨fun _ => ⟨vp_in_nI (by omega) (by omega), σ, ?_, ?_⟩, fun c => absurd (by rw [(hB 32 (by decide)).1, sV_n h.S]; exact nI_le (by omega) (by omega)) c⟩
    · repeat (first | exact hB | refine mBk_p ?_ (by decide) | refine mBk_z ?_ (by decide))
    · have hi : i = dn (DM σ) := by omega
      subst hi
      rw [nI_clamp (by omega)]
      have c0 := hC 0 (by omega)
      have c1 := hC 1 (by omega)
      have c2 := hC 2 (by omega)
      have e1 : σ'.1 32 0 = nI (ds (DM σ)) := by rw [(hB 32 (by decide)).1, sV_s h.S]
      have e2 : σ'.1 32 3 = nI (dn (DM σ)) := by rw [(hB 32 (by decide)).1, sV_n h.S]
      have e3 : σ'.1 26 15 = nI (rF (DM σ)) := by rw [(hB 26 (by decide)).1, h.2.2.1.2.1]
      have e4 : σ'.1 26 2 = σ.1 26 2 := by rw [(hB 26 (by decide)).1]
      have e5 : σ'.1 26 4 = σ.1 26 4 := by rw [(hB 26 (by decide)).1]
      rw [mZr_ne (show 32 ≠ 62 by decide), mZr_ne (show 60 ≠ 62 by decide), mZr_ne (show 61 ≠ 62 by decide), mZr_ne (show 26 ≠ 62 by decide), e1, e2, e3, e4, e5, c0.1, c1.1, c2.1, c0.2, c1.2, c2.2]
      rcases j with _ | _ | _ | _ | _ | _ | _ | _ | _ | _ | _ | _ | j
      all_goals first
        | omega
        | (simp only [mPI_at]; exact hQ)
  | m + 1, i, hm, σ', hB, hC => by
    have h40 := h.n40
    have hi : i < dn (DM σ) := by omega
    obtain ⟨a, ha, ea⟩ := dV_k3 h.S hi
    obtain ⟨b, hb, eb⟩ := sOk_3 h.bOK i
    have e1 : σ'.1 36 i = nI a := by rw [(hB 36 (by decide)).1, m_kind hi, ea]
    have e2 : σ'.1 52 i = nI b := by rw [(hB 52 (by decide)).1, h.B i hi, eb]
    have e3 : σ'.1 41 i = dc (DM σ) i := by rw [(hB 41 (by decide)).1, m_conc hi]
    refine T_X9_counted_26_14 _ _ _ ⟨fun c => absurd c (by rw [(hB 32 (by decide)).1, sV_n h.S]; exact nI_ge (by omega) (by omega)), fun _ => ⟨vp_in_nI (by omega) (by omega), ?_⟩⟩
    rw [nI_clamp (show i < 2 ^ 31 by omega), e1, e2, e3, nI_clamp (show a < 2 ^ 31 by omega), nI_clamp (show b < 2 ^ 31 by omega)]
    refine ⟨vp_in_nI (by omega) (by omega), vp_in_nI (by omega) (by omega), ?_⟩
    rw [cJ_c h.S hi, nI_1]
    refine L_counted h hj hQ m (i + 1) (by omega) _ (mBk_p (mBk_p hB (by decide)) (by decide)) (fun z hz => ⟨?_, ?_⟩)
    · rw [mPI_ne (show 60 ≠ 61 by decide), mPI_at, cJ_s, ea, nIf (show a < 2 ^ 31 by omega) (show z < 2 ^ 31 by omega)]
      by_cases q : z = a
      · subst q; rw [if_pos rfl, if_pos rfl, (hC z hz).1, nI_1]
      · rw [if_neg q, if_neg (fun w => q w.symm), (hC z hz).1, Nat.add_zero]
    · rw [mPI_at, cJ_s, eb, nIf (show b < 2 ^ 31 by omega) (show z < 2 ^ 31 by omega), mPI_ne (show 61 ≠ 60 by decide)]
      by_cases q : z = b
      · subst q; rw [if_pos rfl, if_pos rfl, (hC z hz).2, nI_1]
      · rw [if_neg q, if_neg (fun w => q w.symm), (hC z hz).2, Nat.add_zero]
theorem S_counted {Γ : Nat × (Nat → Int32)} {d : Nat} {Q : mQ} {σ : mS} (j : Nat) (h : Rel σ) (hj : j < 12)
    (hQ : Q (.inl (some (.int (aCnt (DM σ) (bF (DM σ)) (nI (rF (DM σ))) (σ.1 26 2) (σ.1 26 4) j)))) 60 mSH σ) : mCall Γ M_X9_counted (d + 1) 3 18 [.ref 26, .int (nI j)] 60 mSH σ Q := by
  refine E_X9_counted_26 (nI j) (L_counted h hj hQ (dn (DM σ)) 0 (Nat.zero_add _) _ (mBk_z (mBk_z (mBk_r σ) (by decide)) (by decide)) (fun a ha => ⟨?_, ?_⟩))
  · rw [mZr_ne (by decide), mZr_eq]; rfl
  · rw [mZr_eq]; rfl
