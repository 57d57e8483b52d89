/-! ===== the model carries out its lines ===== -/
theorem ne_e {K : Nat → Nat} {V : Nat → Int64} {u k : Nat} {lo hi : Int32} {e : gE} (h : e.1 ≠ 0) : ne K V u k lo hi e = e := by
  rw [ne]; split
  · exact fl_e h
  · rfl
theorem tkE_e {D : mDeb} {sp x : Int32} {u : Nat} {e : gE} (h : e.1 ≠ 0) : tkE' D sp x u e = e := fl_e h
theorem eU_e {D : mDeb} {K : Nat → Nat} {V : Nat → Int64} : ∀ m a (e : gE), e.1 ≠ 0 → eU D K V m a e = e
  | 0, _, _, _ => rfl
  | m + 1, a, e, h => by rw [eU, fl_e h]; exact eU_e m (a + 1) e h
theorem fld_f {p : Prop} [Decidable p] {n : Int32} {t : Nat} {e : gE} (h : ¬ p) : fl (decide p) n t e = e := by rw [decide_eq_false h, fl_f]
theorem fld_t {p : Prop} [Decidable p] {n x : Int32} {t : Nat} (h : p) : fl (decide p) n t (0, x) = (n, nI t) := by rw [decide_eq_true h, fl_t rfl]
theorem fl_n {p : Bool} {n m y : Int32} {t : Nat} (h : n ≠ 0) : fl p m t (n, y) = (n, y) := fl_e h
theorem ne_n {K : Nat → Nat} {V : Nat → Int64} {u k : Nat} {lo hi n y : Int32} (h : n ≠ 0) : ne K V u k lo hi (n, y) = (n, y) := ne_e h
theorem tkE_n {D : mDeb} {sp x : Int32} {u : Nat} {n y : Int32} (h : n ≠ 0) : tkE' D sp x u (n, y) = (n, y) := tkE_e h
/-- numbers of the stream -/
def tN (K : Nat → Nat) (V : Nat → Int64) : Prop := ∀ i, K i = 25 → ∃ z, z ≤ 999999 ∧ V i = Int32.toInt64 (nI z)
def mQt (Q : mQ) (σ : mS) (P : Nat → Nat) (M : Nat) (r : mDeb × gE) (pos : Nat) : Prop :=
  (r.2.1 = 0 → ∀ τ', mI σ τ' r.1 pos → Q (.inl (some (.int 0))) 60 mSH τ') ∧ ∀ (n : Nat) j τ' u, r.2 = (nI n, nI j) → 0 < n → n < 8 → j < M → fN1 σ τ' → τ'.1 26 1 = nI (P j) → τ'.1 26 10 = nI u → u ≤ 400 → Q (.inl (some (.int (nI n)))) 60 mSH τ'
theorem failS {σ τ : mS} {K P : Nat → Nat} {V : Nat → Int64} {M j : Nat} (hC : tM σ K P V M) (f : fN σ τ) (hj : j < M) : fN1 σ (mPI τ 26 1 (τ.1 30 j)) ∧ (mPI τ 26 1 (τ.1 30 j)).1 26 1 = nI (P j) ∧ (mPI τ 26 1 (τ.1 30 j)).1 26 10 = τ.1 26 10 := by
  refine ⟨fN1_t (fN_1 f) (fN1_26 _ (.inl rfl) _), ?_, ?_⟩
  · rw [mPI_at, if_pos rfl]
    exact ((fN_tM f hC).2.2.2 j hj).2.1
  · rw [mPI_at, if_neg (by decide)]
theorem failQ {Q : mQ} {σ τ : mS} {K P : Nat → Nat} {V : Nat → Int64} {M j u : Nat} {D : mDeb} {r : mDeb × gE} {pos : Nat} (n : Nat) (hC : tM σ K P V M) (h : mI σ τ D u) (hj : j < M) (hu : u ≤ 400) (hq : mQt Q σ P M r pos) (e : r.2 = (nI n, nI j)) (h0 : 0 < n) (h8 : n < 8) :
    vp_in (nI j) 402 ∧ Q (.inl (some (.int (h_X9_fail_26 τ (nI n) (nI j)).1))) 60 mSH (h_X9_fail_26 τ (nI n) (nI j)).2 := by
  have hM := hC.1
  refine ⟨vp_in_nI (by omega) (by omega), ?_⟩
  rw [h_X9_fail_26, nI_clamp (by omega)]
  obtain ⟨a, b, c⟩ := failS hC h.1 hj
  exact hq.2 n j _ u e h0 h8 hj a b (c.trans h.2.2) hu
theorem S_takeM {Γ : Nat × (Nat → Int32)} {d : Nat} {Q : mQ} {σ τ : mS} {K P : Nat → Nat} {V : Nat → Int64} {M u : Nat} {D : mDeb} {p : Nat} (x : Int32) (hC : tM σ K P V M) (h : mI σ τ D u) (hu : u < M) (hp : p < ds D)
    (h0 : ¬ dm D p < x → ∀ τ', mI σ τ' (aT D p (dm D p - x)) u → Q (.inl (some (.int 0))) 60 mSH τ') (h1 : dm D p < x → ∀ τ', fN1 σ τ' → τ'.1 26 1 = nI (P u) → τ'.1 26 10 = nI u → Q (.inl (some (.int 7))) 60 mSH τ') :
    mCall Γ M_X9_take (d + 2) 0 0 [.ref 26, .int (nI p), .int x] 60 mSH τ Q := by
  have hM := hC.1
  have h6 := h.2.1.1.2.2.2.1
  have e : τ.1 34 p = dm D p := (mD_p h.2.1 hp).1
  refine S_X9_take_26 _ _ (vp_in_nI (by omega) (by omega)) (fun _ => by rw [h.2.2]; exact vp_in_nI (by omega) (by omega)) ?_
  rw [h_X9_take_26, nI_clamp (by omega), e]
  by_cases l : x ≤ dm D p
  · rw [if_pos l]
    exact h0 (Int32.not_lt.mpr l) _ (M_tm h p _)
  · rw [if_neg l, h.2.2, h_X9_fail_26, nI_clamp (by omega)]
    obtain ⟨a, b, c⟩ := failS hC h.1 hu
    exact h1 (Int32.not_le.mp l) _ a b (c.trans h.2.2)
theorem S_newM {Γ : Nat × (Nat → Int32)} {d : Nat} {Q : mQ} {σ τ : mS} {K P : Nat → Nat} {V : Nat → Int64} {M u : Nat} {D : mDeb} {t : Nat} {x : Int32} (hC : tM σ K P V M) (h : mI σ τ D u) (ht : t < M) (hk : K t = 24)
    (h0 : eN D V t (0, x) = (0, x) → dn D < 40 → Q (.inl (some (.int 0))) 60 mSH τ) (h1 : ∀ n τ', eN D V t (0, x) = (nI n, nI t) → 0 < n → n < 8 → fN1 σ τ' → τ'.1 26 1 = nI (P t) → τ'.1 26 10 = nI u → Q (.inl (some (.int (nI n)))) 60 mSH τ') :
    mCall Γ M_X9_newName (d + 2) 0 0 [.ref 26, .int (nI t)] 60 mSH τ Q := by
  have hM := hC.1
  have h40 := h.2.1.1.2.1
  refine S_X9_newName_26 _ (vp_in_nI (by omega) (by omega)) (by rw [mD_n h.2.1]; exact cnt_nI h40) ?_
  rw [h_X9_newName_26, nI_clamp (by omega), tM_v (fN_tM h.1 hC) ht (.inl hk), mD_fi h.2.1, mD_n h.2.1]
  obtain ⟨a, b, c'⟩ := failS hC h.1 ht
  have c' := c'.trans h.2.2
  by_cases q : dF D (V t) = -1
  · rw [if_pos q]
    by_cases w : dn D = 40
    · rw [if_pos (by rw [w]; decide), h_X9_fail_26, nI_clamp (by omega)]
      refine h1 4 _ ?_ (by decide) (by decide) a b c'
      rw [eN, fld_f (p := dF D (V t) ≠ -1) (fun z => z q), fld_t (by omega)]; rfl
    · rw [if_neg (fun z => w ((nI_eq (by omega) (by decide)).mp (z.trans i40)))]
      refine h0 ?_ (by omega)
      rw [eN, fld_f (p := dF D (V t) ≠ -1) (fun z => z q), fld_f (by omega)]
  · rw [if_neg q, h_X9_fail_26, nI_clamp (by omega)]
    refine h1 2 _ ?_ (by decide) (by decide) a b c'
    rw [eN, fld_t (p := dF D (V t) ≠ -1) q, fl_n (by decide)]; rfl
theorem l2i_nI (z : Nat) : (Int32.toInt64 (nI z)).toInt32 = nI z := Int32.toInt32_toInt64 _
theorem S_sizeM {Γ : Nat × (Nat → Int32)} {d : Nat} {Q : mQ} {τ : mS} {K P : Nat → Nat} {V : Nat → Int64} {M E u k : Nat} {x : Int32} (usual : Int32) (hC : tM τ K P V M) (hF : tF K V) (hN : tN K V) (hE : gEnd K E) (hM : E < M) (hu : u ≤ E) (hk : k < 21) (hk25 : K u = k → K (u + 1) = 25)
    (h0 : (ne K V u k 1 50 (0, x)) = (0, x) → Q (.inl (some (.int (nm K V u k usual)))) 60 mSH (mgS τ (nu K u k))) (h1 : ne K V u k 1 50 (0, x) = (nI 5, nI (u + 1)) → u + 1 ≤ E → Q (.inl (some (.int 0))) 60 mSH (mgS τ (u + 1))) :
    mCall Γ M_X9_sized (d + 8) 0 0 [.ref 26, .ref (1200 + k), .int usual] 60 mSH (mgS τ u) Q := by
  have hMM := hC.1
  refine E_X9_sized_26 (1200 + k) usual (by omega) (S_wordM k hC hF (by omega) hk (fun q => T_X9_sized_26_5a _ _ _ (by omega) ⟨fun c => absurd c one_ne, fun _ => ?_⟩) (fun q => T_X9_sized_26_5a _ _ _ (by omega) ⟨fun _ => ?_, fun c => absurd rfl c⟩))
  · have k25 := hk25 q
    have l := lt_E hE q (by omega) hu
    obtain ⟨z, hz, ez⟩ := hN _ k25
    have ev : (mgS τ (u + 1)).2.1 31 (u + 1) = V (u + 1) := tM_v hC (by omega) (.inr k25)
    have pr : nI (u + 1) + 1 - 1 = nI (u + 1) := by rw [nI_1, nI_pred]
    rw [mgS_t, nI_clamp (by omega), pr, nI_clamp (by omega), ev, ez, l2i_nI, mgS_A]
    rw [ne, if_pos q, ez] at h0 h1
    rw [nm, nu, if_pos q, if_pos q, ez, l2i_nI] at h0
    have c1 : Int32.toInt64 (nI z) < Int32.toInt64 1 ↔ z < 1 := by
      rw [Int64.lt_iff_toInt_lt, Int32.toInt_toInt64, Int32.toInt_toInt64, nI_toInt (by omega), show (1 : Int32).toInt = 1 by decide]; omega
    have c2 : Int32.toInt64 (nI z) ≤ Int32.toInt64 50 ↔ z ≤ 50 := by
      rw [Int64.le_iff_toInt_le, Int32.toInt_toInt64, Int32.toInt_toInt64, nI_toInt (by omega), show (50 : Int32).toInt = 50 by decide]; omega
    have d1 : nI z < 1 ↔ z < 1 := by rw [show (1 : Int32) = nI 1 by decide, nI_ltI (by omega) (by omega)]
    have d2 : (50 : Int32) < nI z ↔ 50 < z := by rw [show (50 : Int32) = nI 50 by decide, nI_ltI (by omega) (by omega)]
    refine ⟨vp_in_nI (by omega) (by omega), fun c => ?_, fun c => ⟨vp_in_nI (by omega) (by omega), ?_⟩⟩
    · refine h1 ?_ (by omega)
      have : z < 1 ∨ ¬ z ≤ 50 := by
        apply Classical.byContradiction; intro y
        rw [f_X9_isIn, if_neg (by rw [d1]; omega), if_neg (by rw [d2]; omega)] at c
        exact one_ne c
      rw [fld_t (this.elim (fun w => .inl (c1.mpr w)) (fun w => .inr (fun v => w (c2.mp v))))]; rfl
    · refine h0 ?_
      have : ¬ (z < 1 ∨ ¬ z ≤ 50) := by
        intro y
        apply c
        rw [f_X9_isIn]
        by_cases w : z < 1
        · rw [if_pos (d1.mpr w)]
        · rw [if_neg (by rw [d1]; exact w), if_pos (by rw [d2]; omega)]
      exact fld_f (fun w => this (w.elim (fun v => .inl (c1.mp v)) (fun v => .inr (fun y => v (c2.mpr y)))))
  · rw [ne, if_neg q, nm, nu, if_neg q, if_neg q] at h0
    exact h0 rfl
theorem S_spM {Γ : Nat × (Nat → Int32)} {d : Nat} {Q : mQ} {σ τ : mS} {K P : Nat → Nat} {V : Nat → Int64} {M E : Nat} {D : mDeb} {t : Nat} {x : Int32} (hC : tM σ K P V M) (hF : tF K V) (hN : tN K V) (hE : gEnd K E) (hM : E < M) (hE4 : E ≤ 400) (h : mI σ τ D t) (ht : t ≤ E) (k : K t = 0) (hg : (gLi K (t, true)).2 = true)
    (hQ : mQt Q σ P M (lnS D K V t (0, x)) (gLi K (t, true)).1) : mCall Γ M_X9_speakerLine (d + 33) 0 0 [.ref 26] 60 mSH τ Q := by
  have hMM := hC.1
  obtain ⟨k1, k2, eg⟩ := gLi_0 k hg
  have l1 := lt_E hE k (by decide) ht
  have l2 := lt_E hE k1 (by decide) l1
  have h6 := h.2.1.1.2.2.2.1
  rw [eg] at hQ
  have hC' := fN_tM h.1 hC
  have h2 := mI_mv h (t + 2)
  have v1 := tM_v hC' (show t + 1 < M by omega) (.inl k1)
  refine E_X9_speakerLine_26 ?_
  rw [h.2.2, nI_1, nI_clamp (by omega), v1, nI_2]
  refine ⟨vp_in_nI (by omega) (by omega), S_sqM _ h2.2.1 (T_X9_speakerLine_26_30a _ _ ⟨fun c => ?_, fun c => ?_⟩)⟩
  · rw [show mPI τ 26 10 (nI (t + 2)) = mgS τ (t + 2) from rfl, mD_s h2.2.1]
    refine ⟨fun w => ?_, fun w => ?_⟩
    · have w6 : ds D = 6 := (nI_eq (by omega) (by decide)).mp (w.trans i6)
      refine failQ 4 hC h2 (by omega) (by omega) hQ ?_ (by decide) (by decide)
      rw [lnS, eS, fld_f (p := dP D (V (t + 1)) ≠ -1) (fun z => z c), fld_t (by omega)]
      exact ne_n (by decide)
    · have w6 : ds D < 6 := by
        have : ds D ≠ 6 := fun z => w (by rw [z]; decide)
        omega
      have ee : eS D K V t (0, x) = ne K V (t + 2) 1 0 3600 (0, x) := by rw [eS, fld_f (p := dP D (V (t + 1)) ≠ -1) (fun z => z c), fld_f (by omega)]
      refine S_wordM 1 hC' hF (by omega) (by decide) (fun q => T_X9_speakerLine_26_70a _ _ _ ⟨fun c => absurd c one_ne, fun _ => ?_⟩) (fun q => T_X9_speakerLine_26_70a _ _ _ ⟨fun _ => ?_, fun c => absurd rfl c⟩)
      · have l3 := lt_E hE q (by decide) (show t + 2 ≤ E by omega)
        have k25 := k2 q
        obtain ⟨z, hz, ez⟩ := hN _ k25
        have v3 : (mgS τ (t + 2 + 1)).2.1 31 (t + 2 + 1) = V (t + 3) := tM_v hC' (show t + 3 < M by omega) (.inr k25)
        have v1' : (mgS τ (t + 2 + 1)).2.1 31 (t + 1) = V (t + 1) := v1
        have eD := mD_s (mI_mv h (t + 3)).2.1
        have eD' : (mgS τ (t + 2 + 1)).1 32 0 = nI (ds D) := eD
        rw [mgS_t, nI_clamp (by omega), v3, eD', nI_clamp (by omega), nI_clamp (by omega), v1', mgS_A, nI_1]
        have en : ne K V (t + 2) 1 0 3600 (0, x) = fl (decide (V (t + 3) < Int32.toInt64 0 ∨ ¬ V (t + 3) ≤ Int32.toInt64 3600)) 5 (t + 3) (0, x) := by rw [ne, if_pos q]
        have pos : ¬ V (t + 3) < Int32.toInt64 0 := by
          rw [ez, Int64.lt_iff_toInt_lt, Int32.toInt_toInt64, Int32.toInt_toInt64, nI_toInt (by omega), show (0 : Int32).toInt = 0 by decide]; omega
        refine ⟨vp_in_nI (by omega) (by omega), fun y => ⟨vp_in_nI (by omega) (by omega), vp_in_nI (by omega) (by omega), ?_⟩, fun y => ?_⟩
        · have e0 : eS D K V t (0, x) = (0, x) := by rw [ee, en, fld_f (fun w => w.elim pos (fun v => v y))]
          have := hQ.1 (by rw [lnS, e0]) _ (by
            rw [lnS, e0, if_pos rfl, nm, if_pos q, nu, if_pos q]
            exact M_addSp (mI_mv h (t + 4)) w6 (V (t + 1)) _)
          exact this
        · exact (failQ 5 hC (mI_mv h (t + 3)) (by omega) (by omega) hQ (by rw [lnS, ee, en, fld_t (.inr y)]; rfl) (by decide) (by decide)).2
      · have eD' : (mgS τ (t + 2)).1 32 0 = nI (ds D) := mD_s h2.2.1
        have v1' : (mgS τ (t + 2)).2.1 31 (t + 1) = V (t + 1) := v1
        rw [eD', nI_clamp (by omega), nI_clamp (by omega), v1', nI_1]
        have e0 : eS D K V t (0, x) = (0, x) := by rw [ee, ne, if_neg q]
        refine ⟨vp_in_nI (by omega) (by omega), vp_in_nI (by omega) (by omega), hQ.1 (by rw [lnS, e0]) _ ?_⟩
        rw [lnS, e0, if_pos rfl, nm, if_neg q, nu, if_neg q]
        exact M_addSp h2 w6 (V (t + 1)) _
  · refine failQ 2 hC h2 (by omega) (by omega) hQ ?_ (by decide) (by decide)
    rw [lnS, eS, fld_t (p := dP D (V (t + 1)) ≠ -1) c, fl_n (by decide)]
    exact ne_n (by decide)
theorem nI_le0 {n : Nat} (h : n < 8) : nI n ≤ 0 ↔ n = 0 := by
  rw [show (0 : Int32) = nI 0 by decide, nI_leI (by omega) (by omega)]; omega
theorem S_clM {Γ : Nat × (Nat → Int32)} {d : Nat} {Q : mQ} {σ τ : mS} {K P : Nat → Nat} {V : Nat → Int64} {M E : Nat} {D : mDeb} {t : Nat} {x : Int32} (hC : tM σ K P V M) (hF : tF K V) (hN : tN K V) (hE : gEnd K E) (hM : E < M) (hE4 : E ≤ 400) (h : mI σ τ D t) (ht : t ≤ E) (k : K t = 2) (hg : (gLi K (t, true)).2 = true)
    (hQ : mQt Q σ P M (lnC D K V t (0, x)) (gLi K (t, true)).1) : mCall Γ M_X9_claimLine (d + 33) 0 0 [.ref 26] 60 mSH τ Q := by
  have hMM := hC.1
  obtain ⟨k1, k2, k3, k4, eg⟩ := gLi_2 k hg
  have l1 := lt_E hE k (by decide) ht
  have l2 := lt_E hE k1 (by decide) l1
  have l3 := lt_E hE k2 (by decide) l2
  have l4 := lt_E hE k3 (by decide) l3
  rw [eg] at hQ
  have hC' := fN_tM h.1 hC
  refine E_X9_claimLine_26 ?_
  rw [h.2.2, nI_1]
  refine S_newM (x := x) hC h (by omega) k1 (fun eN0 n40 => T_X9_claimLine_26_12a _ _ ⟨fun _ => ?_, fun c => absurd (show (0 : Int32) ≤ 0 by decide) c⟩) (fun n τ' eN1 n0 n8 f' p' q' => T_X9_claimLine_26_12a _ _ ⟨fun c => absurd ((nI_le0 n8).mp c) (by omega), fun _ => ?_⟩)
  · have eC : eCl D K V t (0, x) = ne K V (t + 4) 4 1 50 (fl (decide (dP D (V (t + 3)) = -1)) 3 (t + 3) (0, x)) := by rw [eCl, eN0]
    rw [h.2.2, show nI t + 3 = nI (t + 3) by rw [show (3 : Int32) = nI 3 by decide]; exact nI_add t 3, nI_clamp (by omega), tM_v hC' (by omega) (.inl k3)]
    refine ⟨vp_in_nI (by omega) (by omega), S_sqM _ h.2.1 (T_X9_claimLine_26_37a _ _ _ ⟨fun c => ?_, fun c => ?_⟩)⟩
    · rw [h.2.2, show nI t + 3 = nI (t + 3) by rw [show (3 : Int32) = nI 3 by decide]; exact nI_add t 3]
      refine failQ 3 hC h (by omega) (by omega) hQ ?_ (by decide) (by decide)
      have : eCl D K V t (0, x) = (3, nI (t + 3)) := by rw [eC, fld_t c]; exact ne_n (by decide)
      rw [lnC, eC2, this]; exact tkE_n (by decide)
    · obtain ⟨p, hp, ep⟩ := (dP_sp D (V (t + 3))).resolve_left c
      have h6 := h.2.1.1.2.2.2.1
      have eC' : eCl D K V t (0, x) = ne K V (t + 4) 4 1 50 (0, x) := by rw [eC, fld_f c]
      rw [h.2.2, show nI t + 4 = nI (t + 4) by rw [show (4 : Int32) = nI 4 by decide]; exact nI_add t 4]
      refine S_sizeM (x := x) 10 hC' hF hN hE hM (show t + 4 ≤ E by omega) (by decide) k4 (fun e0 => T_X9_claimLine_26_73a _ _ _ _ ⟨fun c0 => ?_, fun _ => ?_⟩) (fun e1 l5 => T_X9_claimLine_26_73a _ _ _ _ ⟨fun _ => ?_, fun c => absurd rfl c⟩)
      · obtain ⟨y, y1, y2, ey⟩ := nm_in (usual := 10) (show (ne K V (t + 4) 4 1 50 (0, x)).1 = 0 by rw [e0]) ⟨10, by decide, by decide, by decide⟩
        rw [ey] at c0
        exact absurd ((nI_eq (by omega) (by decide)).mp (c0.trans nI_0.symm)) (by omega)
      · have hu := mI_mv h (nu K (t + 4) 4)
        have lu : nu K (t + 4) 4 ≤ E := by
          rw [nu]
          by_cases q : K (t + 4) = 4
          · rw [if_pos q]; exact lt_E hE (k4 q) (by decide) (lt_E hE q (by decide) (show t + 4 ≤ E by omega))
          · rw [if_neg q]; omega
        have e2 : eC2 D K V t (0, x) = fl (decide (dm D p < 10 + nm K V (t + 4) 4 10)) 7 (nu K (t + 4) 4) (0, x) := by rw [eC2, eC', e0, tkE', ep, uN_nI (by omega)]
        rw [ep]
        refine S_takeM _ hC hu (by omega) hp (fun nl τ' h' => T_X9_claimLine_26_100a _ _ _ _ _ ⟨fun _ => ?_, fun c => absurd rfl c⟩) (fun l τ' f' p' q' => T_X9_claimLine_26_100a _ _ _ _ _ ⟨fun c => absurd c (by decide), fun _ => hQ.2 7 _ τ' _ (by rw [lnC, e2, fld_t l]; rfl) (by decide) (by decide) (show nu K (t + 4) 4 < M by omega) f' p' q' (by omega)⟩)
        have z0 : eC2 D K V t (0, x) = (0, x) := by rw [e2, fld_f nl]
        have ok : okI (aT D p (dm D p - (10 + nm K V (t + 4) 4 10))) 0 (nI p) (nm K V (t + 4) 4 10) (-1) (-1) := ⟨⟨p, hp, rfl⟩, nm_in (show (ne K V (t + 4) 4 1 50 (0, x)).1 = 0 by rw [e0]) ⟨10, by decide, by decide, by decide⟩, .inl ⟨rfl, rfl, rfl⟩⟩
        rw [nI_clamp (by omega), tM_v (fN_tM h'.1 hC) (show t + 1 < M by omega) (.inl k1)]
        refine ⟨vp_in_nI (by omega) (by omega), S_X8_add_32 _ _ _ _ _ _ (by rw [mD_n h'.2.1]; exact vp_in_nI (by show dn D < 40; exact n40) (by omega)) (T_X9_claimLine_26_124a _ _ _ _ (hQ.1 (by rw [lnC, z0]) _ ?_))⟩
        rw [lnC, z0, if_pos rfl, ep, uN_nI (by omega)]
        exact M_add h' n40 _ ok
      · rw [mgS_t]
        have := failQ 5 hC (mI_mv h (t + 4 + 1)) (show t + 4 + 1 < M by omega) (by omega) hQ (by rw [lnC, eC2, eC', e1]; exact tkE_n (by decide)) (by decide) (by decide)
        exact this
  · refine hQ.2 n _ τ' _ ?_ n0 n8 (show t + 1 < M by omega) f' p' q' (by omega)
    have n1 : nI n ≠ 0 := fun z => by have := (nI_eq (show n < 2 ^ 31 by omega) (by decide)).mp (z.trans nI_0.symm); omega
    rw [lnC, eC2, eCl, eN1, fl_n n1, ne_n n1]; exact tkE_n n1
theorem S_coM {Γ : Nat × (Nat → Int32)} {d : Nat} {Q : mQ} {σ τ : mS} {K P : Nat → Nat} {V : Nat → Int64} {M E : Nat} {D : mDeb} {t : Nat} {x b : Int32} (hb : b = 0 ∨ b = 1) (hC : tM σ K P V M) (hE : gEnd K E) (hM : E < M) (hE4 : E ≤ 400) (h : mI σ τ D t) (ht : t < E) (k1 : K (t + 1) = 24)
    (hQ : mQt Q σ P M (lnK D V b t (0, x)) (t + 2)) : mCall Γ M_X9_concedeLine (d + 33) 0 0 [.ref 26, .int b] 60 mSH τ Q := by
  have hMM := hC.1
  have l2 := lt_E hE k1 (by decide) (show t + 1 ≤ E from ht)
  have h40 := h.2.1.1.2.1
  refine E_X9_concedeLine_26 _ ?_
  rw [h.2.2, nI_1, nI_clamp (by omega), tM_v (fN_tM h.1 hC) (show t + 1 < M by omega) (.inl k1)]
  refine ⟨vp_in_nI (by omega) (by omega), S_itM _ h.2.1 (T_X9_concedeLine_26_20a _ _ _ ⟨fun c => ?_, fun c => ?_⟩)⟩
  · refine failQ 3 hC h (by omega) (by omega) hQ ?_ (by decide) (by decide)
    rw [lnK, eK2, eK1, fld_t (p := dF D (V (t + 1)) = -1) c, fl_n (by decide)]; exact tkE_n (by decide)
  · obtain ⟨i, hi, ei⟩ := (dF_sp D (V (t + 1))).resolve_left c
    obtain ⟨⟨p, hp, ep⟩, _⟩ := h.2.1.1.2.2.2.2 i hi
    have e1 : eK1 D V b t (0, x) = fl (decide (dc D i = b)) 6 (t + 1) (0, x) := by rw [eK1, fld_f (p := dF D (V (t + 1)) = -1) c, ei, uN_nI (by omega)]
    have mi := mD_i h.2.1 hi
    have e37 : τ.1 37 i = nI p := mi.2.1.trans ep
    rw [ei, nI_clamp (by omega), mi.2.2.2.2.2.1, e37]
    refine ⟨vp_in_nI (by omega) (by omega), fun q => ?_, fun q => ?_⟩
    · refine failQ 6 hC h (by omega) (by omega) hQ ?_ (by decide) (by decide)
      rw [lnK, eK2, e1, fld_t q]; exact tkE_n (by decide)
    · have z1 : eK1 D V b t (0, x) = (0, x) := by rw [e1, fld_f q]
      have e2 : eK2 D V b t (0, x) = fl (decide (dm D p < 2)) 7 (t + 2) (0, x) := by rw [eK2, z1, tkE', ei, uN_nI (by omega), ep, uN_nI (by have := h.2.1.1.2.2.2.1; omega)]
      have h6 := h.2.1.1.2.2.2.1
      rw [h.2.2, nI_2]
      refine S_takeM _ hC (mI_mv h (t + 2)) (by omega) hp (fun nl τ' h' => T_X9_concedeLine_26_78a _ _ _ _ ⟨fun _ => ?_, fun c => absurd rfl c⟩) (fun l τ' f' p' q' => T_X9_concedeLine_26_78a _ _ _ _ ⟨fun c => absurd c (by decide), fun _ => hQ.2 7 _ τ' _ (by rw [lnK, e2, fld_t l]; rfl) (by decide) (by decide) (show t + 2 < M by omega) f' p' q' (by omega)⟩)
      have z2 : eK2 D V b t (0, x) = (0, x) := by rw [e2, fld_f nl]
      rw [nI_clamp (by omega)]
      refine ⟨vp_in_nI (by omega) (by omega), hQ.1 (by rw [lnK, z2]) _ ?_⟩
      rw [lnK, z2, if_pos rfl, ei, uN_nI (by omega), ep, uN_nI (by omega)]
      exact M_conc h' i hb
