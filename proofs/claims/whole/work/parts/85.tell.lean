/-! ===== the class carries out its lines ===== -/
theorem S_numT {Γ : Nat × (Nat → Int32)} {d : Nat} {Q : mQ} {σ τ : mS} {K P : Nat → Nat} {V : Nat → Int64} {M : Nat} {D : mDeb} {u : Nat} {e : gE} (k : Nat) (usual lo hi : Int32) (hC : tC σ K P V M) (h : tI σ τ D u e) (hu : u < M) (hu1 : K u = k → u + 1 < M) (hk : k < 28)
    (hQ : ∀ τ', tI σ τ' D (nu K u k) (ne K V u k lo hi e) → Q (.inl (some (.int (nm K V u k usual)))) 60 mSH τ') : mCall Γ M_X5_takeNumberBehind (d + 3) 0 0 [.ref 25, .ref (1000 + k), .int usual, .int lo, .int hi] 60 mSH τ Q := by
  have hC' := fK_tC h.1 hC
  obtain ⟨i1, i2, i3⟩ := tC_in hC' hu
  have hse : f_X5_sees_25 τ (1000 + k) = if K u = k then 1 else 0 := by
    rw [f_X5_sees_25, h.2.2.1, tC_kind hC' hu]
    by_cases q : K u = k
    · rw [if_pos (by omega), if_pos q]
    · rw [if_neg (by omega), if_neg q]
  have e3 := h.2.2.1
  rw [← e3] at i1 i2 i3
  refine S_X5_takeNumberBehind_25 (1000 + k) usual lo hi (by omega) (fun _ _ _ => i1) (fun _ _ _ => i2) i3 (fun c _ _ _ => ?_) ?_
  · rw [hse] at c
    have q : K u = k := Classical.byContradiction fun z => c (by rw [if_neg z])
    rw [e3, nI_1]
    exact (tC_in hC' (hu1 q)).1
  · rw [h_X5_takeNumberBehind_25, hse]
    rw [nu, ne, nm] at hQ
    by_cases q : K u = k
    · rw [if_pos q, if_neg one_ne]
      rw [if_pos q, if_pos q, if_pos q] at hQ
      have h1 := tI_mv h (u + 1)
      have v := tC_val (fK_tC h1.1 hC) (hu1 q)
      rw [e3, nI_1, v]
      obtain ⟨a, _⟩ := tI_fl h1 true 5
      obtain ⟨b, _⟩ := tI_fl h1 false 5
      by_cases l : V (u + 1) < lo.toInt64
      · rw [if_pos l]
        rw [decide_eq_true (.inl l)] at hQ
        have := hQ _ (tI_mv a (u + 2))
        rw [show g_X5_failIf_25 (mPI τ 25 3 (nI (u + 1))) 1 5 = g_X5_failIf_25 (mPI τ 25 3 (nI (u + 1))) (b01 true) 5 from rfl, a.2.2.1, nI_1]
        exact this
      · rw [if_neg l]
        by_cases r : V (u + 1) ≤ hi.toInt64
        · rw [if_pos r]
          rw [decide_eq_false (fun z => z.elim l (fun y => y r))] at hQ
          have := hQ _ (tI_mv b (u + 2))
          rw [show g_X5_failIf_25 (mPI τ 25 3 (nI (u + 1))) 0 5 = g_X5_failIf_25 (mPI τ 25 3 (nI (u + 1))) (b01 false) 5 from rfl, b.2.2.1, nI_1]
          exact this
        · rw [if_neg r]
          rw [decide_eq_true (.inr r)] at hQ
          have := hQ _ (tI_mv a (u + 2))
          rw [show g_X5_failIf_25 (mPI τ 25 3 (nI (u + 1))) 1 5 = g_X5_failIf_25 (mPI τ 25 3 (nI (u + 1))) (b01 true) 5 from rfl, a.2.2.1, nI_1]
          exact this
    · rw [if_neg q, if_pos rfl]
      rw [if_neg q, if_neg q, if_neg q] at hQ
      exact hQ _ h
theorem S_timeT {Γ : Nat × (Nat → Int32)} {d : Nat} {Q : mQ} {σ τ : mS} {D : mDeb} {u : Nat} {e : gE} (sp x : Int32) (h : tI σ τ D u e) (hs : e.1 = 0 → ∃ p, p < ds D ∧ sp = nI p)
    (hQ : ∀ τ', tI σ τ' (tkD D sp x u e) u (tkE' D sp x u e) → Q (.inl none) 60 mSH τ') : mCall Γ M_X5_takeTime (d + 3) 0 0 [.ref 25, .int sp, .int x] 60 mSH τ Q := by
  refine S_X5_takeTime_25 _ _ ?_
  have key : ∀ b : Bool, (e.1 = 0 → b = decide (dm D (uN sp) < x)) → Q (.inl none) 60 mSH (if ((g_X5_failIf_25 τ (b01 b) 7).1 25 4) = 0 then (g_X0_addTime_5 (g_X5_failIf_25 τ (b01 b) 7) sp (-x)) else (g_X5_failIf_25 τ (b01 b) 7)) := by
    intro b hb
    obtain ⟨a, _⟩ := tI_fl h b 7
    rw [fl_c (q := decide (dm D (uN sp) < x)) hb] at a
    rw [a.2.2.2.1]
    rw [tkD, tkE'] at hQ
    by_cases z : (fl (decide (dm D (uN sp) < x)) 7 u e).1 = 0
    · rw [if_pos z]
      rw [if_pos z] at hQ
      obtain ⟨p, hp, ep⟩ := hs (flD z (by decide)).2
      have h6 := (cD_V a.2.1).2.2.2.1
      subst ep
      rw [uN_nI (by omega)] at hQ a
      exact hQ _ (tI_ch a (C_time a.2.1 hp x))
    · rw [if_neg z]
      rw [if_neg z] at hQ
      exact hQ _ a
  rw [g_X5_takeTime_25]
  have tt : e.1 = 0 → f_X0_timeOf_5 τ sp = dm D (uN sp) := fun z => by
    obtain ⟨p, hp, ep⟩ := hs z
    have h6 := (cD_V h.2.1).2.2.2.1
    have := c_time h.2.1.1 (p := p) (by rw [h.2.1.2]; exact hp)
    rw [h.2.1.2] at this
    rw [ep, uN_nI (by omega)]; exact this
  by_cases l : x ≤ f_X0_timeOf_5 τ sp
  · rw [if_pos l]
    exact key false (fun z => (decide_eq_false (fun y => by rw [tt z] at l; exact absurd y (Int32.not_lt.mpr l))).symm)
  · rw [if_neg l]
    exact key true (fun z => (decide_eq_true (by rw [tt z] at l; exact Int32.not_le.mp l)).symm)
theorem S_spT {Γ : Nat × (Nat → Int32)} {d : Nat} {Q : mQ} {σ τ : mS} {K P : Nat → Nat} {V : Nat → Int64} {M E : Nat} {D : mDeb} {t : Nat} {e : gE} (hC : tC σ K P V M) (hE : gEnd K E) (hM : E < M) (h : tI σ τ D (t + 1) e) (ht : t ≤ E) (k : K t = 0) (hg : (gLi K (t, true)).2 = true)
    (hQ : ∀ τ', tI σ τ' (lnS D K V t e).1 (gLi K (t, true)).1 (lnS D K V t e).2 → Q (.inl none) 60 mSH τ') : mCall Γ M_X5_tellSpeaker (d + 25) 0 0 [.ref 25] 60 mSH τ Q := by
  obtain ⟨k1, k2, eg⟩ := gLi_0 k hg
  have l1 := lt_E hE k (by decide) ht
  have l2 := lt_E hE k1 (by decide) l1
  have h6 := (cD_V h.2.1).2.2.2.1
  rw [eg] at hQ
  refine E_X5_tellSpeaker_25 ?_
  rw [h.2.2.1]
  refine S_valT hC h (by omega) (T_X5_tellSpeaker_25_11a _ (S_X0_findSpeaker _ (by rw [cD_s h.2.1]; exact cnt_nI h6) ?_))
  rw [cD_fs h.2.1]
  have nxt : ∀ τ1, tI σ τ1 D (t + 1) (fl (decide (dP D (V (t + 1)) ≠ -1)) 2 (t + 1) e) → mRt Γ M_X5_tellSpeaker (d + 25) Q 60 0 0 34 [(0, .ref 25), (1, .long (V (t + 1)))] [] (.inl none) 60 mSH τ1 := by
    intro τ1 h1
    have fin : ∀ τ2, tI σ τ2 D (t + 1) (fl (decide (6 ≤ ds D)) 4 (t + 1) (fl (decide (dP D (V (t + 1)) ≠ -1)) 2 (t + 1) e)) → mRt Γ M_X5_tellSpeaker (d + 25) Q 60 0 0 56 [(0, .ref 25), (1, .long (V (t + 1)))] [] (.inl none) 60 mSH τ2 := by
      intro τ2 h2
      refine T_X5_tellSpeaker_25_56a _ ?_
      rw [h2.2.2.1, nI_1]
      refine S_numT 1 300 0 3600 hC (tI_mv h2 (t + 2)) (by omega) (fun q => by have := lt_E hE q (by decide) (show t + 2 ≤ E by omega); omega) (by decide) (fun τ3 h3 => T_X5_tellSpeaker_25_80a _ _ ?_)
      rw [h3.2.2.2.1]
      rw [lnS] at hQ
      refine ⟨fun z => ?_, fun z => ?_⟩
      · have zz : (eS D K V t e).1 = 0 := z
        rw [if_pos zz] at hQ
        have d6 : ¬ 6 ≤ ds D := (flD (ne_0 z).1 (by decide)).1
        exact S_X0_addSpeaker_5 _ _ (T_X5_tellSpeaker_25_97a _ _ (hQ _ (tI_ch h3 (C_addSp h3.2.1 (by omega) _ _))))
      · have zz : ¬ (eS D K V t e).1 = 0 := z
        rw [if_neg zz] at hQ
        exact hQ _ h3
    refine T_X5_tellSpeaker_25_34a _ ?_
    rw [show f_X0_speakers_5 τ1 = nI (ds D) from cD_s h1.2.1, i6, nI_ltI (by omega) (by omega)]
    exact ⟨fun c => S_fail (decide (6 ≤ ds D)) 4 h1 (by rw [decide_eq_false (by omega)]; rfl) (fun τ2 h2 _ => fin τ2 h2), fun c => S_fail (decide (6 ≤ ds D)) 4 h1 (by rw [decide_eq_true (by omega)]; rfl) (fun τ2 h2 _ => fin τ2 h2)⟩
  exact T_X5_tellSpeaker_25_21a _ _ ⟨fun c => S_fail (decide (dP D (V (t + 1)) ≠ -1)) 2 h (by rw [decide_eq_false (fun z => z c)]; rfl) (fun τ1 h1 _ => nxt τ1 h1), fun c => S_fail (decide (dP D (V (t + 1)) ≠ -1)) 2 h (by rw [decide_eq_true c]; rfl) (fun τ1 h1 _ => nxt τ1 h1)⟩
theorem S_clT {Γ : Nat × (Nat → Int32)} {d : Nat} {Q : mQ} {σ τ : mS} {K P : Nat → Nat} {V : Nat → Int64} {M E : Nat} {D : mDeb} {t : Nat} {e : gE} (hC : tC σ K P V M) (hE : gEnd K E) (hM : E < M) (h : tI σ τ D (t + 1) e) (ht : t ≤ E) (k : K t = 2) (hg : (gLi K (t, true)).2 = true)
    (hQ : ∀ τ', tI σ τ' (lnC D K V t e).1 (gLi K (t, true)).1 (lnC D K V t e).2 → Q (.inl none) 60 mSH τ') : mCall Γ M_X5_tellClaim (d + 25) 0 0 [.ref 25] 60 mSH τ Q := by
  obtain ⟨k1, k2, k3, k4, eg⟩ := gLi_2 k hg
  have l1 := lt_E hE k (by decide) ht
  have l2 := lt_E hE k1 (by decide) l1
  have l3 := lt_E hE k2 (by decide) l2
  have l4 := lt_E hE k3 (by decide) l3
  have h6 := (cD_V h.2.1).2.2.2.1
  rw [eg] at hQ
  refine E_X5_tellClaim_25 (S_newT hC h (by omega) (fun τ1 h1 _ => T_X5_tellClaim_25_4a _ ?_))
  rw [h1.2.2.1, nI_1]
  have h2 := tI_mv h1 (t + 3)
  refine S_valT hC h2 (by omega) (T_X5_tellClaim_25_30a _ _ (S_X0_findSpeaker _ (by rw [cD_s h2.2.1]; exact cnt_nI h6) ?_))
  rw [cD_fs h2.2.1]
  have fin : ∀ τ3, tI σ τ3 D (t + 3) (fl (decide (dP D (V (t + 3)) = -1)) 3 (t + 3) (eN D V (t + 1) e)) → mRt Γ M_X5_tellClaim (d + 25) Q 60 0 0 49 [(0, .ref 25), (1, .long (V (t + 1))), (3, .int (dP D (V (t + 3))))] [] (.inl none) 60 mSH τ3 := by
    intro τ3 h3
    refine T_X5_tellClaim_25_49a _ _ ?_
    rw [h3.2.2.1, nI_1]
    refine S_numT 4 10 1 50 hC (tI_mv h3 (t + 4)) (by omega) (fun q => by have := lt_E hE q (by decide) (show t + 4 ≤ E by omega); omega) (by decide) (fun τ4 h4 => T_X5_tellClaim_25_71a _ _ _ ?_)
    have h4 : tI σ τ4 D (nu K (t + 4) 4) (eCl D K V t e) := h4
    have hsp : (eCl D K V t e).1 = 0 → ∃ p, p < ds D ∧ dP D (V (t + 3)) = nI p := fun z => (dP_sp D (V (t + 3))).resolve_left (flD (ne_0 z).1 (by decide)).1
    refine S_timeT _ _ h4 hsp (fun τ5 h5 => T_X5_tellClaim_25_83a _ _ _ ?_)
    rw [h5.2.2.2.1]
    rw [lnC] at hQ
    refine ⟨fun z => ?_, fun z => ?_⟩
    · have zz : (eC2 D K V t e).1 = 0 := z
      rw [if_pos zz] at hQ
      rw [tkD, if_pos z] at h5
      have z1 := (flD z (by decide)).2
      have z2 := (flD (ne_0 z1).1 (by decide)).2
      have d40 : ¬ 40 ≤ dn D := (flD z2 (by decide)).1
      obtain ⟨p, hp, ep⟩ := hsp z1
      have ok : okI (aT D (uN (dP D (V (t + 3)))) (dm D (uN (dP D (V (t + 3)))) - (10 + nm K V (t + 4) 4 10))) 0 (dP D (V (t + 3))) (nm K V (t + 4) 4 10) (-1) (-1) := ⟨⟨p, hp, ep⟩, nm_in z1 ⟨10, by decide, by decide, by decide⟩, .inl ⟨rfl, rfl, rfl⟩⟩
      exact S_X0_addClaim_5 _ _ _ (T_X5_tellClaim_25_101a _ _ _ (hQ _ (tI_ch h5 (C_addIt h5.2.1 (show dn D < 40 by omega) _ ok))))
    · have zz : ¬ (eC2 D K V t e).1 = 0 := z
      rw [if_neg zz] at hQ
      rw [tkD, if_neg z] at h5
      exact hQ _ h5
  exact T_X5_tellClaim_25_33a _ _ ⟨fun c => S_fail (decide (dP D (V (t + 3)) = -1)) 3 h2 (by rw [decide_eq_true c]; rfl) (fun τ3 h3 _ => fin τ3 h3), fun c => S_fail (decide (dP D (V (t + 3)) = -1)) 3 h2 (by rw [decide_eq_false c]; rfl) (fun τ3 h3 _ => fin τ3 h3)⟩
theorem S_coT {Γ : Nat × (Nat → Int32)} {d : Nat} {Q : mQ} {σ τ : mS} {K P : Nat → Nat} {V : Nat → Int64} {M E : Nat} {D : mDeb} {t : Nat} {e : gE} {b : Int32} (hb : b = 0 ∨ b = 1) (hC : tC σ K P V M) (hE : gEnd K E) (hM : E < M) (h : tI σ τ D (t + 1) e) (ht : t < E) (k1 : K (t + 1) = 24)
    (hQ : ∀ τ', tI σ τ' (lnK D V b t e).1 (t + 2) (lnK D V b t e).2 → Q (.inl none) 60 mSH τ') : mCall Γ M_X5_tellConceded (d + 25) 0 0 [.ref 25, .int b] 60 mSH τ Q := by
  have l2 := lt_E hE k1 (by decide) (show t + 1 ≤ E from ht)
  have h40 := (cD_V h.2.1).2.1
  have sp := dF_sp D (V (t + 1))
  refine E_X5_tellConceded_25 _ (S_seeT hC h (by omega) (fun τ1 h1 _ => T_X5_tellConceded_25_4a _ _ (S_X0_isConceded_5 _ ?_)))
  rw [t_conc h1.2.1 sp]
  have fin : ∀ τ2, tI σ τ2 D (t + 1) (eK1 D V b t e) → mRt Γ M_X5_tellConceded (d + 25) Q 60 0 0 28 [(0, .ref 25), (1, .int b), (2, .int (dF D (V (t + 1))))] [] (.inl none) 60 mSH τ2 := by
    intro τ2 h2
    refine T_X5_tellConceded_25_28a _ _ ?_
    rw [h2.2.2.1, nI_1]
    have h3 := tI_mv h2 (t + 2)
    refine S_X0_speakerOf_5 _ (T_X5_tellConceded_25_47a _ _ _ ?_)
    have fnd : (eK1 D V b t e).1 = 0 → ∃ i, i < dn D ∧ dF D (V (t + 1)) = nI i := fun z => sp.resolve_left (flD (flD z (by decide)).2 (by decide)).1
    have es : (eK1 D V b t e).1 = 0 → f_X0_speakerOf_5 (mPI τ2 25 3 (nI (t + 2))) (dF D (V (t + 1))) = db D (uN (dF D (V (t + 1)))) := fun z => by
      obtain ⟨i, hi, ei⟩ := fnd z
      have := c_owner h3.2.1.1 (k := i) (by rw [h3.2.1.2]; exact hi)
      rw [h3.2.1.2] at this
      rw [ei, uN_nI (by omega)]; exact this
    have fs : (eK1 D V b t e).1 = 0 → ∃ p, p < ds D ∧ db D (uN (dF D (V (t + 1)))) = nI p := fun z => by
      obtain ⟨i, hi, ei⟩ := fnd z
      rw [ei, uN_nI (by omega)]
      exact ((cD_V h3.2.1).2.2.2.2 i hi).1
    have same : tkE' D (f_X0_speakerOf_5 (mPI τ2 25 3 (nI (t + 2))) (dF D (V (t + 1)))) 2 (t + 2) (eK1 D V b t e) = eK2 D V b t e := by
      rw [tkE', eK2, tkE']; exact fl_c (fun z => by rw [es z])
    refine S_timeT _ _ h3 (fun z => by rw [es z]; exact fs z) (fun τ5 h5 => T_X5_tellConceded_25_51a _ _ ?_)
    rw [tkD, same] at h5
    rw [h5.2.2.2.1]
    rw [lnK] at hQ
    refine ⟨fun z => ?_, fun z => ?_⟩
    · rw [if_pos z] at hQ h5
      have z1 := (flD z (by decide)).2
      obtain ⟨i, hi, ei⟩ := fnd z1
      rw [es z1] at h5
      have := tI_ch h5 (C_conc h5.2.1 (i := i) hi hb)
      rw [show uN (dF D (V (t + 1))) = i by rw [ei, uN_nI (by omega)]] at this hQ
      rw [ei]
      exact S_X0_setConceded_5 _ _ (T_X5_tellConceded_25_67a _ _ (hQ _ this))
    · rw [if_neg z] at hQ h5
      exact hQ _ h5
  have pq : (fl (decide (dF D (V (t + 1)) = -1)) 3 (t + 1) e).1 = 0 → (b01 (if dF D (V (t + 1)) = -1 then false else decide (dc D (uN (dF D (V (t + 1)))) = 1)) = b ↔ dc D (uN (dF D (V (t + 1)))) = b) := fun z => by
    obtain ⟨i, hi, ei⟩ := sp.resolve_left (flD z (by decide)).1
    have hc := ((cD_V h.2.1).2.2.2.2 i hi).2.2.1
    rw [ei, if_neg (nI_m1 (by omega)), uN_nI (by omega)]
    rcases hb with y | y <;> rcases hc with w | w <;> rw [y, w] <;> decide
  refine T_X5_tellConceded_25_14a _ _ _ ⟨fun c => S_fail true 6 h1 rfl (fun τ2 h2 _ => fin τ2 ?_), fun c => S_fail false 6 h1 rfl (fun τ2 h2 _ => fin τ2 ?_)⟩
  · rw [eK1, ← fl_c (p := true) (fun z => (decide_eq_true ((pq z).mp c)).symm)]; exact h2
  · rw [eK1, ← fl_c (p := false) (fun z => (decide_eq_false (fun y => c ((pq z).mpr y))).symm)]; exact h2
