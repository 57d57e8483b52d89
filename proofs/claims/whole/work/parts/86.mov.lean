/-! ===== the class carries out a move, and all lines ===== -/
theorem tI_se {σ τ : mS} {D : mDeb} {t : Nat} {e : gE} (h : tI σ τ D t e) : tI σ (sT_16 τ (τ.2.1 5 11 ||| 0) 0 (stR (DC τ) (bB (τ.2.1 5 11 ||| 0)) (bB 0))) D t e ∧ tW D (sT_16 τ (τ.2.1 5 11 ||| 0) 0 (stR (DC τ) (bB (τ.2.1 5 11 ||| 0)) (bB 0))) := by
  have hV := h.2.1.1
  have eD := h.2.1.2
  have e : ∀ C i o r row, fK τ (sSt_16 τ C i o r row) := fun C i o r row => by
    refine ⟨fun a h1 h2 h3 h4 => ?_, fun k h1 h2 => ?_, fun a h1 h2 => ?_, fun k h1 => ?_, rfl⟩
    · simp only [sSt_16, mRw, mPI, mPL, mU2]; simp [h2, h3]
    · simp [sSt_16, mRw, mPI, mPL, mU2]
    · simp only [sSt_16, mRw, mPI, mPL, mU2]; simp [h2]
    · simp [sSt_16, mRw, mPI, mPL, mU2]
  have e25 : ∀ C i o r row k, (sSt_16 τ C i o r row).1 25 k = τ.1 25 k := fun C i o r row k => by simp [sSt_16, mRw, mPI, mPL, mU2]
  have l3 : ∀ C i o r row, (sSt_16 τ C i o r row).2.1 16 3 = i := fun C i o r row => by simp [sSt_16, mRw, mPI, mPL, mU2]
  have l4 : ∀ C i o r row, (sSt_16 τ C i o r row).2.1 16 4 = o := fun C i o r row => by simp [sSt_16, mRw, mPI, mPL, mU2]
  rw [sT_16]
  refine ⟨⟨fK_t h.1 (e _ _ _ _ _), ⟨?_, ?_⟩, by rw [e25]; exact h.2.2.1, by rw [e25]; exact h.2.2.2.1, by rw [e25]; exact h.2.2.2.2⟩, ?_, ?_⟩
  · rw [sSt_V_16]; exact hV
  · rw [sSt_D_16]; exact eD
  · rw [l3, eD, co_eq hV, eD, bB_noS]; rfl
  · rw [l4, eD, co_eq hV, eD, bB_noS]; rfl
theorem S_mvT {Γ : Nat × (Nat → Int32)} {d : Nat} {Q : mQ} {σ τ : mS} {K P : Nat → Nat} {V : Nat → Int64} {M E : Nat} {D : mDeb} {t : Nat} {e : gE} {kd : Int32} {kk : Nat} (hkd : kd = 1 ∨ kd = 2) (hC : tC σ K P V M) (hE : gEnd K E) (hM : E < M) (hE4 : E ≤ 400) (hk28 : kk < 26) (h : tI σ τ D (t + 1) e) (ht : t < E) (hg : (gMv K kk (t + 1, true)).2 = true)
    (hQ : ∀ τ', tI σ τ' (lnM D K V kd t e).1 (vM' K t) (lnM D K V kd t e).2 → Q (.inl none) 60 mSH τ') : mCall Γ M_X5_tellMove (d + 25) 0 0 [.ref 25, .int kd] 60 mSH τ Q := by
  obtain ⟨k1, k3, k5, k2, k4, k6, kT, eg⟩ := gMv_g hg
  have l1 : t + 1 ≤ E := ht
  have l2 := lt_E hE k1 (by decide) l1
  have l3 := lt_E hE k2 (by decide) l2
  have l4 := lt_E hE k3 (by decide) l3
  have l5 := lt_E hE k4 hk28 l4
  have l6 := lt_E hE k5 (by decide) l5
  have hV := cD_V h.2.1
  have h40 := hV.2.1
  have sp := dF_sp D (V (t + 3))
  have sq := dF_sp D (V (t + 5))
  refine E_X5_tellMove_25 _ (S_newT hC h (by omega) (fun τ1 h1 _ => T_X5_tellMove_25_4a _ _ ?_))
  rw [h1.2.2.1, nI_1]
  have h1 : tI σ (mPI τ1 25 3 (nI (t + 3))) D (t + 3) (eN D V (t + 1) e) := tI_mv h1 (t + 3)
  refine S_seeT hC h1 (by omega) (fun τ2 h2 _ => T_X5_tellMove_25_19a _ _ _ (S_X0_kindOf_5 _ ?_))
  have kd0 : ∀ {e' : gE}, e'.1 = 0 → e' = fl (decide (dF D (V (t + 3)) = -1)) 3 (t + 3) (eN D V (t + 1) e) → f_X0_kindOf_5 τ2 (dF D (V (t + 3))) = dk D (uN (dF D (V (t + 3)))) := fun z q => by
    rw [q] at z
    obtain ⟨i, hi, ei⟩ := sp.resolve_left (flD z (by decide)).1
    have := c_kind h2.2.1.1 (k := i) (by rw [h2.2.1.2]; exact hi)
    rw [h2.2.1.2] at this
    rw [ei, uN_nI (by omega)]; exact this
  have fin1 : ∀ τ3, tI σ τ3 D (t + 3) (eM1 D V t e) → mRt Γ M_X5_tellMove (d + 25) Q 60 0 0 43 [(0, .ref 25), (1, .int kd), (2, .long (V (t + 1))), (4, .int (dF D (V (t + 3))))] [] (.inl none) 60 mSH τ3 := by
    intro τ3 h3
    refine T_X5_tellMove_25_43a _ _ _ (S_X0_speakerOf_5 _ (T_X5_tellMove_25_52a _ _ _ _ ?_))
    have fsrc : (eM1 D V t e).1 = 0 → ∃ i, i < dn D ∧ dF D (V (t + 3)) = nI i := fun z => sp.resolve_left (flD (flD z (by decide)).2 (by decide)).1
    have es : (eM1 D V t e).1 = 0 → f_X0_speakerOf_5 τ3 (dF D (V (t + 3))) = db D (uN (dF D (V (t + 3)))) := fun z => by
      obtain ⟨i, hi, ei⟩ := fsrc z
      have := c_owner h3.2.1.1 (k := i) (by rw [h3.2.1.2]; exact hi)
      rw [h3.2.1.2] at this
      rw [ei, uN_nI (by omega)]; exact this
    generalize f_X0_speakerOf_5 τ3 (dF D (V (t + 3))) = sk at es ⊢
    rw [h3.2.2.1, show nI (t + 3) + 2 = nI (t + 5) by rw [show (2 : Int32) = nI 2 by decide]; exact nI_add (t + 3) 2]
    have h4 := tI_mv h3 (t + 5)
    refine S_seeT hC h4 (by omega) (fun τ4 h5 _ => T_X5_tellMove_25_68a _ _ _ _ _ ?_)
    have fin2 : ∀ τ5, tI σ τ5 D (t + 5) (eM2 D V kd t e) → mRt Γ M_X5_tellMove (d + 25) Q 60 0 0 100 [(0, .ref 25), (1, .int kd), (2, .long (V (t + 1))), (4, .int (dF D (V (t + 3)))), (5, .int sk), (6, .int (dF D (V (t + 5))))] [] (.inl none) 60 mSH τ5 := by
      intro τ5 h6
      have z2 : (eM2 D V kd t e).1 = 0 → (eM1 D V t e).1 = 0 ∧ (∃ j, j < dn D ∧ dF D (V (t + 5)) = nI j) := fun z => by
        have := (flD z (by decide)).2
        exact ⟨(flD this (by decide)).2, sq.resolve_left (flD this (by decide)).1⟩
      refine T_X5_tellMove_25_100a _ _ _ _ _ ?_
      rw [h6.2.2.1, nI_1]
      refine S_numT 10 5 1 50 hC (tI_mv h6 (t + 6)) (by omega) (fun q => by have := lt_E hE q (by decide) (show t + 6 ≤ E by omega); omega) (by decide) (fun τ6 h7 => T_X5_tellMove_25_121a _ _ _ _ _ _ ?_)
      have h7 : tI σ τ6 D (nu K (t + 6) 10) (eM3 D K V kd t e) := h7
      have z3 : (eM3 D K V kd t e).1 = 0 → (eM2 D V kd t e).1 = 0 := fun z => (ne_0 z).1
      have lu : nu K (t + 6) 10 ≤ E := by
        rw [nu]
        by_cases q : K (t + 6) = 10
        · rw [if_pos q]
          exact lt_E hE (k6 q) (by decide) (lt_E hE q (by decide) (show t + 6 ≤ E by omega))
        · rw [if_neg q]; omega
      -- behind the test
      have tail : ∀ τ7, tI σ τ7 D (vM' K t) (eM4 D K V kd t e) → mCall Γ M_X5_takeTime (d + 24) 0 0 [.ref 25, .int sk, .int (5 + nm K V (t + 6) 10 5)] 60 mSH τ7 (mRt Γ M_X5_tellMove (d + 25) Q 60 0 0 172 [(0, .ref 25), (1, .int kd), (2, .long (V (t + 1))), (4, .int (dF D (V (t + 3)))), (5, .int sk), (6, .int (dF D (V (t + 5)))), (7, .int (nm K V (t + 6) 10 5)), (8, .int (b01 (hM' D K V t)))] []) := by
        intro τ7 h8
        have eUz : ∀ m a (x : gE), (eU D K V m a x).1 = 0 → x.1 = 0 := by
          intro m
          induction m with
          | zero => exact fun a x z => z
          | succ m ih => exact fun a x z => (fl_0 (ih _ _ z) (by decide)).2
        have z4 : (eM4 D K V kd t e).1 = 0 → (eM3 D K V kd t e).1 = 0 := fun z => by
          rw [eM4] at z
          by_cases q : K (nu K (t + 6) 10) = 11
          · rw [if_pos q] at z; exact eUz _ _ _ z
          · rw [if_neg q] at z; exact z
        have all : (eM4 D K V kd t e).1 = 0 → (eM1 D V t e).1 = 0 ∧ ∃ j, j < dn D ∧ dF D (V (t + 5)) = nI j := fun z => z2 (z3 (z4 z))
        have fs : (eM4 D K V kd t e).1 = 0 → ∃ p, p < ds D ∧ db D (uN (dF D (V (t + 3)))) = nI p := fun z => by
          obtain ⟨i, hi, ei⟩ := fsrc (all z).1
          rw [ei, uN_nI (by omega)]
          exact (hV.2.2.2.2 i hi).1
        have same : tkE' D sk (5 + nm K V (t + 6) 10 5) (vM' K t) (eM4 D K V kd t e) = eM5 D K V kd t e := by
          rw [tkE', eM5, tkE']; exact fl_c (fun z => by rw [es (all z).1])
        refine S_timeT _ _ h8 (fun z => by rw [es (all z).1]; exact fs z) (fun τ8 h9 => T_X5_tellMove_25_172a _ _ _ _ _ _ _ ?_)
        rw [tkD, same] at h9
        rw [h9.2.2.2.1]
        rw [lnM] at hQ
        refine ⟨fun z => ?_, fun z => ?_⟩
        · have z5 := (flD z (by decide)).2
          rw [if_pos z] at hQ h9
          rw [es (all z5).1] at h9
          refine ⟨fun c => ?_, fun c => ?_⟩
          · rw [b01_0.mp c, if_neg Bool.false_ne_true] at hQ
            exact hQ _ h9
          · rw [b01_n0.mp c, if_pos rfl] at hQ
            have zM1 := (all z5).1
            obtain ⟨i, hi, ei⟩ := fsrc zM1
            obtain ⟨p, hp, ep⟩ := fs z5
            have hk0 : dk D (uN (dF D (V (t + 3)))) = 0 := Classical.not_not.mp (flD zM1 (by decide)).1
            have zN := (flD (flD zM1 (by decide)).2 (by decide)).2
            have d40 : ¬ 40 ≤ dn D := (flD zN (by decide)).1
            have ok : okI (aT D (uN (db D (uN (dF D (V (t + 3)))))) (dm D (uN (db D (uN (dF D (V (t + 3)))))) - (5 + nm K V (t + 6) 10 5))) kd (db D (uN (dF D (V (t + 3))))) (nm K V (t + 6) 10 5) (dF D (V (t + 3))) (dF D (V (t + 5))) := by
              refine ⟨⟨p, hp, ep⟩, nm_in (z4 z5) ⟨5, by decide, by decide, by decide⟩, .inr ⟨hkd, ⟨i, hi, ei, ?_⟩, (all z5).2⟩⟩
              rw [((aT_ext D _ _).2.2.1 i hi).1]
              rw [ei, uN_nI (by omega)] at hk0; exact hk0
            have add := C_addIt h9.2.1 (show dn D < 40 by omega) (V (t + 1)) ok
            refine S_X0_addMove_5 _ _ _ _ _ (T_X5_tellMove_25_199a _ _ _ _ _ _ _ (hQ _ ?_))
            have own := c_owner h9.2.1.1 (k := i) (by rw [h9.2.1.2]; exact hi)
            rw [h9.2.1.2, ((aT_ext D _ _).2.2.1 i hi).2.1] at own
            have e2 : f_X0_speakerOf_5 τ8 (dF D (V (t + 3))) = db D (uN (dF D (V (t + 3)))) := by
              rw [ei, own, uN_nI (by omega)]
            rw [g_X0_addMove_5, e2]
            exact tI_ch h9 add
        · rw [if_neg z] at hQ h9
          exact hQ _ h9
      refine S_seesT 11 hC h7 (by omega) (by decide) (fun q => T_X5_tellMove_25_133a _ _ _ _ _ _ _ _ ⟨fun c => absurd c one_ne, fun _ => ?_⟩) (fun q => T_X5_tellMove_25_133a _ _ _ _ _ _ _ _ ⟨fun _ => ?_, fun c => absurd rfl c⟩)
      · have lv := lt_E hE q (by decide) lu
        rw [h7.2.2.1, nI_1]
        have h8 := tI_mv h7 (nu K (t + 6) 10 + 1)
        obtain ⟨h9, w9⟩ := tI_se h8
        refine S_settle_16 0 0 h8.2.1.1 (T_X5_tellMove_25_155a _ _ _ _ _ _ _ ?_)
        refine S_testT (d := d + 18) hC hE hM hE4 (gSg_le hE 6) (gSg_ge 6) (S_singleT hC hE hM hE4 6 (by omega) d) (nu K (t + 6) 10 + 1) _ _ lv (kT q) h9 w9 (fun τ' ha _ => T_X5_tellMove_25_160a _ _ _ _ _ _ _ _ ?_)
        have := tail τ' (by rw [eM4, if_pos q, vM', if_pos q]; exact ha)
        rw [hM', if_pos q, hT] at this
        exact this
      · have := tail τ6 (by rw [eM4, if_neg q, vM', if_neg q]; exact h7)
        rw [hM', if_neg q] at this
        exact this
    have e5c : (fl (decide (dF D (V (t + 5)) = -1)) 3 (t + 5) (eM1 D V t e)).1 = 0 → f_X0_speakerOf_5 τ4 (dF D (V (t + 5))) = db D (uN (dF D (V (t + 5)))) ∧ sk = db D (uN (dF D (V (t + 3)))) := fun z => by
      obtain ⟨j, hj, ej⟩ := sq.resolve_left (flD z (by decide)).1
      have := c_owner h5.2.1.1 (k := j) (by rw [h5.2.1.2]; exact hj)
      rw [h5.2.1.2] at this
      exact ⟨by rw [ej, uN_nI (by omega)]; exact this, es (flD z (by decide)).2⟩
    refine ⟨fun c => S_X0_speakerOf_5 _ (T_X5_tellMove_25_85a _ _ _ _ _ _ ⟨fun c2 => S_fail true 6 h5 rfl (fun τ5 h6 _ => fin2 τ5 ?_), fun c2 => S_fail false 6 h5 rfl (fun τ5 h6 _ => fin2 τ5 ?_)⟩), fun c => S_fail false 6 h5 rfl (fun τ5 h6 _ => fin2 τ5 ?_)⟩
    · rw [eM2, ← fl_c (p := true) (fun z => (decide_eq_true ⟨c, by rw [← (e5c z).1, ← (e5c z).2]; exact c2⟩).symm)]; exact h6
    · rw [eM2, ← fl_c (p := false) (fun z => (decide_eq_false (fun y => c2 (by rw [(e5c z).1, (e5c z).2]; exact y.2))).symm)]; exact h6
    · rw [eM2, ← fl_c (p := false) (fun z => (decide_eq_false (fun y => c y.1)).symm)]; exact h6
  refine T_X5_tellMove_25_31a _ _ _ _ ⟨fun c => S_fail false 3 h2 rfl (fun τ3 h3 _ => fin1 τ3 ?_), fun c => S_fail true 3 h2 rfl (fun τ3 h3 _ => fin1 τ3 ?_)⟩
  · rw [eM1, ← fl_c (p := false) (fun z => (decide_eq_false (fun y => y (by rw [← kd0 z rfl]; exact c))).symm)]; exact h3
  · rw [eM1, ← fl_c (p := true) (fun z => (decide_eq_true (p := dk D (uN (dF D (V (t + 3)))) ≠ 0) (fun y => c (by rw [kd0 z rfl]; exact y))).symm)]; exact h3

theorem S_lnT {Γ : Nat × (Nat → Int32)} {d n0 bc bs : Nat} {Q : mQ} {σ τ : mS} {K P : Nat → Nat} {V : Nat → Int64} {M E : Nat} {D : mDeb} {t : Nat} {x : Int32} {e : gE} (hC : tC σ K P V M) (hE : gEnd K E) (hM : E < M) (hE4 : E ≤ 400) (h : tI σ τ D t e) (ht : t ≤ E) (hg : (gLi K (t, true)).2 = true)
    (hQ : ∀ τ', tI σ τ' (ln D K V t e).1 ((gLi K (t, true)).1 + 1) (ln D K V t e).2 → mK Γ M_X5_carryOut (d + 26) Q n0 bc bs 12 [(0, .ref 25), (1, .int (x + 1))] [] 60 mSH τ') :
    mRt Γ M_X5_carryOut (d + 26) Q n0 bc bs 47 [(0, .ref 25), (1, .int x)] [] (.inl (some (.ref (1000 + K t)))) 60 mSH τ := by
  have k28 := hC.2.1 t
  have h1 := tI_mv h (t + 1)
  have e1 : mPI τ 25 3 (τ.1 25 3 + 1) = mPI τ 25 3 (nI (t + 1)) := by rw [h.2.2.1, nI_1]
  have nxt : ∀ τ', tI σ τ' (ln D K V t e).1 (gLi K (t, true)).1 (ln D K V t e).2 → mK Γ M_X5_carryOut (d + 26) Q n0 bc bs 12 [(0, .ref 25), (1, .int (x + 1))] [] 60 mSH (mPI τ' 25 3 (τ'.1 25 3 + 1)) := fun τ' h' => by
    rw [h'.2.2.1, nI_1]; exact hQ _ (tI_mv h' _)
  rw [ln] at nxt
  by_cases k0 : K t = 0
  · rw [if_pos k0] at nxt
    refine T_X5_carryOut_25_47a _ _ (by omega) ⟨fun _ => ?_, fun c => absurd (by omega) c⟩
    rw [e1]
    exact S_spT hC hE hM h1 ht k0 hg (fun τ' h' => T_X5_carryOut_25_69a _ _ (by omega) (nxt τ' h'))
  rw [if_neg k0] at nxt
  by_cases k2 : K t = 2
  · rw [if_pos k2] at nxt
    refine T_X5_carryOut_25_47a _ _ (by omega) ⟨fun c => absurd c (by omega), fun _ => ⟨fun _ => ?_, fun c => absurd (by omega) c⟩⟩
    rw [e1]
    exact S_clT hC hE hM h1 ht k2 hg (fun τ' h' => T_X5_carryOut_25_83a _ _ (by omega) (nxt τ' h'))
  rw [if_neg k2] at nxt
  by_cases k5 : K t = 5
  · rw [if_pos k5] at nxt
    obtain ⟨g5, ge⟩ := gLi_5 k5 hg
    rw [ge, (gMv_g g5).2.2.2.2.2.2.2] at nxt
    refine T_X5_carryOut_25_47a _ _ (by omega) ⟨fun c => absurd c (by omega), fun _ => ⟨fun c => absurd c (by omega), fun _ => ⟨fun _ => ⟨fun _ => ?_, fun c => absurd (by omega) c⟩, fun c => absurd (by omega) c⟩⟩⟩
    rw [e1]
    exact S_mvT (.inl rfl) hC hE hM hE4 (by decide) h1 (lt_E hE k5 (by decide) ht) g5 (fun τ' h' => T_X5_carryOut_25_116a _ _ (by omega) (nxt τ' h'))
  rw [if_neg k5] at nxt
  by_cases k6 : K t = 6
  · rw [if_pos k6] at nxt
    obtain ⟨g5, ge⟩ := gLi_6 k6 hg
    rw [ge, (gMv_g g5).2.2.2.2.2.2.2] at nxt
    refine T_X5_carryOut_25_47a _ _ (by omega) ⟨fun c => absurd c (by omega), fun _ => ⟨fun c => absurd c (by omega), fun _ => ⟨fun c => absurd c (by omega), fun _ => ⟨fun _ => ⟨fun c => absurd c (by omega), fun _ => ?_⟩, fun c => absurd (by omega) c⟩⟩⟩⟩
    rw [e1]
    exact S_mvT (.inr rfl) hC hE hM hE4 (by decide) h1 (lt_E hE k6 (by decide) ht) g5 (fun τ' h' => T_X5_carryOut_25_116a _ _ (by omega) (nxt τ' h'))
  rw [if_neg k6] at nxt
  obtain ⟨kk, k24, ge⟩ := gLi_k k0 k2 k5 k6 hg
  rw [ge] at nxt
  have lt : t < E := kk.elim (fun z => lt_E hE z (by decide) ht) (fun z => lt_E hE z (by decide) ht)
  refine T_X5_carryOut_25_47a _ _ (by omega) ⟨fun c => absurd c (by omega), fun _ => ⟨fun c => absurd c (by omega), fun _ => ⟨fun c => absurd c (by omega), fun _ => ⟨fun c => absurd c (by omega), fun _ => ⟨fun c => ?_, fun c => ?_⟩⟩⟩⟩⟩
  · rw [if_pos (by omega)] at nxt
    rw [e1]
    exact S_coT (.inr rfl) hC hE hM h1 lt k24 (fun τ' h' => T_X5_carryOut_25_135a _ _ (by omega) (nxt τ' h'))
  · rw [if_neg (by omega)] at nxt
    rw [e1]
    exact S_coT (.inl rfl) hC hE hM h1 lt k24 (fun τ' h' => T_X5_carryOut_25_135a _ _ (by omega) (nxt τ' h'))
/-- a good text's line is good -/
theorem gTx_ln {K : Nat → Nat} {m t : Nat} (h : (gTx K (m + 1) (t, true)).2 = true) (k : K t ≠ 26) : (gLi K (t, true)).2 = true ∧ K (gLi K (t, true)).1 = 23 ∧ gTx K (m + 1) (t, true) = gTx K m ((gLi K (t, true)).1 + 1, true) := by
  rw [gTx, gIf_pos ⟨rfl, k⟩, gLn_i] at h ⊢
  have f : (gN K 23 (gLi K (t, true))).2 = true := by
    cases z : (gN K 23 (gLi K (t, true))).2
    · have := gTx_f (K := K) m (gN K 23 (gLi K (t, true))).1
      rw [← z] at this
      rw [show ((gN K 23 (gLi K (t, true))).1, (gN K 23 (gLi K (t, true))).2) = gN K 23 (gLi K (t, true)) from rfl] at this
      rw [this, z] at h; exact h
    · rfl
  obtain ⟨a, b, c⟩ := gN_g f
  exact ⟨a, b, by rw [c]⟩
theorem L_carT {Γ : Nat × (Nat → Int32)} {d n0 bc bs : Nat} {Q : mQ} {σ : mS} {K P : Nat → Nat} {V : Nat → Int64} {M E : Nat} (hC : tC σ K P V M) (hE : gEnd K E) (hM : E < M) (hE4 : E ≤ 400) :
    ∀ m i t D e τ, i + m = 400 → t ≤ E → (gTx K m (t, true)).2 = true → tI σ τ D t e → (∀ τ' t', tI σ τ' (CO K V m t D e).1 t' (CO K V m t D e).2 → Q (.inl (some (.int (CO K V m t D e).2.1))) 60 mSH τ') →
      mK Γ M_X5_carryOut (d + 26) Q n0 bc bs 12 [(0, .ref 25), (1, .int (nI i))] [] 60 mSH τ
  | 0, i, t, D, e, τ, hi, ht, hg, hI, hQ => T_X5_carryOut_25_12 _ ⟨fun _ => by rw [hI.2.2.2.1]; exact hQ τ t hI, fun c => absurd (by rw [i400]; exact nI_le (by omega) (by omega)) c⟩
  | m + 1, i, t, D, e, τ, hi, ht, hg, hI, hQ => by
    rw [CO] at hQ
    have stop : ¬ (e.1 = 0 ∧ K t ≠ 26) → Q (.inl (some (.int e.1))) 60 mSH τ := fun q => by rw [if_neg q] at hQ; exact hQ τ t hI
    refine T_X5_carryOut_25_12 _ ⟨fun c => absurd c (by rw [i400]; exact nI_ge (by omega) (by omega)), fun _ => ?_⟩
    rw [hI.2.2.2.1]
    refine ⟨fun z => ?_, fun z => stop (fun q => z q.1)⟩
    refine S_seesT 26 hC hI (by omega) (by decide) (fun q => T_X5_carryOut_25_33a _ _ ⟨fun c => absurd c one_ne, fun _ => ?_⟩) (fun q => T_X5_carryOut_25_33a _ _ ⟨fun _ => ?_, fun c => absurd rfl c⟩)
    · rw [hI.2.2.2.1]; exact stop (fun y => y.2 q)
    · rw [if_pos ⟨z, q⟩] at hQ
      obtain ⟨g1, g2, g3⟩ := gTx_ln hg q
      refine S_kindT hC hI (by omega) (S_lnT hC hE hM hE4 hI ht g1 (fun τ' h' => ?_))
      rw [nI_1]
      exact L_carT hC hE hM hE4 m (i + 1) _ _ _ τ' (by omega) (lt_E hE g2 (by decide) (gLi_le (s := (t, true)) hE ht)) (by rw [← g3]; exact hg) h' hQ
theorem S_carT {Γ : Nat × (Nat → Int32)} {d : Nat} {Q : mQ} {σ : mS} {K P : Nat → Nat} {V : Nat → Int64} {M E : Nat} {D : mDeb} (hC : tC σ K P V M) (hE : gEnd K E) (hM : E < M) (hE4 : E ≤ 400) (hD : cD σ D) (hg : (gTx K 400 (0, true)).2 = true)
    (hQ : ∀ τ' t', tI σ τ' (CO K V 400 0 D (0, σ.1 25 5)).1 t' (CO K V 400 0 D (0, σ.1 25 5)).2 → Q (.inl (some (.int (CO K V 400 0 D (0, σ.1 25 5)).2.1))) 60 mSH τ') : mCall Γ M_X5_carryOut (d + 26) 0 0 [.ref 25] 60 mSH σ Q := by
  refine E_X5_carryOut_25 (L_carT hC hE hM hE4 400 0 0 D (0, σ.1 25 5) _ rfl (Nat.zero_le _) hg ⟨fK_t (fK_25 _ _ _) (fK_25 _ _ _), hD, ?_, ?_, ?_⟩ hQ)
  · rw [mPI_at, if_neg (by decide), mPI_at, if_pos rfl]; rfl
  · rw [mPI_at, if_pos rfl]
  · rw [mPI_at, if_neg (by decide), mPI_at, if_neg (by decide)]
