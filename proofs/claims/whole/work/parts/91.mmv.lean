/-! ===== the model carries out a move, and all lines ===== -/
def n23 (K : Nat → Nat) (a b : Nat) : Prop := ∀ k, a ≤ k → k < b → K k ≠ 23
theorem n23_t {K : Nat → Nat} {a b c : Nat} (h : n23 K a b) (g : n23 K b c) : n23 K a c := fun k x y => by
  by_cases z : k < b
  · exact h k x z
  · exact g k (by omega) y
theorem n23_1 {K : Nat → Nat} {a : Nat} (h : K a ≠ 23) : n23 K a (a + 1) := fun k x y => by
  have : k = a := by omega
  rw [this]; exact h
theorem gL_n23 {K : Nat → Nat} {g : gP → gP} (hg : ∀ t, (g (t, true)).2 = true → n23 K t (g (t, true)).1) : ∀ m t, (gL K g m (t, true)).2 = true → n23 K t (gL K g m (t, true)).1
  | 0, t, _ => fun k x y => absurd y (by show ¬ k < t; omega)
  | m + 1, t, h => by
    rw [gL] at h ⊢
    by_cases q : gT K 19 (t, true) = true ∨ gT K 20 (t, true) = true
    · rw [if_pos q, gA_1] at h ⊢
      have k23 : K t ≠ 23 := by
        rcases q with z | z <;> have := gT_1.mp z <;> omega
      have f : (g (t + 1, true)).2 = true := by
        cases z : (g (t + 1, true)).2
        · exfalso
          have : ∀ m (s : gP), s.2 = false → (gL K g m s).2 = false := by
            intro m s hs
            cases m with
            | zero => exact hs
            | succ m => rw [gL, if_neg (fun y => y.elim (gT_f hs) (gT_f hs))]; exact hs
          rw [this m _ z] at h; exact Bool.false_ne_true h
        · rfl
      have h1 := hg (t + 1) f
      rw [gP_t f] at h ⊢
      exact n23_t (n23_1 k23) (n23_t h1 (gL_n23 hg m _ h))
    · rw [if_neg q]
      exact fun k x y => absurd y (by show ¬ k < t; omega)
theorem gTst_n23 {K : Nat → Nat} {g : gP → gP} (hg : ∀ t, (g (t, true)).2 = true → n23 K t (g (t, true)).1) (t : Nat) (h : (gTst K g (t, true)).2 = true) : n23 K t (gTst K g (t, true)).1 := by
  rw [gTst] at h ⊢
  have f := gL_good h
  have h1 := hg t f
  rw [gP_t f] at h ⊢
  exact n23_t h1 (gL_n23 hg 400 _ h)
theorem gSg_n23 {K : Nat → Nat} : ∀ r t, (gSg K r (t, true)).2 = true → n23 K t (gSg K r (t, true)).1
  | 0, t, h => by
    obtain ⟨k1, k2, e⟩ := gSg0_good h
    rw [e]; exact n23_t (n23_1 (by omega)) (n23_1 (by omega))
  | r + 1, t, h => by
    rcases gSgS_good h with ⟨k1, k2, e⟩ | ⟨k1, e⟩ | ⟨k1, f, k3, e⟩
    · rw [e]; exact n23_t (n23_1 (by omega)) (n23_1 (by omega))
    · rw [e] at h ⊢
      exact n23_t (n23_1 (by omega)) (gSg_n23 r (t + 1) h)
    · rw [e]
      exact n23_t (n23_1 (by omega)) (n23_t (gTst_n23 (gSg_n23 r) (t + 1) f) (n23_1 (by omega)))
theorem L_unk {Γ : Nat × (Nat → Int32)} {d n0 bc bs : Nat} {Q : mQ} {τ : mS} {K P : Nat → Nat} {V : Nat → Int64} {M v : Nat} {D : mDeb} {x : Int32} (hC : tM τ K P V M) (hF : tF K V) (hD : mD τ D) (hv : v < M) (hk : K v = 23) :
    ∀ m a, a + m = v → n23 K a v → (∀ j, eU D K V m a (0, x) = (3, nI j) → a ≤ j → j < v → Q (.inl (some (.int (nI j)))) 60 mSH τ) → (eU D K V m a (0, x) = (0, x) → noU D K V a v → Q (.inl (some (.int (-1)))) 60 mSH τ) →
      mK Γ M_X9_unknown (d + 2) Q n0 bc bs 5 [(0, .ref 26), (1, .int (nI a))] [] 60 mSH τ
  | 0, a, hm, hn, h1, h0 => by
    have hMM := hC.1
    have : a = v := by omega
    subst this
    obtain ⟨e29, e30, e31⟩ := hC.2.2.2 a hv
    refine T_X9_unknown_26_5 _ ?_
    rw [nI_clamp (by omega), e31.2 (by omega) (by omega), e29, hk]
    refine ⟨vp_in_nI (by omega) (by omega), fun _ => ⟨fun _ => h0 rfl (fun k y z => by omega), fun c => absurd (by decide) c⟩, fun c => absurd (by decide) c⟩
  | m + 1, a, hm, hn, h1, h0 => by
    have hMM := hC.1
    obtain ⟨e29, e30, e31⟩ := hC.2.2.2 a (by omega)
    have k28 := hC.2.1 a
    have k23 := hn a (Nat.le_refl _) (by omega)
    rw [eU] at h1 h0
    have sk : un D K V a = false → mK Γ M_X9_unknown (d + 2) Q n0 bc bs 5 [(0, .ref 26), (1, .int (nI a + 1))] [] 60 mSH τ := fun q => by
      rw [q, fl_f] at h1 h0
      rw [nI_1]
      refine L_unk hC hF hD hv hk m (a + 1) (by omega) (fun k y z => hn k (by omega) z) (fun j z y w => h1 j z (by omega) w) (fun z y => h0 z (fun k p w r => ?_))
      by_cases e : k = a
      · subst e
        rw [un, decide_eq_true r, Bool.true_and] at q
        exact of_decide_eq_false q
      · exact y k (by omega) w r
    have wd : K a ≤ 20 ∨ K a = 24 → mCall Γ M_X9_isKeyword (d + 1) 0 0 [.long (V a)] 60 mSH τ (mRt Γ M_X9_unknown (d + 2) Q n0 bc bs 47 [(0, .ref 26), (1, .int (nI a))] []) := fun w => by
      refine E_X9_isKeyword _ (L_isKw (fun z => ?_) (fun z => ?_) 21 0 rfl (fun k hk => absurd hk (Nat.not_lt_zero k)))
      · refine T_X9_unknown_26_47a _ _ ⟨fun c => absurd c one_ne, fun _ => sk ?_⟩
        rw [un, decide_eq_false (fun q24 => ?_), Bool.false_and]
        obtain ⟨k, hk, e⟩ := z
        exact (hF a).2 q24 k hk e.symm
      · have q24 : K a = 24 := by
          rcases w with q | q
          · exact absurd ((hF a).1 q).symm (z (K a) (by omega))
          · exact q
        refine T_X9_unknown_26_47a _ _ ⟨fun _ => ?_, fun c => absurd rfl c⟩
        rw [nI_clamp (by omega), tM_v hC (show a < M by omega) (.inl q24)]
        refine ⟨vp_in_nI (by omega) (by omega), S_itM _ hD (T_X9_unknown_26_63a _ _ ⟨fun c => ?_, fun c => sk ?_⟩)⟩
        · have u1 : un D K V a = true := by rw [un, decide_eq_true q24, decide_eq_true c]; rfl
          rw [u1, fl_t rfl, eU_e _ _ _ (by show (3 : Int32) ≠ 0; decide)] at h1
          exact h1 a rfl (Nat.le_refl _) (by omega)
        · rw [un, decide_eq_false c, Bool.and_false]
    have sort4 : nI (srt (K a)) = 4 → K a = 21 ∨ K a = 22 := fun z => by have := (srt_4 _ k28).mp z; omega
    have both : ((τ.1 29 a = 2 → mCall Γ M_X9_isKeyword (d + 1) 0 0 [.long (τ.2.1 31 a)] 60 mSH τ (mRt Γ M_X9_unknown (d + 2) Q n0 bc bs 47 [(0, .ref 26), (1, .int (nI a))] [])) ∧ (¬ τ.1 29 a = 2 → mK Γ M_X9_unknown (d + 2) Q n0 bc bs 5 [(0, .ref 26), (1, .int (nI a + 1))] [] 60 mSH τ)) := by
      rw [e29]
      refine ⟨fun z => ?_, fun z => sk ?_⟩
      · have w := (srt_2 _ k28).mp z
        rw [e31.1 (by omega)]; exact wd w
      · rw [un, decide_eq_false (fun q => z ((srt_2 _ k28).mpr (.inr q))), Bool.false_and]
    refine T_X9_unknown_26_5 _ ?_
    rw [nI_clamp (by omega)]
    refine ⟨vp_in_nI (by omega) (by omega), fun c => ⟨fun c4 => ?_, fun _ => both⟩, fun _ => both⟩
    rw [e29] at c4
    exfalso
    rcases sort4 c4 with z | z
    · rw [e31.2 (by omega) (by omega), z] at c; exact absurd c (by decide)
    · rw [e31.2 (by omega) (by omega), z] at c; exact absurd c (by decide)
theorem S_stM {Γ : Nat × (Nat → Int32)} {d : Nat} {Q : mQ} {σ τ : mS} {D : mDeb} {t : Nat} (h : mI σ τ D t) (hH : hM σ) (hQ : ∀ r τ', mI σ τ' D t → tU D τ' → Q (.inl (some (.int r))) 60 mSH τ') : mCall Γ M_X9_stand (d + 3) 0 0 [.ref 26, .ref 54, .ref 55] 60 mSH τ Q := by
  have hH' : hM τ := by rw [hM, h.1.2.1 18 (by decide), h.1.2.1 19 (by decide), h.1.2.1 20 (by decide)]; exact hH
  have hV : sV τ := by rw [sV, h.2.1.2]; exact h.2.1.1
  refine S_stand_54 hV (fun τ' f hk => hQ _ τ' ⟨fN_t h.1 ⟨fun a h1 h2 h3 => f.1 a (by omega) (by omega) (by omega) (by omega) (by omega), fun k h1 => congrFun (f.1 26 (by decide) (by decide) (by decide) (by decide) (by decide)) k, fun a _ => by rw [f.2], by rw [f.2]⟩, ⟨h.2.1.1, ?_⟩, ?_⟩ ?_)
  · rw [← h.2.1.2, DM, DM, f.1 32 (by decide) (by decide) (by decide) (by decide) (by decide), f.1 36 (by decide) (by decide) (by decide) (by decide) (by decide), f.1 37 (by decide) (by decide) (by decide) (by decide) (by decide), f.1 38 (by decide) (by decide) (by decide) (by decide) (by decide), f.1 39 (by decide) (by decide) (by decide) (by decide) (by decide), f.1 40 (by decide) (by decide) (by decide) (by decide) (by decide), f.1 41 (by decide) (by decide) (by decide) (by decide) (by decide), f.1 34 (by decide) (by decide) (by decide) (by decide) (by decide), f.2]
  · rw [f.1 26 (by decide) (by decide) (by decide) (by decide) (by decide)]; exact h.2.2
  · intro k hk'
    have := (hk k (by rw [h.2.1.2]; exact hk')).1
    rw [this, stF_congr hV (coM_0 hV hH'.1 hH'.2.1) (hiM_0 hV hH'.2.2), h.2.1.2]
    rfl
theorem lvk {Γ : Nat × (Nat → Int32)} {I : mM} {d : Nat} {Q : mQ} {n0 bc bs pc : Nat} {lv lx : List (Nat × Value)} {τ : mS} (r : Int32) (h : ∀ q ∈ lv, q ∈ lx) (k : mRt Γ I d Q n0 bc bs pc lv [] (.inl (some (.int r))) 60 mSH τ) : mRt Γ I d Q n0 bc bs pc lx [] (.inl (some (.int r))) 60 mSH τ := by
  show mK Γ I d Q n0 bc bs pc lx [.int r] 60 mSH τ
  exact mK_lv h k
theorem tkf {D : mDeb} {p : Nat} {y x : Int32} {u : Nat} {f : Int32} (hp : p < 7) (e : y = nI p) : tkE' D y f u (0, x) = fl (decide (dm D p < f)) 7 u (0, x) := by rw [tkE', e, uN_nI (by omega)]
theorem S_mvM {Γ : Nat × (Nat → Int32)} {d : Nat} {Q : mQ} {σ τ : mS} {K P : Nat → Nat} {V : Nat → Int64} {M E : Nat} {D : mDeb} {t : Nat} {x kd : Int32} {kk : Nat} (hkd : kd = 1 ∨ kd = 2) (hC : tM σ K P V M) (hF : tF K V) (hN : tN K V) (hH : hM σ) (hE : gEnd K E) (hM : E < M) (hE4 : E ≤ 400) (hk28 : kk < 26) (h : mI σ τ D t) (ht : t < E) (hg : (gMv K kk (t + 1, true)).2 = true) (hend : K (vM' K t) = 23)
    (hQ : mQt Q σ P M (lnM D K V kd t (0, x)) (vM' K t)) : mCall Γ M_X9_actLine (d + 33) 0 0 [.ref 26, .int kd] 60 mSH τ Q := by
  have hMM := hC.1
  obtain ⟨k1, k3, k5, k2, k4, k6, kT, eg⟩ := gMv_g hg
  have l1 : t + 1 ≤ E := ht
  have l2 := lt_E hE k1 (by decide) l1
  have l3 := lt_E hE k2 (by decide) l2
  have l4 := lt_E hE k3 (by decide) l3
  have l5 := lt_E hE k4 hk28 l4
  have l6 := lt_E hE k5 (by decide) l5
  have hV := h.2.1.1
  have h40 := hV.2.1
  have h6 := hV.2.2.2.1
  have hC' := fN_tM h.1 hC
  have a3 : nI t + 3 = nI (t + 3) := by rw [show (3 : Int32) = nI 3 by decide]; exact nI_add t 3
  have a5 : nI t + 5 = nI (t + 5) := by rw [show (5 : Int32) = nI 5 by decide]; exact nI_add t 5
  have a6 : nI t + 6 = nI (t + 6) := by rw [show (6 : Int32) = nI 6 by decide]; exact nI_add t 6
  -- an early error stays
  have o3 : ∀ {n y : Int32}, n ≠ 0 → eM3 D K V kd t (0, x) = (n, y) → (lnM D K V kd t (0, x)).2 = (n, y) := fun {n y} n0 e => by
    show eM5 D K V kd t (0, x) = _
    have : eM4 D K V kd t (0, x) = (n, y) := by
      rw [eM4]
      by_cases q : K (nu K (t + 6) 10) = 11
      · rw [if_pos q, e, eR]; exact eU_e _ _ _ n0
      · rw [if_neg q]; exact e
    rw [eM5, this]; exact tkE_n n0
  have o2 : ∀ {n y : Int32}, n ≠ 0 → eM2 D V kd t (0, x) = (n, y) → (lnM D K V kd t (0, x)).2 = (n, y) := fun n0 e => o3 n0 (by rw [eM3, e]; exact ne_n n0)
  have o1 : ∀ {n y : Int32}, n ≠ 0 → eM1 D V t (0, x) = (n, y) → (lnM D K V kd t (0, x)).2 = (n, y) := fun n0 e => o2 n0 (by rw [eM2, e, fl_n n0]; exact fl_n n0)
  have oN : ∀ {n y : Int32}, n ≠ 0 → eN D V (t + 1) (0, x) = (n, y) → (lnM D K V kd t (0, x)).2 = (n, y) := fun n0 e => o1 n0 (by rw [eM1, e, fl_n n0]; exact fl_n n0)
  refine E_X9_actLine_26 _ ?_
  rw [h.2.2, nI_1]
  refine S_newM (x := x) hC h (by omega) k1 (fun eN0 n40 => T_X9_actLine_26_12a _ _ _ ⟨fun _ => ?_, fun c => absurd (show (0 : Int32) ≤ 0 by decide) c⟩) (fun n τ' eN1 n0 n8 f' p' q' => T_X9_actLine_26_12a _ _ _ ⟨fun c => absurd ((nI_le0 n8).mp c) (by omega), fun _ => ?_⟩)
  · rw [h.2.2, a3, nI_clamp (by omega), tM_v hC' (show t + 3 < M by omega) (.inl k3)]
    refine ⟨vp_in_nI (by omega) (by omega), S_itM _ h.2.1 (T_X9_actLine_26_37a _ _ _ _ ⟨fun c => ?_, fun c => ?_⟩)⟩
    · rw [h.2.2, a3]
      exact failQ 3 hC h (show t + 3 < M by omega) (by omega) hQ (o1 (by decide) (by rw [eM1, eN0, fld_t (p := dF D (V (t + 3)) = -1) c]; exact fl_n (by decide))) (by decide) (by decide)
    obtain ⟨i, hi, ei⟩ := (dF_sp D (V (t + 3))).resolve_left c
    have mi := mD_i h.2.1 hi
    have e1a : eM1 D V t (0, x) = fl (decide (dk D i ≠ 0)) 3 (t + 3) (0, x) := by rw [eM1, eN0, fld_f (p := dF D (V (t + 3)) = -1) c, ei, uN_nI (by omega)]
    rw [h.2.2, a3, a5, ei, nI_clamp (by omega), mi.1, nI_clamp (by omega), tM_v hC' (show t + 5 < M by omega) (.inl k5)]
    refine ⟨vp_in_nI (by omega) (by omega), fun z => ⟨vp_in_nI (by omega) (by omega), ?_⟩, fun z => failQ 3 hC h (show t + 3 < M by omega) (by omega) hQ (o1 (by decide) (by rw [e1a, fld_t (p := dk D i ≠ 0) z]; rfl)) (by decide) (by decide)⟩
    have e1 : eM1 D V t (0, x) = (0, x) := by rw [e1a, fld_f (p := dk D i ≠ 0) (fun y => y z)]
    refine S_itM _ h.2.1 (T_X9_actLine_26_88a _ _ _ _ _ ⟨fun c5 => ?_, fun c5 => ?_⟩)
    · rw [h.2.2, a5]
      exact failQ 3 hC h (show t + 5 < M by omega) (by omega) hQ (o2 (by decide) (by rw [eM2, e1, fld_t (p := dF D (V (t + 5)) = -1) c5]; exact fl_n (by decide))) (by decide) (by decide)
    obtain ⟨j, hj, ej⟩ := (dF_sp D (V (t + 5))).resolve_left c5
    have mj := mD_i h.2.1 hj
    have e2a : eM2 D V kd t (0, x) = fl (decide (kd = 1 ∧ db D j = db D i)) 6 (t + 5) (0, x) := by rw [eM2, e1, fld_f (p := dF D (V (t + 5)) = -1) c5, ei, ej, uN_nI (by omega), uN_nI (by omega)]
    obtain ⟨⟨p, hp, ep⟩, _⟩ := hV.2.2.2.2 i hi
    -- behind the checks
    have go : eM2 D V kd t (0, x) = (0, x) → mCall Γ M_X9_sized (d + 32) 0 0 [.ref 26, .ref 1210, .int 5] 60 mSH (mgS τ (t + 6)) (mRt Γ M_X9_actLine (d + 33) Q 60 0 0 167 [(0, .ref 26), (1, .int kd), (2, .int (nI (t + 1))), (3, .int 0), (4, .int (nI i)), (5, .int (nI j))] []) := by
      intro e2
      have e3a : eM3 D K V kd t (0, x) = ne K V (t + 6) 10 1 50 (0, x) := by rw [eM3, e2]
      refine S_sizeM (d := d + 24) (x := x) 5 hC' hF hN hE hM (show t + 6 ≤ E by omega) (by decide) k6 (fun e0 => T_X9_actLine_26_167a _ _ _ _ _ _ ⟨fun c0 => ?_, fun _ => ?_⟩) (fun e0 l7 => T_X9_actLine_26_167a _ _ _ _ _ _ ⟨fun _ => ?_, fun c => absurd rfl c⟩)
      · obtain ⟨y, y1, y2, ey⟩ := nm_in (usual := 5) (show (ne K V (t + 6) 10 1 50 (0, x)).1 = 0 by rw [e0]) ⟨5, by decide, by decide, by decide⟩
        rw [ey] at c0
        exact absurd ((nI_eq (by omega) (by decide)).mp (c0.trans nI_0.symm)) (by omega)
      · have e3 : eM3 D K V kd t (0, x) = (0, x) := e3a.trans e0
        have hu := mI_mv h (nu K (t + 6) 10)
        have lu : nu K (t + 6) 10 ≤ E := by
          rw [nu]
          by_cases q : K (t + 6) = 10
          · rw [if_pos q]; exact lt_E hE (k6 q) (by decide) (lt_E hE q (by decide) (show t + 6 ≤ E by omega))
          · rw [if_neg q]; omega
        have lv : vM' K t < E := by
          have : vM' K t ≤ E := by rw [← eg]; exact gMv_le (s := (t + 1, true)) hE hk28 l1
          exact lt_E hE hend (by decide) this
        -- the time and the item
        have tail : ∀ (lx : List (Nat × Value)) τ2, (∀ q ∈ ([(0, .ref 26), (1, .int kd), (2, .int (nI (t + 1))), (3, .int 0), (4, .int (nI i)), (5, .int (nI j)), (6, .int (nm K V (t + 6) 10 5)), (7, .int (b01 (hM' D K V t)))] : List (Nat × Value)), q ∈ lx) → mI σ τ2 D (vM' K t) → eM4 D K V kd t (0, x) = (0, x) → vp_in (nI i) 40 ∧ mCall Γ M_X9_take (d + 32) 0 0 [.ref 26, .int (τ2.1 37 (nI i).toNatClampNeg), .int (5 + nm K V (t + 6) 10 5)] 60 mSH τ2 (mRt Γ M_X9_actLine (d + 33) Q 60 0 0 253 lx []) := by
          intro lx τ2 hlx h2 e4
          have e5 : eM5 D K V kd t (0, x) = fl (decide (dm D p < 5 + nm K V (t + 6) 10 5)) 7 (vM' K t) (0, x) := by rw [eM5, e4, ei, uN_nI (by omega)]; exact tkf (by omega) ep
          rw [nI_clamp (by omega), (mD_i h2.2.1 hi).2.1, ep]
          refine ⟨vp_in_nI (by omega) (by omega), ?_⟩
          refine S_takeM _ hC h2 (show vM' K t < M by omega) hp (fun nl τ3 h3 => lvk _ hlx (T_X9_actLine_26_253a (d := d + 31) kd (nI (t + 1)) 0 (nI i) (nI j) (nm K V (t + 6) 10 5) (b01 (hM' D K V t)) 0 ⟨fun _ => ⟨fun c => ?_, fun c => ?_⟩, fun c => absurd rfl c⟩)) (fun l τ3 f3 p3 q3 => lvk _ hlx (T_X9_actLine_26_253a (d := d + 31) kd (nI (t + 1)) 0 (nI i) (nI j) (nm K V (t + 6) 10 5) (b01 (hM' D K V t)) 7 ⟨fun c => absurd c (by decide), fun _ => ?_⟩))
          · have z5 : eM5 D K V kd t (0, x) = (0, x) := by rw [e5, fld_f nl]
            refine hQ.1 (by rw [lnM, z5]) _ ?_
            rw [lnM, z5, if_pos rfl, b01_0.mp c, if_neg Bool.false_ne_true, ei, uN_nI (by omega), ep, uN_nI (by omega)]
            exact h3
          · have z5 : eM5 D K V kd t (0, x) = (0, x) := by rw [e5, fld_f nl]
            have ok : okI (aT D p (dm D p - (5 + nm K V (t + 6) 10 5))) kd (nI p) (nm K V (t + 6) 10 5) (nI i) (nI j) := ⟨⟨p, hp, rfl⟩, nm_in (show (ne K V (t + 6) 10 1 50 (0, x)).1 = 0 by rw [e0]) ⟨5, by decide, by decide, by decide⟩, .inr ⟨hkd, ⟨i, hi, rfl, by rw [((aT_ext D _ _).2.2.1 i hi).1]; exact z⟩, j, hj, rfl⟩⟩
            have b3 : (τ3.1 37 i) = nI p := by rw [(mD_i h3.2.1 (show i < dn D from hi)).2.1, ((aT_ext D _ _).2.2.1 i hi).2.1, ep]
            rw [nI_clamp (by omega), nI_clamp (by omega), b3, tM_v (fN_tM h3.1 hC) (show t + 1 < M by omega) (.inl k1)]
            refine ⟨vp_in_nI (by omega) (by omega), vp_in_nI (by omega) (by omega), S_X8_add_32 _ _ _ _ _ _ (by rw [mD_n h3.2.1]; exact vp_in_nI (by show dn D < 40; exact n40) (by omega)) (T_X9_actLine_26_293a _ _ _ _ _ _ _ (hQ.1 (by rw [lnM, z5]) _ ?_))⟩
            rw [lnM, z5, if_pos rfl, b01_n0.mp c, if_pos rfl, ei, ej, uN_nI (by omega), ep, uN_nI (by omega)]
            exact M_add h3 n40 _ ok
          · exact hQ.2 7 _ τ3 _ (show eM5 D K V kd t (0, x) = _ by rw [e5, fld_t l]; rfl) (by decide) (by decide) (show vM' K t < M by omega) f3 p3 q3 (by omega)
        refine S_wordM (d := d + 25) 11 hC' hF (by omega) (by decide) (fun q => T_X9_actLine_26_193a _ _ _ _ _ _ _ _ ⟨fun c => absurd c one_ne, fun _ => ?_⟩) (fun q => T_X9_actLine_26_193a _ _ _ _ _ _ _ _ ⟨fun _ => ?_, fun c => absurd rfl c⟩)
        · have h7 := mI_mv h (nu K (t + 6) 10 + 1)
          have ev : vM' K t = (gTst K (gSg K 6) (nu K (t + 6) 10 + 1, true)).1 := by rw [vM', if_pos q]
          have gT' := kT q
          have le : nu K (t + 6) 10 + 1 ≤ vM' K t := by
            rw [ev]; exact Nat.le_trans (gSg_ge 6 (nu K (t + 6) 10 + 1, true)) (gL_ge (gSg_ge 6) 400 _)
          have e4a : eM4 D K V kd t (0, x) = eR D K V (nu K (t + 6) 10 + 1) (vM' K t) (0, x) := by rw [eM4, if_pos q, e3]
          refine E_X9_unknown_26 ?_
          rw [h7.2.2]
          refine L_unk (x := x) (fN_tM h7.1 hC) hF h7.2.1 (show vM' K t < M by omega) hend (vM' K t - (nu K (t + 6) 10 + 1)) _ (by omega) (by rw [ev]; exact gTst_n23 (gSg_n23 6) _ gT') (fun jj ee y1 y2 => T_X9_actLine_26_200a _ _ _ _ _ _ _ _ ⟨fun c => absurd c (nI_m1 (by omega)), fun _ => ?_⟩) (fun ee nu' => T_X9_actLine_26_200a _ _ _ _ _ _ _ _ ⟨fun _ => ?_, fun c => absurd rfl c⟩)
          · refine failQ 3 hC h7 (show jj < M by omega) (by omega) hQ ?_ (by decide) (by decide)
            show eM5 D K V kd t (0, x) = _
            have : eM4 D K V kd t (0, x) = (3, nI jj) := by rw [e4a]; exact ee
            rw [eM5, this]; exact tkE_n (by decide)
          · refine S_stM (d := d + 29) h7 hH (fun r τ2 h8 w8 => T_X9_actLine_26_228a _ _ _ _ _ _ _ _ _ ?_)
            have e4 : eM4 D K V kd t (0, x) = (0, x) := by rw [e4a]; exact ee
            have sf := mgS_self h8.2.2
            have tt := S_testH (Γ := Γ) (d := d + 20 + 3) (σ := τ2) (Q := mRt Γ M_X9_actLine (d + 33) Q 60 0 0 233 [(0, .ref 26), (1, .int kd), (2, .int (nI (t + 1))), (3, .int 0), (4, .int (nI i)), (5, .int (nI j)), (6, .int (nm K V (t + 6) 10 5)), (7, .int 1), (8, .int (-1))] []) (fN_tM h8.1 hC) hF hE hM hE4 (gSg_le hE 6) (gSg_ge 6) (S_singleH (Γ := Γ) (fN_tM h8.1 hC) hF h8.2.1 w8 hE hM hE4 6 (by omega) (d + 3)) (nu K (t + 6) 10 + 1) (by omega) gT' (by rw [← ev]; exact nu') (T_X9_actLine_26_233a _ _ _ _ _ _ _ _ _ ?_)
            · rw [sf] at tt
              exact tt
            · rw [← ev]
              have := tail ([(0, .ref 26), (1, .int kd), (2, .int (nI (t + 1))), (3, .int 0), (4, .int (nI i)), (5, .int (nI j)), (6, .int (nm K V (t + 6) 10 5)), (7, .int (b01 (hM' D K V t))), (8, .int (-1))]) _ (fun q hq => List.mem_append_left _ hq) (mI_mv h8 (vM' K t)) e4
              rw [hM', if_pos q, hT] at this
              exact this
        · have ev : vM' K t = nu K (t + 6) 10 := by rw [vM', if_neg q]
          have e4 : eM4 D K V kd t (0, x) = (0, x) := by rw [eM4, if_neg q]; exact e3
          have := tail [(0, .ref 26), (1, .int kd), (2, .int (nI (t + 1))), (3, .int 0), (4, .int (nI i)), (5, .int (nI j)), (6, .int (nm K V (t + 6) 10 5)), (7, .int (b01 (hM' D K V t)))] _ (fun q hq => hq) (by rw [ev]; exact hu) e4
          rw [hM', if_neg q] at this
          exact this
      · rw [mgS_t]
        exact failQ 5 hC (mI_mv h (t + 6 + 1)) (show t + 6 + 1 < M by omega) (by omega) hQ (o3 (by decide) (e3a.trans e0)) (by decide) (by decide)
    rw [h.2.2, a5, a6, ej, nI_clamp (by omega), nI_clamp (by omega), mj.2.1, mi.2.1]
    refine ⟨fun k1' => ⟨vp_in_nI (by omega) (by omega), vp_in_nI (by omega) (by omega), fun eq => ?_, fun neq => ?_⟩, fun k1' => ?_⟩
    · exact failQ 6 hC h (show t + 5 < M by omega) (by omega) hQ (o2 (by decide) (by rw [e2a, fld_t ⟨k1', eq⟩]; rfl)) (by decide) (by decide)
    · exact go (by rw [e2a, fld_f (fun y => neq y.2)])
    · exact go (by rw [e2a, fld_f (fun y => k1' y.1)])
  · have n1 : nI n ≠ 0 := fun z => by have := (nI_eq (show n < 2 ^ 31 by omega) (by decide)).mp (z.trans nI_0.symm); omega
    exact hQ.2 n _ τ' _ (oN n1 eN1) n0 n8 (show t + 1 < M by omega) f' p' q' (by omega)

/-! ===== the model's lines, one after the other ===== -/
def mQf (Q : mQ) (σ : mS) (P : Nat → Nat) (M : Nat) (r : mDeb × gE) : Prop :=
  (r.2.1 = 0 → ∀ τ' t', mI σ τ' r.1 t' → Q (.inl (some (.int 0))) 60 mSH τ') ∧ ∀ (n : Nat) j τ', r.2 = (nI n, nI j) → 0 < n → n < 8 → j < M → fN1 σ τ' → τ'.1 26 1 = nI (P j) → Q (.inl (some (.int (nI n)))) 60 mSH τ'
theorem flz {p : Bool} {n : Int32} {t : Nat} {e : gE} (h : (fl p n t e).1 = 0) (hn : n ≠ 0) : fl p n t e = e := by rw [(fl_0 h hn).1, fl_f]
theorem nez {K : Nat → Nat} {V : Nat → Int64} {u k : Nat} {lo hi : Int32} {e : gE} (h : (ne K V u k lo hi e).1 = 0) : ne K V u k lo hi e = e := by
  rw [ne] at h ⊢
  by_cases q : K u = k
  · rw [if_pos q] at h ⊢; exact flz h (by decide)
  · rw [if_neg q]
theorem eUz {D : mDeb} {K : Nat → Nat} {V : Nat → Int64} : ∀ m a (e : gE), (eU D K V m a e).1 = 0 → eU D K V m a e = e
  | 0, _, _, _ => rfl
  | m + 1, a, e, h => by
    rw [eU] at h ⊢
    have := eUz m (a + 1) _ h
    rw [this] at h ⊢
    exact flz h (by decide)
/-- a line without an error leaves no error -/
theorem lnz {D : mDeb} {K : Nat → Nat} {V : Nat → Int64} {t : Nat} {e : gE} (h : (ln D K V t e).2.1 = 0) : (ln D K V t e).2 = e := by
  have n2 : ∀ {p q : Bool} {n m : Int32} {a b : Nat} {e : gE}, n ≠ 0 → m ≠ 0 → (fl p n a (fl q m b e)).1 = 0 → fl p n a (fl q m b e) = e := fun hn hm z => by
    have := flz z hn
    rw [this] at z ⊢; exact flz z hm
  have nN : ∀ {a : Nat} {e : gE}, (eN D V a e).1 = 0 → eN D V a e = e := fun z => n2 (by decide) (by decide) z
  have nM : ∀ kd, (lnM D K V kd t e).2.1 = 0 → (lnM D K V kd t e).2 = e := by
    intro kd z
    have z5 : (eM5 D K V kd t e).1 = 0 := z
    show eM5 D K V kd t e = e
    rw [eM5, tkE'] at z5 ⊢
    have q5 := flz z5 (by decide)
    rw [q5] at z5 ⊢
    have z3 : eM4 D K V kd t e = eM3 D K V kd t e := by
      rw [eM4] at z5 ⊢
      by_cases q : K (nu K (t + 6) 10) = 11
      · rw [if_pos q] at z5 ⊢; exact eUz _ _ _ z5
      · rw [if_neg q]
    rw [z3] at z5 ⊢
    rw [eM3] at z5 ⊢
    have q3 := nez z5
    rw [q3] at z5 ⊢
    rw [eM2] at z5 ⊢
    have q2 := n2 (by decide) (by decide) z5
    rw [q2] at z5 ⊢
    rw [eM1] at z5 ⊢
    have q1 := n2 (by decide) (by decide) z5
    rw [q1] at z5 ⊢
    exact nN z5
  rw [ln] at h ⊢
  by_cases k0 : K t = 0
  · rw [if_pos k0] at h ⊢
    have z : (eS D K V t e).1 = 0 := h
    show eS D K V t e = e
    rw [eS] at z ⊢
    have q := nez z
    rw [q] at z ⊢
    exact n2 (by decide) (by decide) z
  rw [if_neg k0] at h ⊢
  by_cases k2 : K t = 2
  · rw [if_pos k2] at h ⊢
    have z : (eC2 D K V t e).1 = 0 := h
    show eC2 D K V t e = e
    rw [eC2, tkE'] at z ⊢
    have q := flz z (by decide)
    rw [q] at z ⊢
    rw [eCl] at z ⊢
    have q := nez z
    rw [q] at z ⊢
    have q := flz z (by decide)
    rw [q] at z ⊢
    exact nN z
  rw [if_neg k2] at h ⊢
  by_cases k5 : K t = 5
  · rw [if_pos k5] at h ⊢; exact nM 1 h
  rw [if_neg k5] at h ⊢
  by_cases k6 : K t = 6
  · rw [if_pos k6] at h ⊢; exact nM 2 h
  rw [if_neg k6] at h ⊢
  have z : (eK2 D V (if K t = 12 then 1 else 0) t e).1 = 0 := h
  show eK2 D V (if K t = 12 then 1 else 0) t e = e
  rw [eK2, tkE'] at z ⊢
  have q := flz z (by decide)
  rw [q] at z ⊢
  exact n2 (by decide) (by decide) z
theorem L_mco {Γ : Nat × (Nat → Int32)} {d n0 bc bs : Nat} {Q : mQ} {σ : mS} {K P : Nat → Nat} {V : Nat → Int64} {M E : Nat} {x : Int32} (hC : tM σ K P V M) (hF : tF K V) (hN : tN K V) (hH : hM σ) (hE : gEnd K E) (hM : E < M) (hE4 : E ≤ 400) :
    ∀ m t D τ, 800 ≤ t + 2 * m → t ≤ E → (gTx K m (t, true)).2 = true → mI σ τ D t → mQf Q σ P M (CO K V m t D (0, x)) →
      mK Γ M_X9_carryOut (d + 34) Q n0 bc bs 7 [(0, .ref 26), (1, .int 0)] [] 60 mSH τ
  | 0, t, D, τ, hm, ht, hg, hI, hQ => by omega
  | m + 1, t, D, τ, hm, ht, hg, hI, hQ => by
    have hMM := hC.1
    have k28 := hC.2.1 t
    have hC' := fN_tM hI.1 hC
    have sf := mgS_self hI.2.2
    rw [CO] at hQ
    obtain ⟨e29, _, _⟩ := hC'.2.2.2 t (by omega)
    refine T_X9_carryOut_26_7 _ ?_
    rw [hI.2.2, nI_clamp (by omega), e29, srt_0 _ k28]
    refine ⟨vp_in_nI (by omega) (by omega), fun q => ?_, fun q => ⟨fun _ => ?_, fun c => absurd rfl c⟩⟩
    · rw [if_neg (fun z => z.2 q)] at hQ
      exact hQ.1 rfl τ t hI
    · rw [if_pos ⟨rfl, q⟩] at hQ
      obtain ⟨g1, g2, g3⟩ := gTx_ln hg q
      have le : (gLi K (t, true)).1 < E := lt_E hE g2 (by decide) (gLi_le (s := (t, true)) hE ht)
      have ge : t + 1 ≤ (gLi K (t, true)).1 := gLi_ge (t, true) g1
      -- behind the line
      have hq : ∀ (r : mDeb × gE), r = ln D K V t (0, x) → ∀ Q' : mQ, (∀ (y : Int32) (τ' : mS), mK Γ M_X9_carryOut (d + 34) Q n0 bc bs 7 [(0, .ref 26), (1, .int y)] [] 60 mSH (mPI τ' 26 10 ((τ'.1 26 10) + 1)) → Q' (.inl (some (.int y))) 60 mSH τ') → mQt Q' σ P M r (gLi K (t, true)).1 := by
        intro r er Q' hQ'
        subst er
        refine ⟨fun z τ' h' => hQ' 0 τ' ?_, fun n j τ' u ee n0' n8 hj f' p' q' hu => hQ' (nI n) τ' ?_⟩
        · rw [h'.2.2, nI_1]
          have := lnz z
          rw [this] at hQ
          exact L_mco hC hF hN hH hE hM hE4 m _ _ _ (by omega) (by omega) (by rw [← g3]; exact hg) (mI_mv h' _) hQ
        · have n1 : nI n ≠ 0 := fun z => by have := (nI_eq (show n < 2 ^ 31 by omega) (by decide)).mp (z.trans nI_0.symm); omega
          have eCO : CO K V m ((gLi K (t, true)).1 + 1) (ln D K V t (0, x)).1 (ln D K V t (0, x)).2 = ((ln D K V t (0, x)).1, (nI n, nI j)) := by
            rw [ee]
            cases m with
            | zero => rfl
            | succ m => rw [CO, if_neg (fun y => n1 y.1)]
          rw [eCO] at hQ
          rw [q', nI_1]
          have fin : Q (.inl (some (.int (nI n)))) 60 mSH (mPI τ' 26 10 (nI (u + 1))) := hQ.2 n j _ rfl n0' n8 hj (fN1_t f' (fN1_26 _ (.inr rfl) _)) (by rw [mPI_at, if_neg (by decide)]; exact p')
          refine T_X9_carryOut_26_7 _ ?_
          rw [mPI_at, if_pos rfl]
          exact ⟨vp_in_nI (by omega) (by omega), fun _ => fin, fun _ => ⟨fun c => absurd c n1, fun _ => fin⟩⟩
      have ak : ∀ (k : Nat) (pc : Nat) (st : List Value), k < 21 → (K t = k → mRt Γ M_X9_carryOut (d + 34) Q n0 bc bs pc [(0, .ref 26), (1, .int 0)] st (.inl (some (.int 1))) 60 mSH τ) → (K t ≠ k → mRt Γ M_X9_carryOut (d + 34) Q n0 bc bs pc [(0, .ref 26), (1, .int 0)] st (.inl (some (.int 0))) 60 mSH τ) → mCall Γ M_X9_is (d + 33) 0 0 [.ref 26, .ref (1200 + k)] 60 mSH τ (mRt Γ M_X9_carryOut (d + 34) Q n0 bc bs pc [(0, .ref 26), (1, .int 0)] st) := by
        intro k pc st hk h1 h0
        have := S_isM (Γ := Γ) (d := d + 27) (σ := τ) (Q := mRt Γ M_X9_carryOut (d + 34) Q n0 bc bs pc [(0, .ref 26), (1, .int 0)] st) k hC' hF (show t < M by omega) hk (fun q => by rw [sf]; exact h1 q) (fun q => by rw [sf]; exact h0 q)
        rw [sf] at this; exact this
      refine ak 0 29 [] (by decide) (fun k0 => T_X9_carryOut_26_29a _ _ ⟨fun c => absurd c one_ne, fun _ => ?_⟩) (fun k0 => T_X9_carryOut_26_29a _ _ ⟨fun _ => ?_, fun c => absurd rfl c⟩)
      · exact S_spM hC hF hN hE hM hE4 hI ht k0 g1 (hq _ (by rw [ln, if_pos k0]) _ (fun y τ' h' => T_X9_carryOut_26_36a _ _ h'))
      refine ak 2 46 [] (by decide) (fun k2 => T_X9_carryOut_26_46a _ _ ⟨fun c => absurd c one_ne, fun _ => ?_⟩) (fun k2 => T_X9_carryOut_26_46a _ _ ⟨fun _ => ?_, fun c => absurd rfl c⟩)
      · exact S_clM hC hF hN hE hM hE4 hI ht k2 g1 (hq _ (by rw [ln, if_neg k0, if_pos k2]) _ (fun y τ' h' => T_X9_carryOut_26_53a _ _ h'))
      refine ak 5 63 [] (by decide) (fun k5 => T_X9_carryOut_26_63a _ _ ⟨fun c => absurd c one_ne, fun _ => ?_⟩) (fun k5 => T_X9_carryOut_26_63a _ _ ⟨fun _ => ?_, fun c => absurd rfl c⟩)
      · obtain ⟨g5, ge'⟩ := gLi_5 k5 g1
        have ev : (gLi K (t, true)).1 = vM' K t := ge'.trans (gMv_g g5).2.2.2.2.2.2.2
        have := hq _ (show lnM D K V 1 t (0, x) = _ by rw [ln, if_neg k0, if_neg k2, if_pos k5]) (mRt Γ M_X9_carryOut (d + 34) Q n0 bc bs 71 [(0, .ref 26), (1, .int 0)] []) (fun y τ' h' => T_X9_carryOut_26_71a _ _ h')
        rw [ev] at this
        exact S_mvM (.inl rfl) hC hF hN hH hE hM hE4 (by decide) hI (lt_E hE k5 (by decide) ht) g5 (by rw [← ev]; exact g2) this
      refine ak 6 81 [] (by decide) (fun k6 => T_X9_carryOut_26_81a _ _ ⟨fun c => absurd c one_ne, fun _ => ?_⟩) (fun k6 => T_X9_carryOut_26_81a _ _ ⟨fun _ => ?_, fun c => absurd rfl c⟩)
      · obtain ⟨g5, ge'⟩ := gLi_6 k6 g1
        have ev : (gLi K (t, true)).1 = vM' K t := ge'.trans (gMv_g g5).2.2.2.2.2.2.2
        have := hq _ (show lnM D K V 2 t (0, x) = _ by rw [ln, if_neg k0, if_neg k2, if_neg k5, if_pos k6]) (mRt Γ M_X9_carryOut (d + 34) Q n0 bc bs 89 [(0, .ref 26), (1, .int 0)] []) (fun y τ' h' => T_X9_carryOut_26_89a _ _ h')
        rw [ev] at this
        exact S_mvM (.inr rfl) hC hF hN hH hE hM hE4 (by decide) hI (lt_E hE k6 (by decide) ht) g5 (by rw [← ev]; exact g2) this
      obtain ⟨kk, k24, ge'⟩ := gLi_k k0 k2 k5 k6 g1
      have lt : t < E := kk.elim (fun z => lt_E hE z (by decide) ht) (fun z => lt_E hE z (by decide) ht)
      refine ak 12 100 [.ref 26] (by decide) (fun k12 => T_X9_carryOut_26_100a _ _ ⟨fun c => absurd c one_ne, fun _ => ?_⟩) (fun k12 => T_X9_carryOut_26_100a _ _ ⟨fun _ => ?_, fun c => absurd rfl c⟩)
      · have := hq _ (show lnK D V 1 t (0, x) = _ by rw [ln, if_neg k0, if_neg k2, if_neg k5, if_neg k6, if_pos k12]) (mRt Γ M_X9_carryOut (d + 34) Q n0 bc bs 111 [(0, .ref 26), (1, .int 0)] []) (fun y τ' h' => T_X9_carryOut_26_111a _ _ h')
        rw [ge'] at this
        exact S_coM (.inr rfl) hC hE hM hE4 hI lt k24 this
      · have := hq _ (show lnK D V 0 t (0, x) = _ by rw [ln, if_neg k0, if_neg k2, if_neg k5, if_neg k6, if_neg k12]) (mRt Γ M_X9_carryOut (d + 34) Q n0 bc bs 111 [(0, .ref 26), (1, .int 0)] []) (fun y τ' h' => T_X9_carryOut_26_111a _ _ h')
        rw [ge'] at this
        exact S_coM (.inl rfl) hC hE hM hE4 hI lt k24 this
theorem S_mco {Γ : Nat × (Nat → Int32)} {d : Nat} {Q : mQ} {σ : mS} {K P : Nat → Nat} {V : Nat → Int64} {M E : Nat} {D : mDeb} {x : Int32} (hC : tM σ K P V M) (hF : tF K V) (hN : tN K V) (hH : hM σ) (hE : gEnd K E) (hM : E < M) (hE4 : E ≤ 400) (hD : mD σ D) (hg : (gTx K 400 (0, true)).2 = true)
    (hQ : mQf Q σ P M (CO K V 400 0 D (0, x))) : mCall Γ M_X9_carryOut (d + 34) 0 0 [.ref 26] 60 mSH σ Q :=
  E_X9_carryOut_26 (L_mco hC hF hN hH hE hM hE4 400 0 D _ (by omega) (Nat.zero_le _) hg ⟨fN_26 _ _, hD, by rw [mPI_at, if_pos rfl]; rfl⟩ hQ)
