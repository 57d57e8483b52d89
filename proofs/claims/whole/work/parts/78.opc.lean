/-! ===== the class's debate changes so ===== -/
/-- all but the debate, the standing and the teller is as it was -/
def fB (σ τ : mS) : Prop := (∀ a, (a < 5 ∨ 14 < a) → a ≠ 16 → a ≠ 17 → τ.1 a = σ.1 a) ∧ (∀ k, k ≠ 2 → k ≠ 10 → τ.1 5 k = σ.1 5 k) ∧ (∀ a, (a < 5 ∨ 14 < a) → a ≠ 16 → τ.2.1 a = σ.2.1 a) ∧ (∀ k, k ≠ 11 → τ.2.1 5 k = σ.2.1 5 k) ∧ τ.2.2 = σ.2.2
theorem fB_r (σ : mS) : fB σ σ := ⟨fun _ _ _ _ => rfl, fun _ _ _ => rfl, fun _ _ _ => rfl, fun _ _ => rfl, rfl⟩
theorem fB_t {σ τ ρ : mS} (h : fB σ τ) (g : fB τ ρ) : fB σ ρ := ⟨fun a x y z => (g.1 a x y z).trans (h.1 a x y z), fun k x y => (g.2.1 k x y).trans (h.2.1 k x y), fun a x y => (g.2.2.1 a x y).trans (h.2.2.1 a x y), fun k x => (g.2.2.2.1 k x).trans (h.2.2.2.1 k x), g.2.2.2.2.trans h.2.2.2.2⟩
theorem fB_tC {σ τ : mS} (f : fB σ τ) {K P : Nat → Nat} {V : Nat → Int64} {M : Nat} (h : tC σ K P V M) : tC τ K P V M := by
  rw [tC, f.1 20 (by decide) (by decide) (by decide), f.1 22 (by decide) (by decide) (by decide), f.2.2.1 23 (by decide) (by decide), f.2.2.2.2]; exact h
/-- the class's part of a debate D -/
def cD (σ : mS) (D : mDeb) : Prop := cV σ ∧ DC σ = D
theorem cD_n {σ : mS} {D : mDeb} (h : cD σ D) : σ.1 5 10 = nI (dn D) := by rw [← h.2]; exact cV_n h.1
theorem cD_s {σ : mS} {D : mDeb} (h : cD σ D) : σ.1 5 2 = nI (ds D) := by rw [← h.2]; exact cV_s h.1
theorem cD_V {σ : mS} {D : mDeb} (h : cD σ D) : dV D := by rw [← h.2]; exact h.1.1
theorem cD_i {σ : mS} {D : mDeb} (h : cD σ D) {k : Nat} (hk : k < dn D) : σ.1 9 k = dk D k ∧ σ.1 10 k = db D k ∧ σ.1 11 k = dz D k ∧ σ.1 12 k = dr D k ∧ σ.1 13 k = dt D k ∧ (if bB (σ.2.1 5 11) k = true then 1 else 0) = dc D k ∧ σ.2.1 8 k = dN D k := by
  obtain ⟨_, rfl⟩ := h
  obtain ⟨b1, b2, b3, b4, b5, b6, b7⟩ := of_i (n := σ.1 5 10) (s := σ.1 5 2) (kd := σ.1 9) (bt := σ.1 10) (sz := σ.1 11) (sr := σ.1 12) (tg := σ.1 13) (cd := fun k => if bB (σ.2.1 5 11) k = true then 1 else 0) (tm := σ.1 7) (nm := σ.2.1 8) (sn := σ.2.1 6) hk
  exact ⟨b1.symm, b2.symm, b3.symm, b4.symm, b5.symm, b6.symm, b7.symm⟩
theorem cD_p {σ : mS} {D : mDeb} (h : cD σ D) {k : Nat} (hk : k < ds D) : σ.1 7 k = dm D k ∧ σ.2.1 6 k = dS D k := by
  obtain ⟨_, rfl⟩ := h
  obtain ⟨b1, b2⟩ := of_s (n := σ.1 5 10) (s := σ.1 5 2) (kd := σ.1 9) (bt := σ.1 10) (sz := σ.1 11) (sr := σ.1 12) (tg := σ.1 13) (cd := fun k => if bB (σ.2.1 5 11) k = true then 1 else 0) (tm := σ.1 7) (nm := σ.2.1 8) (sn := σ.2.1 6) hk
  exact ⟨b1.symm, b2.symm⟩
/-- the strong attacks and what is behind the conceded ones -/
theorem cD_st {σ : mS} {D : mDeb} (h : cD σ D) : (∀ k, k < dn D → (σ.1 14 k = 0 ↔ dst D k = false)) ∧ ∀ k, dn D ≤ k → bB (σ.2.1 5 11) k = false := by
  obtain ⟨a, rfl⟩ := h; exact a.2
theorem cD_mk {σ : mS} {D : mDeb} (e : DC σ = D) (hV : dV D) (h : (∀ k, k < dn D → (σ.1 14 k = 0 ↔ dst D k = false)) ∧ ∀ k, dn D ≤ k → bB (σ.2.1 5 11) k = false) : cD σ D := by
  subst e; exact ⟨⟨hV, h⟩, rfl⟩
theorem DC_of {σ : mS} {n s : Int32} {kd bt sz sr tg cd tm : Nat → Int32} {nm sn : Nat → Int64} (e1 : σ.1 5 10 = n) (e2 : σ.1 5 2 = s)
    (h : ∀ k, k < uN n → σ.1 9 k = kd k ∧ σ.1 10 k = bt k ∧ σ.1 11 k = sz k ∧ σ.1 12 k = sr k ∧ σ.1 13 k = tg k ∧ (if bB (σ.2.1 5 11) k = true then (1 : Int32) else 0) = cd k ∧ σ.2.1 8 k = nm k)
    (h2 : ∀ k, k < uN s → σ.1 7 k = tm k ∧ σ.2.1 6 k = sn k) : DC σ = mDebOf n s kd bt sz sr tg cd tm nm sn := by
  rw [DC, e1, e2]
  exact mDebOf_ext h h2
theorem C_addSp {σ : mS} {D : mDeb} (h : cD σ D) (hs : ds D < 6) (c : Int64) (tm : Int32) : cD (g_X0_addSpeaker_5 σ c tm) (aS D c tm) ∧ fB σ (g_X0_addSpeaker_5 σ c tm) := by
  have e5 := cD_s h
  have e : g_X0_addSpeaker_5 σ c tm = mPI (mPI (mPL σ 6 (ds D) c) 7 (ds D) tm) 5 2 (nI (ds D + 1)) := by
    rw [g_X0_addSpeaker_5, e5, if_neg (nI_pos (by omega)), if_neg (by rw [i6]; exact nI_ge (by omega) (by omega)), nI_clamp (by omega), nI_1]
  rw [e]
  have st := cD_st h
  refine ⟨cD_mk ?_ (dV_aS (cD_V h) hs c tm) ⟨fun k hk => ?_, fun k hk => st.2 k hk⟩, ?_⟩
  · refine DC_of ?_ ?_ (fun k hk => ?_) (fun k hk => ?_)
    · simp only [mPI_if, mPL_1]; exact (cD_n h).trans (cD_V h).1.symm
    · simp [mPI_if]
    · exact cD_i h hk
    · rw [uN_nI (by omega)] at hk
      simp only [mPI_if, mPL_1, mPI_2, mPL_if]
      simp only [pu]
      by_cases q : k = ds D
      · simp [q]
      · have := cD_p h (show k < ds D by omega)
        simp [q, this.1, this.2]
  · have := st.1 k hk
    rw [dst_eq (cD_V h) (aS_ext (by omega) c tm) hk]
    exact this
  · refine ⟨fun a x _ _ => ?_, fun k x y => ?_, fun a x _ => ?_, fun k x => ?_, rfl⟩
    · rw [mPI_ne (by omega), mPI_ne (by omega)]; rfl
    · simp [mPI_if, x, mPL_1]
    · exact mU2_ne (by omega)
    · show (mPL σ 6 (ds D) c).2.1 5 k = _
      rw [mPL_if, if_neg (by decide)]
def cAdd (σ : mS) (n : Nat) (c : Int64) (kd sp z sr tg s : Int32) : mS := mPI (mPI (mPI (mPI (mPI (mPI (mPI (mPL σ 8 n c) 9 n kd) 10 n sp) 11 n z) 12 n sr) 13 n tg) 14 n s) 5 10 (nI n + 1)
theorem C_cAdd {σ : mS} {D : mDeb} (h : cD σ D) (hn : dn D < 40) (c : Int64) {kd sp z sr tg s : Int32} (hi : okI D kd sp z sr tg) (hs : s = 0 ↔ dst (aI D c kd sp z sr tg) (dn D) = false) : cD (cAdd σ (dn D) c kd sp z sr tg s) (aI D c kd sp z sr tg) ∧ fB σ (cAdd σ (dn D) c kd sp z sr tg s) := by
  have e5 := cD_n h
  have st := cD_st h
  have en := dn_aI (D := D) (by omega) c kd sp z sr tg
  rw [cAdd]
  refine ⟨cD_mk ?_ (dV_aI (cD_V h) hn c hi) ⟨fun k hk => ?_, fun k hk => ?_⟩, ?_⟩
  · refine DC_of ?_ ?_ (fun k hk => ?_) (fun k hk => ?_)
    · simp [mPI_if, nI_1]
    · simp only [mPI_if, mPL_1]; exact (cD_s h).trans (cD_V h).2.2.1.symm
    · rw [uN_nI (by omega)] at hk
      simp only [mPI_if, mPL_1, mPI_2, mPL_if, pu]
      by_cases q : k = dn D
      · have := st.2 k (by omega)
        rw [q] at this ⊢
        simp [this]
      · obtain ⟨b1, b2, b3, b4, b5, b6, b7⟩ := cD_i h (show k < dn D by omega)
        simp only [q, if_false, if_true, b1, b2, b3, b4, b5, b7, reduceCtorEq, Nat.reduceEqDiff, and_self, true_and, and_true]
        exact b6
    · have hk : k < ds D := hk
      have := cD_p h hk
      simp only [mPI_if, mPL_1, mPI_2, mPL_if]
      simp [this.1, this.2]
  · rw [en] at hk
    simp only [mPI_if, mPL_1]
    by_cases q : k = dn D
    · subst q; simpa using hs
    · rw [dst_eq (cD_V h) (aI_ext (by omega) c kd sp z sr tg) (show k < dn D by omega)]
      have := st.1 k (by omega)
      simpa [q] using this
  · rw [en] at hk
    exact st.2 k (by omega)
  · refine ⟨fun a x _ _ => ?_, fun k x y => ?_, fun a x _ => ?_, fun k x => ?_, rfl⟩
    · rw [mPI_ne (by omega), mPI_ne (by omega), mPI_ne (by omega), mPI_ne (by omega), mPI_ne (by omega), mPI_ne (by omega), mPI_ne (by omega)]; rfl
    · simp [mPI_if, y, mPL_1]
    · exact mU2_ne (by omega)
    · show (mPL σ 8 (dn D) c).2.1 5 k = _
      rw [mPL_if, if_neg (by decide)]
theorem C_addIt {σ : mS} {D : mDeb} (h : cD σ D) (hn : dn D < 40) (c : Int64) {kd sp z sr tg : Int32} (hi : okI D kd sp z sr tg) : cD (g_X0_addItem_5 σ c kd sp z sr tg) (aI D c kd sp z sr tg) ∧ fB σ (g_X0_addItem_5 σ c kd sp z sr tg) := by
  have e5 := cD_n h
  obtain ⟨b1, b2, b3, b4, b5, b6, b7⟩ := aI_i (D := D) (by omega) c kd sp z sr tg (Nat.le_refl (dn D))
  rw [pu, if_pos rfl] at b1 b2 b3 b4 b5
  rw [g_X0_addItem_5, e5, if_neg (nI_pos (by omega)), if_neg (by rw [i40]; exact nI_ge (by omega) (by omega)), nI_clamp (by omega)]
  by_cases k1 : kd = 1
  · rw [if_pos k1]
    obtain ⟨j, hj, ej⟩ : ∃ j, j < dn D ∧ tg = nI j := by
      rcases hi.2.2 with q | q
      · rw [q.1] at k1; exact absurd k1 (by decide)
      · exact q.2.2
    subst ej
    have x := aI_ext (D := D) (by omega) c kd sp z sr (nI j)
    have lf : f_X0_leastForceOn_5 (mPI (mPI (mPI (mPI (mPI (mPL σ 8 (dn D) c) 9 (dn D) kd) 10 (dn D) sp) 11 (dn D) z) 12 (dn D) sr) 13 (dn D) (nI j)) (nI j) = dLeast D j := by
      have := c_least h.1 (k := j) (by rw [h.2]; exact hj)
      rw [h.2] at this
      rw [← this]
      have jn : j ≠ dn D := by omega
      simp only [f_X0_leastForceOn_5, f_X0_kindOf_5, f_X0_strengthOf_5, f_X0_hasItem_5, mPI_if, mPL_1, nI_clamp (show j < 2 ^ 31 by omega)]
      simp [jn]
    rw [lf]
    have ds1 : dst (aI D c kd sp z sr (nI j)) (dn D) = decide (dLeast D j ≤ z) := by
      rw [dst, b1, b3, b5, uN_nI (by omega), dLeast, dLeast, (x.2.2.1 j hj).1, (x.2.2.1 j hj).2.2.1]
      simp [k1]
    by_cases l : z < dLeast D j
    · rw [if_pos l]
      refine C_cAdd h hn c hi ⟨fun _ => ?_, fun _ => by decide⟩
      rw [ds1, decide_eq_false_iff_not]; exact fun q => absurd l (Int32.not_lt.mpr q)
    · rw [if_neg l]
      refine C_cAdd h hn c hi ⟨fun q => absurd q (by decide), fun q => ?_⟩
      rw [ds1, decide_eq_false_iff_not] at q; exact absurd (Int32.not_lt.mp l) q
  · rw [if_neg k1]
    refine C_cAdd h hn c hi ⟨fun _ => ?_, fun _ => by decide⟩
    rw [dst, b1, decide_eq_false_iff_not]; exact fun q => k1 q.1
theorem C_time {σ : mS} {D : mDeb} (h : cD σ D) {p : Nat} (hp : p < ds D) (x : Int32) : cD (g_X0_addTime_5 σ (nI p) (-x)) (aT D p (dm D p - x)) ∧ fB σ (g_X0_addTime_5 σ (nI p) (-x)) := by
  have h6 := (cD_V h).2.2.2.1
  have e : g_X0_addTime_5 σ (nI p) (-x) = mPI σ 7 p (dm D p - x) := by
    rw [g_X0_addTime_5, c_hasSp1 h.1 (by rw [h.2]; exact hp), if_neg (by decide), nI_clamp (by omega), (cD_p h hp).1, Int32.sub_eq_add_neg]
  rw [e]
  have st := cD_st h
  refine ⟨cD_mk ?_ (dV_aT (cD_V h) p _) ⟨fun k hk => ?_, fun k hk => st.2 k hk⟩, ?_⟩
  · refine DC_of ?_ ?_ (fun k hk => ?_) (fun k hk => ?_)
    · simp only [mPI_if]; exact (cD_n h).trans (cD_V h).1.symm
    · simp only [mPI_if]; exact (cD_s h).trans (cD_V h).2.2.1.symm
    · exact cD_i h hk
    · have hk : k < ds D := hk
      have := cD_p h hk
      simp only [mPI_if, mPI_2, pu]
      by_cases q : k = p
      · subst q; simp [this.2]
      · simp [q, this.1, this.2]
  · rw [dst_eq (cD_V h) (aT_ext D p _) hk]
    exact st.1 k hk
  · exact ⟨fun a x _ _ => mPI_ne (by omega), fun k x y => by simp [mPI_if], fun a x _ => rfl, fun k x => rfl, rfl⟩
theorem C_conc {σ : mS} {D : mDeb} (h : cD σ D) {i : Nat} (hi : i < dn D) {b : Int32} (hb : b = 0 ∨ b = 1) : cD (g_X0_setConceded_5 σ (nI i) b) (aC D i b) ∧ fB σ (g_X0_setConceded_5 σ (nI i) b) := by
  have h40 := (cD_V h).2.1
  have bt : ∀ k, bB (f_X7_bit σ (nI i)) k = decide (k = i) := bB_bit σ (by omega)
  have e : ∃ w, g_X0_setConceded_5 σ (nI i) b = mPL σ 5 11 w ∧ ∀ k, bB w k = (if k = i then decide (b = 1) else bB (σ.2.1 5 11) k) := by
    rw [g_X0_setConceded_5, c_hasItem h.1 (by rw [h.2]; exact hi), if_neg (by decide)]
    rcases hb with q | q
    · rw [if_pos q]
      refine ⟨_, rfl, fun k => ?_⟩
      subst q
      rw [bB_and]
      by_cases k64 : k < 64
      · rw [bB_not _ k64, bt]
        by_cases w : k = i <;> simp [w]
      · rw [bB_ge _ (show 64 ≤ k by omega), if_neg (by omega)]; rfl
    · rw [if_neg (by rw [q]; decide)]
      refine ⟨_, rfl, fun k => ?_⟩
      subst q
      rw [bB_or, bt]
      by_cases w : k = i <;> simp [w]
  obtain ⟨w, e, hw⟩ := e
  rw [e]
  have st := cD_st h
  refine ⟨cD_mk ?_ (dV_aC (cD_V h) i hb) ⟨fun k hk => ?_, fun k hk => ?_⟩, ?_⟩
  · refine DC_of ?_ ?_ (fun k hk => ?_) (fun k hk => ?_)
    · exact (cD_n h).trans (cD_V h).1.symm
    · exact (cD_s h).trans (cD_V h).2.2.1.symm
    · obtain ⟨b1, b2, b3, b4, b5, b6, b7⟩ := cD_i h hk
      simp only [mPL_1, mPL_if, pu]
      refine ⟨b1, b2, b3, b4, b5, ?_, by simpa using b7⟩
      simp only [if_true, hw]
      by_cases q : k = i
      · rw [if_pos q, if_pos q]
        rcases hb with r | r <;> rw [r] <;> decide
      · rw [if_neg q, if_neg q]; exact b6
    · have := cD_p h hk
      simp only [mPL_1, mPL_if]
      exact ⟨this.1, by simpa using this.2⟩
  · rw [dst_eq (cD_V h) (aC_ext D i b) hk]
    exact st.1 k hk
  · have hk : dn D ≤ k := hk
    simp only [mPL_if, if_true]
    rw [hw, if_neg (by omega)]
    exact st.2 k hk
  · refine ⟨fun a x _ _ => rfl, fun k x y => rfl, fun a x _ => mU2_ne (by omega), fun k x => ?_, rfl⟩
    rw [mPL_if, if_pos rfl, if_neg x]
