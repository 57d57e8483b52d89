/-! ===== the model's debate changes so ===== -/
def fN (σ τ : mS) : Prop := (∀ a, a ≠ 26 → (a < 32 ∨ 41 < a) → (a < 54 ∨ 58 < a) → τ.1 a = σ.1 a) ∧ (∀ k, k ≠ 10 → τ.1 26 k = σ.1 26 k) ∧ (∀ a, (a < 32 ∨ 41 < a) → τ.2.1 a = σ.2.1 a) ∧ τ.2.2 = σ.2.2
/-- the same, but the place of an error -/
def fN1 (σ τ : mS) : Prop := (∀ a, a ≠ 26 → (a < 32 ∨ 41 < a) → (a < 54 ∨ 58 < a) → τ.1 a = σ.1 a) ∧ (∀ k, k ≠ 1 → k ≠ 10 → τ.1 26 k = σ.1 26 k) ∧ (∀ a, (a < 32 ∨ 41 < a) → τ.2.1 a = σ.2.1 a) ∧ τ.2.2 = σ.2.2
theorem fN_1 {σ τ : mS} (h : fN σ τ) : fN1 σ τ := ⟨h.1, fun k _ y => h.2.1 k y, h.2.2⟩
theorem fN_r (σ : mS) : fN σ σ := ⟨fun _ _ _ _ => rfl, fun _ _ => rfl, fun _ _ => rfl, rfl⟩
theorem fN_t {σ τ ρ : mS} (h : fN σ τ) (g : fN τ ρ) : fN σ ρ := ⟨fun a x y z => (g.1 a x y z).trans (h.1 a x y z), fun k x => (g.2.1 k x).trans (h.2.1 k x), fun a x => (g.2.2.1 a x).trans (h.2.2.1 a x), g.2.2.2.trans h.2.2.2⟩
theorem fN1_t {σ τ ρ : mS} (h : fN1 σ τ) (g : fN1 τ ρ) : fN1 σ ρ := ⟨fun a x y z => (g.1 a x y z).trans (h.1 a x y z), fun k x y => (g.2.1 k x y).trans (h.2.1 k x y), fun a x => (g.2.2.1 a x).trans (h.2.2.1 a x), g.2.2.2.trans h.2.2.2⟩
theorem fN_26 (σ : mS) (x : Int32) : fN σ (mPI σ 26 10 x) := ⟨fun a h _ _ => mPI_ne h, fun c h1 => by rw [mPI_at, if_neg h1], fun _ _ => rfl, rfl⟩
theorem fN1_26 (σ : mS) {k : Nat} (hk : k = 1 ∨ k = 10) (x : Int32) : fN1 σ (mPI σ 26 k x) := ⟨fun a h _ _ => mPI_ne h, fun c h1 h2 => by rw [mPI_at, if_neg (by omega)], fun _ _ => rfl, rfl⟩
theorem fN_I (σ : mS) {j : Nat} (hj : 32 ≤ j ∧ j ≤ 41) (k : Nat) (x : Int32) : fN σ (mPI σ j k x) := ⟨fun a h h1 _ => mPI_ne (by omega), fun c h1 => congrFun (mPI_ne (by omega)) c, fun _ _ => rfl, rfl⟩
theorem fN_L (σ : mS) {j : Nat} (hj : 32 ≤ j ∧ j ≤ 41) (k : Nat) (x : Int64) : fN σ (mPL σ j k x) := ⟨fun a h h1 _ => rfl, fun c h1 => rfl, fun a h => mU2_ne (by omega), rfl⟩
theorem fN_tM {σ τ : mS} (f : fN σ τ) {K P : Nat → Nat} {V : Nat → Int64} {M : Nat} (h : tM σ K P V M) : tM τ K P V M := by
  rw [tM, f.1 29 (by decide) (by decide) (by decide), f.1 30 (by decide) (by decide) (by decide), f.2.2.1 31 (by decide)]; exact h
def mD (σ : mS) (D : mDeb) : Prop := dV D ∧ DM σ = D
theorem mD_n {σ : mS} {D : mDeb} (h : mD σ D) : σ.1 32 3 = nI (dn D) := by obtain ⟨a, rfl⟩ := h; exact a.1
theorem mD_s {σ : mS} {D : mDeb} (h : mD σ D) : σ.1 32 0 = nI (ds D) := by obtain ⟨a, rfl⟩ := h; exact a.2.2.1
theorem mD_i {σ : mS} {D : mDeb} (h : mD σ D) {k : Nat} (hk : k < dn D) : σ.1 36 k = dk D k ∧ σ.1 37 k = db D k ∧ σ.1 38 k = dz D k ∧ σ.1 39 k = dr D k ∧ σ.1 40 k = dt D k ∧ σ.1 41 k = dc D k ∧ σ.2.1 35 k = dN D k := by
  obtain ⟨_, rfl⟩ := h
  obtain ⟨b1, b2, b3, b4, b5, b6, b7⟩ := of_i (n := σ.1 32 3) (s := σ.1 32 0) (kd := σ.1 36) (bt := σ.1 37) (sz := σ.1 38) (sr := σ.1 39) (tg := σ.1 40) (cd := σ.1 41) (tm := σ.1 34) (nm := σ.2.1 35) (sn := σ.2.1 33) hk
  exact ⟨b1.symm, b2.symm, b3.symm, b4.symm, b5.symm, b6.symm, b7.symm⟩
theorem mD_p {σ : mS} {D : mDeb} (h : mD σ D) {k : Nat} (hk : k < ds D) : σ.1 34 k = dm D k ∧ σ.2.1 33 k = dS D k := by
  obtain ⟨_, rfl⟩ := h
  obtain ⟨b1, b2⟩ := of_s (n := σ.1 32 3) (s := σ.1 32 0) (kd := σ.1 36) (bt := σ.1 37) (sz := σ.1 38) (sr := σ.1 39) (tg := σ.1 40) (cd := σ.1 41) (tm := σ.1 34) (nm := σ.2.1 35) (sn := σ.2.1 33) hk
  exact ⟨b1.symm, b2.symm⟩
theorem DM_of {σ : mS} {n s : Int32} {kd bt sz sr tg cd tm : Nat → Int32} {nm sn : Nat → Int64} (e1 : σ.1 32 3 = n) (e2 : σ.1 32 0 = s)
    (h : ∀ k, k < uN n → σ.1 36 k = kd k ∧ σ.1 37 k = bt k ∧ σ.1 38 k = sz k ∧ σ.1 39 k = sr k ∧ σ.1 40 k = tg k ∧ σ.1 41 k = cd k ∧ σ.2.1 35 k = nm k)
    (h2 : ∀ k, k < uN s → σ.1 34 k = tm k ∧ σ.2.1 33 k = sn k) : DM σ = mDebOf n s kd bt sz sr tg cd tm nm sn := by
  rw [DM, e1, e2]
  exact mDebOf_ext h h2
/-- the model at a token -/
def mI (σ τ : mS) (D : mDeb) (t : Nat) : Prop := fN σ τ ∧ mD τ D ∧ τ.1 26 10 = nI t
theorem mgS_self {τ : mS} {t : Nat} (h : τ.1 26 10 = nI t) : mgS τ t = τ := by
  refine mS_ext (fun a k => ?_) rfl
  rw [mgS, mPI_if]
  by_cases e : a = 26
  · subst e
    rw [if_pos rfl]
    by_cases q : k = 10
    · rw [if_pos q, q, h]
    · rw [if_neg q]
  · rw [if_neg e]
theorem mI_mv {σ τ : mS} {D : mDeb} {t : Nat} (h : mI σ τ D t) (t' : Nat) : mI σ (mgS τ t') D t' := ⟨fN_t h.1 (fN_26 _ _), h.2.1, mgS_t _ _⟩
theorem mI_ad {σ τ : mS} {D : mDeb} {t : Nat} (h : mI σ τ D t) (j : Nat) : mPI τ 26 10 (nI j) = mgS τ j := rfl
theorem M_addSp {σ τ : mS} {D : mDeb} {t : Nat} (h : mI σ τ D t) (hs : ds D < 6) (c : Int64) (tm : Int32) : mI σ (mPI (mPI (mPL τ 33 (ds D) c) 34 (ds D) tm) 32 0 (nI (ds D + 1))) (aS D c tm) t := by
  have h1 := h.2.1
  refine ⟨fN_t h.1 (fN_t (fN_t (fN_L _ (by decide) _ _) (fN_I _ (by decide) _ _)) (fN_I _ (by decide) _ _)), ⟨dV_aS h1.1 hs c tm, DM_of ?_ ?_ (fun k hk => ?_) (fun k hk => ?_)⟩, ?_⟩
  · simp only [mPI_if, mPL_1]; exact (mD_n h1).trans h1.1.1.symm
  · simp [mPI_if]
  · exact mD_i h1 hk
  · rw [uN_nI (by omega)] at hk
    simp only [mPI_if, mPL_1, mPI_2, mPL_if]
    simp only [pu]
    by_cases q : k = ds D
    · simp [q]
    · have := mD_p h1 (show k < ds D by omega)
      simp [q, this.1, this.2]
  · simp only [mPI_if, mPL_1]; exact h.2.2
theorem M_add {σ τ : mS} {D : mDeb} {t : Nat} (h : mI σ τ D t) (hn : dn D < 40) (c : Int64) {kd sp z sr tg : Int32} (hi : okI D kd sp z sr tg) : mI σ (g_X8_add_32 τ c kd sp z sr tg) (aI D c kd sp z sr tg) t := by
  have h1 := h.2.1
  have e5 := mD_n h1
  rw [g_X8_add_32, e5, nI_clamp (by omega)]
  refine ⟨fN_t h.1 ?_, ⟨dV_aI h1.1 hn c hi, DM_of ?_ ?_ (fun k hk => ?_) (fun k hk => ?_)⟩, ?_⟩
  · exact fN_t (fN_t (fN_t (fN_t (fN_t (fN_t (fN_t (fN_L _ (by decide) _ _) (fN_I _ (by decide) _ _)) (fN_I _ (by decide) _ _)) (fN_I _ (by decide) _ _)) (fN_I _ (by decide) _ _)) (fN_I _ (by decide) _ _)) (fN_I _ (by decide) _ _)) (fN_I _ (by decide) _ _)
  · simp [mPI_if, nI_1]
  · simp only [mPI_if, mPL_1]; exact (mD_s h1).trans h1.1.2.2.1.symm
  · rw [uN_nI (by omega)] at hk
    simp only [mPI_if, mPL_1, mPI_2, mPL_if, pu]
    by_cases q : k = dn D
    · rw [q]
      simp
    · obtain ⟨b1, b2, b3, b4, b5, b6, b7⟩ := mD_i h1 (show k < dn D by omega)
      simp [q, b1, b2, b3, b4, b5, b6, b7]
  · have hk : k < ds D := hk
    have := mD_p h1 hk
    simp only [mPI_if, mPL_1, mPI_2, mPL_if]
    simp [this.1, this.2]
  · simp only [mPI_if, mPL_1]; exact h.2.2
theorem M_tm {σ τ : mS} {D : mDeb} {t : Nat} (h : mI σ τ D t) (p : Nat) (x : Int32) : mI σ (mPI τ 34 p x) (aT D p x) t := by
  have h1 := h.2.1
  refine ⟨fN_t h.1 (fN_I _ (by decide) _ _), ⟨dV_aT h1.1 p _, DM_of ?_ ?_ (fun k hk => ?_) (fun k hk => ?_)⟩, ?_⟩
  · simp only [mPI_if]; exact (mD_n h1).trans h1.1.1.symm
  · simp only [mPI_if]; exact (mD_s h1).trans h1.1.2.2.1.symm
  · exact mD_i h1 hk
  · have hk : k < ds D := hk
    have := mD_p h1 hk
    simp only [mPI_if, mPI_2, pu]
    by_cases q : k = p
    · subst q; simp [this.2]
    · simp [q, this.1, this.2]
  · simp only [mPI_if]; exact h.2.2
theorem M_conc {σ τ : mS} {D : mDeb} {t : Nat} (h : mI σ τ D t) (i : Nat) {b : Int32} (hb : b = 0 ∨ b = 1) : mI σ (mPI τ 41 i b) (aC D i b) t := by
  have h1 := h.2.1
  refine ⟨fN_t h.1 (fN_I _ (by decide) _ _), ⟨dV_aC h1.1 i hb, DM_of ?_ ?_ (fun k hk => ?_) (fun k hk => ?_)⟩, ?_⟩
  · simp only [mPI_if]; exact (mD_n h1).trans h1.1.1.symm
  · simp only [mPI_if]; exact (mD_s h1).trans h1.1.2.2.1.symm
  · obtain ⟨b1, b2, b3, b4, b5, b6, b7⟩ := mD_i h1 hk
    simp only [mPI_if, mPI_2, pu]
    by_cases q : k = i
    · subst q; simp [b1, b2, b3, b4, b5, b7]
    · simp [q, b1, b2, b3, b4, b5, b6, b7]
  · exact mD_p h1 hk
  · simp only [mPI_if]; exact h.2.2
theorem mD_fi {τ : mS} {D : mDeb} (h : mD τ D) (c : Int64) : mFind (τ.2.1 35) c 0 (τ.1 32 3).toNatClampNeg = dF D c := by
  have h40 := h.1.2.1
  rw [mD_n h, nI_clamp (by omega)]
  exact mFind_congr _ _ (fun k _ hk => (mD_i h (by omega)).2.2.2.2.2.2)
theorem mD_fs {τ : mS} {D : mDeb} (h : mD τ D) (c : Int64) : mFind (τ.2.1 33) c 0 (τ.1 32 0).toNatClampNeg = dP D c := by
  have h6 := h.1.2.2.2.1
  rw [mD_s h, nI_clamp (by omega)]
  exact mFind_congr _ _ (fun k _ hk => (mD_p h (by omega)).2)
theorem S_itM {Γ : Nat × (Nat → Int32)} {d : Nat} {Q : mQ} {τ : mS} {D : mDeb} (c : Int64) (h : mD τ D) (hQ : Q (.inl (some (.int (dF D c)))) 60 mSH τ) : mCall Γ M_X8_itemOf (d + 1) 0 0 [.ref 32, .long c] 60 mSH τ Q :=
  S_X8_itemOf _ (by rw [mD_n h]; exact cnt_nI h.1.2.1) (by rw [mD_fi h]; exact hQ)
theorem S_sqM {Γ : Nat × (Nat → Int32)} {d : Nat} {Q : mQ} {τ : mS} {D : mDeb} (c : Int64) (h : mD τ D) (hQ : Q (.inl (some (.int (dP D c)))) 60 mSH τ) : mCall Γ M_X8_speakerOf (d + 1) 0 0 [.ref 32, .long c] 60 mSH τ Q :=
  S_X8_speakerOf _ (by rw [mD_s h]; exact cnt_nI h.1.2.2.2.1) (by rw [mD_fs h]; exact hQ)
/-- the value of a name or a number in the model's row -/
theorem tM_v {τ : mS} {K P : Nat → Nat} {V : Nat → Int64} {M i : Nat} (h : tM τ K P V M) (hi : i < M) (hk : K i = 24 ∨ K i = 25) : τ.2.1 31 i = V i := (h.2.2.2 i hi).2.2.1 (by omega)
theorem nI_2 (t : Nat) : nI t + 2 = nI (t + 2) := by rw [show (2 : Int32) = nI 2 by decide]; exact nI_add t 2
