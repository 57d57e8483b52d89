/-! ===== what a line does to a debate, as numbers ===== -/
theorem mPI_if (σ : mS) (j k : Nat) (x : Int32) (a c : Nat) : (mPI σ j k x).1 a c = if a = j then (if c = k then x else σ.1 a c) else σ.1 a c := by
  by_cases e : a = j
  · subst e; rw [if_pos rfl, mPI_at]
  · rw [if_neg e, mPI_ne e]
theorem mPL_if (σ : mS) (j k : Nat) (x : Int64) (a c : Nat) : (mPL σ j k x).2.1 a c = if a = j then (if c = k then x else σ.2.1 a c) else σ.2.1 a c := by
  by_cases e : a = j
  · subst e; rw [if_pos rfl, mPL_at]
  · rw [if_neg e]; exact congrFun (mU2_ne e) c
theorem mPL_1 (σ : mS) (j k : Nat) (x : Int64) : (mPL σ j k x).1 = σ.1 := rfl
theorem mPI_2 (σ : mS) (j k : Nat) (x : Int32) : (mPI σ j k x).2 = σ.2 := rfl
theorem mPL_22 (σ : mS) (j k : Nat) (x : Int64) : (mPL σ j k x).2.2 = σ.2.2 := rfl
def pu {α : Type} (f : Nat → α) (n : Nat) (x : α) : Nat → α := fun k => if k = n then x else f k
theorem mDebOf_ext {n s : Int32} {kd bt sz sr tg cd tm kd' bt' sz' sr' tg' cd' tm' : Nat → Int32} {nm sn nm' sn' : Nat → Int64}
    (h : ∀ k, k < uN n → kd k = kd' k ∧ bt k = bt' k ∧ sz k = sz' k ∧ sr k = sr' k ∧ tg k = tg' k ∧ cd k = cd' k ∧ nm k = nm' k)
    (h2 : ∀ k, k < uN s → tm k = tm' k ∧ sn k = sn' k) : mDebOf n s kd bt sz sr tg cd tm nm sn = mDebOf n s kd' bt' sz' sr' tg' cd' tm' nm' sn' := by
  have e : ∀ (m : Nat) (f g : Nat → Int32), (∀ k, k < m → f k = g k) → mkI m f = mkI m g := fun m f g q => funext fun k => by
    rw [mkI, mkI]; by_cases w : k < m
    · rw [if_pos w, if_pos w, q k w]
    · rw [if_neg w, if_neg w]
  have e2 : ∀ (m : Nat) (f g : Nat → Int64), (∀ k, k < m → f k = g k) → mkL m f = mkL m g := fun m f g q => funext fun k => by
    rw [mkL, mkL]; by_cases w : k < m
    · rw [if_pos w, if_pos w, q k w]
    · rw [if_neg w, if_neg w]
  unfold mDebOf
  rw [e _ kd kd' (fun k w => (h k w).1), e _ bt bt' (fun k w => (h k w).2.1), e _ sz sz' (fun k w => (h k w).2.2.1), e _ sr sr' (fun k w => (h k w).2.2.2.1), e _ tg tg' (fun k w => (h k w).2.2.2.2.1), e _ cd cd' (fun k w => (h k w).2.2.2.2.2.1), e _ tm tm' (fun k w => (h2 k w).1), e2 _ nm nm' (fun k w => (h k w).2.2.2.2.2.2), e2 _ sn sn' (fun k w => (h2 k w).2)]
def aS (D : mDeb) (c : Int64) (tm : Int32) : mDeb := mDebOf (D.1 0 0) (nI (ds D + 1)) (dk D) (db D) (dz D) (dr D) (dt D) (dc D) (pu (dm D) (ds D) tm) (dN D) (pu (dS D) (ds D) c)
def aI (D : mDeb) (c : Int64) (kd sp z sr tg : Int32) : mDeb := mDebOf (nI (dn D + 1)) (D.1 1 0) (pu (dk D) (dn D) kd) (pu (db D) (dn D) sp) (pu (dz D) (dn D) z) (pu (dr D) (dn D) sr) (pu (dt D) (dn D) tg) (pu (dc D) (dn D) 0) (dm D) (pu (dN D) (dn D) c) (dS D)
def aC (D : mDeb) (i : Nat) (b : Int32) : mDeb := mDebOf (D.1 0 0) (D.1 1 0) (dk D) (db D) (dz D) (dr D) (dt D) (pu (dc D) i b) (dm D) (dN D) (dS D)
def aT (D : mDeb) (p : Nat) (x : Int32) : mDeb := mDebOf (D.1 0 0) (D.1 1 0) (dk D) (db D) (dz D) (dr D) (dt D) (dc D) (pu (dm D) p x) (dN D) (dS D)
theorem mk_in {n k : Nat} (h : k < n) (f : Nat → Int32) : mkI n f k = f k := if_pos h
theorem mk_inL {n k : Nat} (h : k < n) (f : Nat → Int64) : mkL n f k = f k := if_pos h
/-- what is in a debate of this shape -/
theorem of_i {n s : Int32} {kd bt sz sr tg cd tm : Nat → Int32} {nm sn : Nat → Int64} {k : Nat} (h : k < uN n) : dk (mDebOf n s kd bt sz sr tg cd tm nm sn) k = kd k ∧ db (mDebOf n s kd bt sz sr tg cd tm nm sn) k = bt k ∧ dz (mDebOf n s kd bt sz sr tg cd tm nm sn) k = sz k ∧ dr (mDebOf n s kd bt sz sr tg cd tm nm sn) k = sr k ∧ dt (mDebOf n s kd bt sz sr tg cd tm nm sn) k = tg k ∧ dc (mDebOf n s kd bt sz sr tg cd tm nm sn) k = cd k ∧ dN (mDebOf n s kd bt sz sr tg cd tm nm sn) k = nm k :=
  ⟨mk_in h kd, mk_in h bt, mk_in h sz, mk_in h sr, mk_in h tg, mk_in h cd, mk_inL h nm⟩
theorem of_s {n s : Int32} {kd bt sz sr tg cd tm : Nat → Int32} {nm sn : Nat → Int64} {k : Nat} (h : k < uN s) : dm (mDebOf n s kd bt sz sr tg cd tm nm sn) k = tm k ∧ dS (mDebOf n s kd bt sz sr tg cd tm nm sn) k = sn k := ⟨mk_in h tm, mk_inL h sn⟩
/-- speakers and items are only ever added -/
def ext (D D' : mDeb) : Prop := dn D ≤ dn D' ∧ ds D ≤ ds D' ∧ (∀ k, k < dn D → dk D' k = dk D k ∧ db D' k = db D k ∧ dz D' k = dz D k ∧ dr D' k = dr D k ∧ dt D' k = dt D k ∧ dN D' k = dN D k) ∧ ∀ k, k < ds D → dS D' k = dS D k
theorem ext_r (D : mDeb) : ext D D := ⟨Nat.le_refl _, Nat.le_refl _, fun _ _ => ⟨rfl, rfl, rfl, rfl, rfl, rfl⟩, fun _ _ => rfl⟩
theorem ext_t {A B C : mDeb} (h : ext A B) (g : ext B C) : ext A C :=
  ⟨Nat.le_trans h.1 g.1, Nat.le_trans h.2.1 g.2.1, fun k hk => by
    obtain ⟨a1, a2, a3, a4, a5, a6⟩ := h.2.2.1 k hk
    obtain ⟨b1, b2, b3, b4, b5, b6⟩ := g.2.2.1 k (Nat.lt_of_lt_of_le hk h.1)
    exact ⟨b1.trans a1, b2.trans a2, b3.trans a3, b4.trans a4, b5.trans a5, b6.trans a6⟩, fun k hk => (g.2.2.2 k (Nat.lt_of_lt_of_le hk h.2.1)).trans (h.2.2.2 k hk)⟩
theorem dst_eq {D D' : mDeb} (hD : dV D) (h : ext D D') {k : Nat} (hk : k < dn D) : dst D' k = dst D k := by
  obtain ⟨a1, a2, a3, a4, a5, a6⟩ := h.2.2.1 k hk
  rw [dst, dst, a1, a3, a5]
  rcases (hD.2.2.2.2 k hk).2.2.2 with q | ⟨_, _, j, hj, e⟩
  · rw [q.1]; simp
  · have h40 := hD.2.1
    obtain ⟨b1, b2, b3, b4, b5, b6⟩ := h.2.2.1 j (by omega)
    rw [e, uN_nI (by omega), dLeast, dLeast, b1, b3]
theorem dn_aS (D : mDeb) (c : Int64) (tm : Int32) : dn (aS D c tm) = dn D := rfl
theorem ds_aS {D : mDeb} (h : ds D ≤ 6) (c : Int64) (tm : Int32) : ds (aS D c tm) = ds D + 1 := uN_nI (by omega)
theorem aS_ext {D : mDeb} (h : ds D ≤ 6) (c : Int64) (tm : Int32) : ext D (aS D c tm) := by
  refine ⟨Nat.le_refl _, by rw [ds_aS h]; omega, fun k hk => ?_, fun k hk => ?_⟩
  · obtain ⟨b1, b2, b3, b4, b5, b6, b7⟩ := of_i (n := D.1 0 0) (s := nI (ds D + 1)) (kd := dk D) (bt := db D) (sz := dz D) (sr := dr D) (tg := dt D) (cd := dc D) (tm := pu (dm D) (ds D) tm) (nm := dN D) (sn := pu (dS D) (ds D) c) hk
    exact ⟨b1, b2, b3, b4, b5, b7⟩
  · have := (of_s (n := D.1 0 0) (s := nI (ds D + 1)) (kd := dk D) (bt := db D) (sz := dz D) (sr := dr D) (tg := dt D) (cd := dc D) (tm := pu (dm D) (ds D) tm) (nm := dN D) (sn := pu (dS D) (ds D) c) (k := k) (by rw [uN_nI (by omega)]; omega)).2
    rw [aS, this, pu, if_neg (by omega)]
theorem dV_aS {D : mDeb} (h : dV D) (hs : ds D < 6) (c : Int64) (tm : Int32) : dV (aS D c tm) := by
  have e := ds_aS (D := D) (by omega) c tm
  refine ⟨h.1, h.2.1, by rw [e]; rfl, by omega, fun k hk => ?_⟩
  have hk : k < dn D := hk
  obtain ⟨b1, b2, b3, b4, b5, b6⟩ := (aS_ext (by omega) c tm).2.2.1 k hk
  have b7 : dc (aS D c tm) k = dc D k := (of_i (n := D.1 0 0) (s := nI (ds D + 1)) (kd := dk D) (bt := db D) (sz := dz D) (sr := dr D) (tg := dt D) (cd := dc D) (tm := pu (dm D) (ds D) tm) (nm := dN D) (sn := pu (dS D) (ds D) c) hk).2.2.2.2.2.1
  obtain ⟨⟨j, hj, i1⟩, i2, i3, i4⟩ := h.2.2.2.2 k hk
  rw [dI, e, b1, b2, b3, b4, b5, b7]
  refine ⟨⟨j, by omega, i1⟩, i2, i3, ?_⟩
  rcases i4 with q | ⟨q1, ⟨i, hi, q2, q3⟩, q4⟩
  · exact .inl q
  · exact .inr ⟨q1, ⟨i, hi, q2, by rw [((aS_ext (by omega) c tm).2.2.1 i (by omega)).1]; exact q3⟩, q4⟩
theorem dn_aI {D : mDeb} (h : dn D ≤ 40) (c : Int64) (kd sp z sr tg : Int32) : dn (aI D c kd sp z sr tg) = dn D + 1 := uN_nI (by omega)
theorem ds_aI (D : mDeb) (c : Int64) (kd sp z sr tg : Int32) : ds (aI D c kd sp z sr tg) = ds D := rfl
theorem aI_i {D : mDeb} (h : dn D ≤ 40) (c : Int64) (kd sp z sr tg : Int32) {k : Nat} (hk : k ≤ dn D) : dk (aI D c kd sp z sr tg) k = pu (dk D) (dn D) kd k ∧ db (aI D c kd sp z sr tg) k = pu (db D) (dn D) sp k ∧ dz (aI D c kd sp z sr tg) k = pu (dz D) (dn D) z k ∧ dr (aI D c kd sp z sr tg) k = pu (dr D) (dn D) sr k ∧ dt (aI D c kd sp z sr tg) k = pu (dt D) (dn D) tg k ∧ dc (aI D c kd sp z sr tg) k = pu (dc D) (dn D) 0 k ∧ dN (aI D c kd sp z sr tg) k = pu (dN D) (dn D) c k :=
  of_i (by rw [uN_nI (by omega)]; omega)
theorem aI_ext {D : mDeb} (h : dn D ≤ 40) (c : Int64) (kd sp z sr tg : Int32) : ext D (aI D c kd sp z sr tg) := by
  refine ⟨by rw [dn_aI h]; omega, Nat.le_refl _, fun k hk => ?_, fun k hk => (of_s (n := nI (dn D + 1)) (s := D.1 1 0) (kd := pu (dk D) (dn D) kd) (bt := pu (db D) (dn D) sp) (sz := pu (dz D) (dn D) z) (sr := pu (dr D) (dn D) sr) (tg := pu (dt D) (dn D) tg) (cd := pu (dc D) (dn D) 0) (tm := dm D) (nm := pu (dN D) (dn D) c) (sn := dS D) hk).2⟩
  obtain ⟨b1, b2, b3, b4, b5, b6, b7⟩ := aI_i h c kd sp z sr tg (show k ≤ dn D by omega)
  have ne : k ≠ dn D := by omega
  rw [b1, b2, b3, b4, b5, b7]
  simp only [pu, if_neg ne]
  exact ⟨trivial, trivial, trivial, trivial, trivial, trivial⟩
def okI (D : mDeb) (kd sp z sr tg : Int32) : Prop := (∃ j, j < ds D ∧ sp = nI j) ∧ (∃ y, 1 ≤ y ∧ y ≤ 50 ∧ z = nI y) ∧ ((kd = 0 ∧ sr = -1 ∧ tg = -1) ∨ ((kd = 1 ∨ kd = 2) ∧ (∃ i, i < dn D ∧ sr = nI i ∧ dk D i = 0) ∧ ∃ j, j < dn D ∧ tg = nI j))
theorem dV_aI {D : mDeb} (h : dV D) (hn : dn D < 40) (c : Int64) {kd sp z sr tg : Int32} (hi : okI D kd sp z sr tg) : dV (aI D c kd sp z sr tg) := by
  have e := dn_aI (D := D) (by omega) c kd sp z sr tg
  have x := aI_ext (D := D) (by omega) c kd sp z sr tg
  refine ⟨by rw [e]; rfl, by omega, h.2.2.1, h.2.2.2.1, fun k hk => ?_⟩
  rw [e] at hk
  obtain ⟨b1, b2, b3, b4, b5, b6, b7⟩ := aI_i (show dn D ≤ 40 by omega) c kd sp z sr tg (show k ≤ dn D by omega)
  rw [dI, b1, b2, b3, b4, b5, b6, ds_aI]
  simp only [pu]
  by_cases q : k = dn D
  · simp only [if_pos q]
    obtain ⟨i1, i2, i3⟩ := hi
    refine ⟨i1, i2, .inl trivial, ?_⟩
    rcases i3 with y | ⟨y1, ⟨i, hi, y2, y3⟩, j, hj, y4⟩
    · exact .inl y
    · exact .inr ⟨y1, ⟨i, by omega, y2, by rw [(x.2.2.1 i hi).1]; exact y3⟩, j, by omega, y4⟩
  · simp only [if_neg q]
    obtain ⟨i1, i2, i3, i4⟩ := h.2.2.2.2 k (by omega)
    refine ⟨i1, i2, i3, ?_⟩
    rcases i4 with y | ⟨y1, ⟨i, hi, y2, y3⟩, y4⟩
    · exact .inl y
    · exact .inr ⟨y1, ⟨i, hi, y2, by rw [(x.2.2.1 i (by omega)).1]; exact y3⟩, y4⟩
theorem aT_i (D : mDeb) (p : Nat) (x : Int32) {k : Nat} (hk : k < dn D) : dk (aT D p x) k = dk D k ∧ db (aT D p x) k = db D k ∧ dz (aT D p x) k = dz D k ∧ dr (aT D p x) k = dr D k ∧ dt (aT D p x) k = dt D k ∧ dc (aT D p x) k = dc D k ∧ dN (aT D p x) k = dN D k := of_i hk
theorem aT_ext (D : mDeb) (p : Nat) (x : Int32) : ext D (aT D p x) := by
  refine ⟨Nat.le_refl _, Nat.le_refl _, fun k hk => ?_, fun k hk => (of_s (n := D.1 0 0) (s := D.1 1 0) (kd := dk D) (bt := db D) (sz := dz D) (sr := dr D) (tg := dt D) (cd := dc D) (tm := pu (dm D) p x) (nm := dN D) (sn := dS D) hk).2⟩
  obtain ⟨b1, b2, b3, b4, b5, b6, b7⟩ := aT_i D p x hk
  exact ⟨b1, b2, b3, b4, b5, b7⟩
theorem aC_i (D : mDeb) (i : Nat) (x : Int32) {k : Nat} (hk : k < dn D) : dk (aC D i x) k = dk D k ∧ db (aC D i x) k = db D k ∧ dz (aC D i x) k = dz D k ∧ dr (aC D i x) k = dr D k ∧ dt (aC D i x) k = dt D k ∧ dc (aC D i x) k = pu (dc D) i x k ∧ dN (aC D i x) k = dN D k := of_i hk
theorem aC_ext (D : mDeb) (i : Nat) (x : Int32) : ext D (aC D i x) := by
  refine ⟨Nat.le_refl _, Nat.le_refl _, fun k hk => ?_, fun k hk => (of_s (n := D.1 0 0) (s := D.1 1 0) (kd := dk D) (bt := db D) (sz := dz D) (sr := dr D) (tg := dt D) (cd := pu (dc D) i x) (tm := dm D) (nm := dN D) (sn := dS D) hk).2⟩
  obtain ⟨b1, b2, b3, b4, b5, b6, b7⟩ := aC_i D i x hk
  exact ⟨b1, b2, b3, b4, b5, b7⟩
/-- the same items but what is conceded -/
theorem dV_same {D D' : mDeb} (h : dV D) (x : ext D D') (e0 : D'.1 0 0 = D.1 0 0) (e1 : D'.1 1 0 = D.1 1 0) (hc : ∀ k, k < dn D → dc D' k = 0 ∨ dc D' k = 1) : dV D' := by
  have en : dn D' = dn D := by rw [dn, dn, e0]
  have es : ds D' = ds D := by rw [ds, ds, e1]
  refine ⟨by rw [e0, en]; exact h.1, by rw [en]; exact h.2.1, by rw [e1, es]; exact h.2.2.1, by rw [es]; exact h.2.2.2.1, fun k hk => ?_⟩
  rw [en] at hk
  obtain ⟨b1, b2, b3, b4, b5, b6⟩ := x.2.2.1 k hk
  obtain ⟨i1, i2, i3, i4⟩ := h.2.2.2.2 k hk
  rw [dI, b1, b2, b3, b4, b5, es]
  refine ⟨i1, i2, hc k hk, ?_⟩
  rcases i4 with y | ⟨y1, ⟨i, hi, y2, y3⟩, y4⟩
  · exact .inl y
  · exact .inr ⟨y1, ⟨i, hi, y2, by rw [(x.2.2.1 i (by omega)).1]; exact y3⟩, y4⟩
theorem dV_aT {D : mDeb} (h : dV D) (p : Nat) (x : Int32) : dV (aT D p x) := dV_same h (aT_ext D p x) rfl rfl (fun k hk => by rw [(aT_i D p x hk).2.2.2.2.2.1]; exact (h.2.2.2.2 k hk).2.2.1)
theorem dV_aC {D : mDeb} (h : dV D) (i : Nat) {x : Int32} (hx : x = 0 ∨ x = 1) : dV (aC D i x) := dV_same h (aC_ext D i x) rfl rfl (fun k hk => by
  rw [(aC_i D i x hk).2.2.2.2.2.1, pu]
  split
  · exact hx
  · exact (h.2.2.2.2 k hk).2.2.1)
theorem nmD_aT {D : mDeb} (h : nmD D) (p : Nat) (x : Int32) : nmD (aT D p x) := ⟨fun k hk => by rw [((aT_ext D p x).2.2.1 k hk).2.2.2.2.2]; exact h.1 k hk, fun k hk => by rw [(aT_ext D p x).2.2.2 k hk]; exact h.2 k hk⟩
theorem nmD_aC {D : mDeb} (h : nmD D) (p : Nat) (x : Int32) : nmD (aC D p x) := ⟨fun k hk => by rw [((aC_ext D p x).2.2.1 k hk).2.2.2.2.2]; exact h.1 k hk, fun k hk => by rw [(aC_ext D p x).2.2.2 k hk]; exact h.2 k hk⟩
theorem nmD_aI {D : mDeb} (h : nmD D) (hn : dn D ≤ 40) {c : Int64} (hc : wOK c) (kd sp z sr tg : Int32) : nmD (aI D c kd sp z sr tg) := by
  have x := aI_ext hn c kd sp z sr tg
  refine ⟨fun k hk => ?_, fun k hk => by rw [x.2.2.2 k hk]; exact h.2 k hk⟩
  rw [dn_aI hn] at hk
  rw [(aI_i hn c kd sp z sr tg (show k ≤ dn D by omega)).2.2.2.2.2.2, pu]
  by_cases q : k = dn D
  · rw [if_pos q]; exact hc
  · rw [if_neg q]; exact h.1 k (by omega)
theorem nmD_aS {D : mDeb} (h : nmD D) (hs : ds D ≤ 6) {c : Int64} (hc : wOK c) (tm : Int32) : nmD (aS D c tm) := by
  have x := aS_ext hs c tm
  refine ⟨fun k hk => by rw [(x.2.2.1 k hk).2.2.2.2.2]; exact h.1 k hk, fun k hk => ?_⟩
  rw [ds_aS hs] at hk
  have := (of_s (n := D.1 0 0) (s := nI (ds D + 1)) (kd := dk D) (bt := db D) (sz := dz D) (sr := dr D) (tg := dt D) (cd := dc D) (tm := pu (dm D) (ds D) tm) (nm := dN D) (sn := pu (dS D) (ds D) c) (k := k) (by rw [uN_nI (by omega)]; omega)).2
  rw [aS, this, pu]
  by_cases q : k = ds D
  · rw [if_pos q]; exact hc
  · rw [if_neg q]; exact h.2 k (by omega)
