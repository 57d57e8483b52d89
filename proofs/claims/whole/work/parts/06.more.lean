theorem mK_objInit {Γ : Nat × (Nat → Int32)} {I : mM} {d : Nat} {Q : mQ} {n0 bc bs pc : Nat} {lv : List (Nat × Value)} {st : List Value} {N : Nat} {sh : mH} {σ : mS} {n j : Nat} {pc1 : Nat} (hd : decode I.2.1 pc = .ok (.invokespecial n, 3)) (hp : pc + 3 = pc1) (hcat : (st.map fun v => v.category).sum ≤ 8) (hw1 : Cond.methodLink I.1.cls n Lib.objectInit ∈ mBig) (hw2 : Cond.instanceMethod Lib.objectInit ∈ mBig) (hw3 : Cond.code Lib.objectInit ⟨#[0xb1]⟩ 1 none ∈ mBig) (k : mK Γ I d Q n0 bc bs (pc1) lv (st) N sh σ) : mK Γ I d Q n0 bc bs (pc) lv (.ref j :: st) N sh σ := by
  subst hp
  intro p l e R s m args below meth c H locs cells slots ls D cd ad ad0 aC A mc ms hX hY hS hl hag hb hc
  have h8 := mHl (cd := cd) (ad := ad) hcat
  have hr := hX.2.2.2.2.1.2
  exact W.objInit hX.1.1 hX.1.2.1 hX.2.1.1 (hX.2.1.2 _ hw1) (hX.2.1.2 _ hw2) (hX.2.1.2 _ hw3) (g := F0 m pc ls (.ref (mAd cd ad j) :: st.map (mV cd ad))) rfl (hl.1.trans hX.1.2.2.1.symm) rfl hd (by have := hX.2.2.2.2.1.1; omega) (by
    have h0 : (F0 m pc ls (.ref (mAd cd ad j) :: st.map (mV cd ad))).monitorRoom = 0 := rfl
    rw [h0]; omega) (k p l e R s m args below meth c H locs cells slots ls D cd ad ad0 aC A mc ms hX hY hS hl hag hb hc.pop)
theorem mK_max {Γ : Nat × (Nat → Int32)} {I : mM} {d : Nat} {Q : mQ} {n0 bc bs pc : Nat} {lv : List (Nat × Value)} {st : List Value} {N : Nat} {sh : mH} {σ : mS} {n : Nat} {x y : Int32} {pc1 : Nat} (hd : decode I.2.1 pc = .ok (.invokestatic n, 3)) (hp : pc + 3 = pc1) (hcat : (st.map fun v => v.category).sum ≤ 8) (hw1 : Cond.methodLink I.1.cls n Lib.Math.max.name ∈ mBig) (hw2 : Cond.static Lib.Math.max.name ∈ mBig) (hw3 : Cond.initialized "java/lang/Math" ∈ mBig) (hw4 : Cond.code Lib.Math.max.name Lib.Math.max.code 2 (some .int) ∈ mBig) (k : mK Γ I d Q n0 bc bs (pc1) lv (.int (if x < y then y else x) :: st) N sh σ) : mK Γ I d Q n0 bc bs (pc) lv (.int y :: .int x :: st) N sh σ := by
  subst hp
  intro p l e R s m args below meth c H locs cells slots ls D cd ad ad0 aC A mc ms hX hY hS hl hag hb hc
  have h8 := mHl (cd := cd) (ad := ad) hcat
  have hr := hX.2.2.2.2.1.2
  exact va_mmax hX.1.1 hX.1.2.1 (hX.1.2.2.1.trans hl.1.symm) hX.2.1.1 (hX.2.1.2 _ hw1) (hX.2.1.2 _ hw2) (hX.2.1.2 _ hw3) (hX.2.1.2 _ hw4) (by have := hX.2.2.2.2.1.1; omega) (by omega) (by omega) (by omega) hd (k p l e R s m args below meth c H locs cells slots ls D cd ad ad0 aC A mc ms hX hY hS hl hag hb (hc.pop.pop.push mOk_i))
def mRowI (σ : mS) (j : Nat) (f : Nat → Int32) : mS := (fun a => if a = j then f else σ.1 a, σ.2.1, σ.2.2)
def mRowL (σ : mS) (j : Nat) (f : Nat → Int64) : mS := (σ.1, fun a => if a = j then f else σ.2.1 a, σ.2.2)
theorem mK_copyI {Γ : Nat × (Nat → Int32)} {I : mM} {d : Nat} {Q : mQ} {n0 bc bs pc : Nat} {lv : List (Nat × Value)} {st : List Value} {N : Nat} {sh : mH} {σ : mS} {ix j1 j2 : Nat} {sp dp n : Int32} {pc1 : Nat} (hd : decode I.2.1 pc = .ok (.invokestatic ix, 3)) (hp : pc + 3 = pc1) (hj1 : j1 < N) (hj2 : j2 < N) (ht1 : (sh j1).1 = 100 + 0) (ht2 : (sh j2).1 = 100 + 0) (h1 : ¬ sp < 0) (h2 : ¬ dp < 0) (h3 : ¬ n < 0) (h4 : sp.toNatClampNeg + n.toNatClampNeg ≤ (sh j1).2.1) (h5 : dp.toNatClampNeg + n.toNatClampNeg ≤ (sh j2).2.1) (hcat : (st.map fun v => v.category).sum ≤ 8) (hw1 : Cond.methodLink I.1.cls ix arraycopyName ∈ mBig) (hw2 : Cond.native arraycopyName ∈ mBig) (hw3 : Cond.static arraycopyName ∈ mBig) (hw4 : Cond.initialized "java/lang/System" ∈ mBig)
    (k : mK Γ I d Q n0 bc bs (pc1) lv (st) N sh (mRowI σ j2 (va_cpy (σ.1 j1) (σ.1 j2) sp.toNatClampNeg dp.toNatClampNeg n.toNatClampNeg))) : mK Γ I d Q n0 bc bs (pc) lv (.int n :: .int dp :: .ref j2 :: .int sp :: .ref j1 :: st) N sh σ := by
  subst hp
  intro p l e R s m args below meth c H locs cells slots ls D cd ad ad0 aC A mc ms hX hY hS hl hag hb hc
  have hY0 := hY
  obtain ⟨hP, ⟨tys, hK, hty⟩, hD, hN, hcl⟩ := hY
  obtain ⟨t1, e1⟩ := mTys (hty j1 hj1 (by omega))
  obtain ⟨t2, e2⟩ := mTys (hty j2 hj2 (by omega))
  rw [ht1, Nat.add_sub_cancel_left] at e1
  rw [ht2, Nat.add_sub_cancel_left] at e2
  have h8 := mHl (cd := cd) (ad := ad) hcat
  have hr := hX.2.2.2.2.1.2
  rw [List.map_cons, List.map_cons, List.map_cons, List.map_cons, List.map_cons, show mV cd ad (.ref j1) = .ref (ad j1) from congrArg Value.ref (mAd_lo (by omega)), show mV cd ad (.ref j2) = .ref (ad j2) from congrArg Value.ref (mAd_lo (by omega))]
  exact va_copyi hX.1.1 hX.1.2.1 (hX.1.2.2.1.trans hl.1.symm) hX.2.1.1 (hX.2.1.2 _ hw1) (hX.2.1.2 _ hw2) (hX.2.1.2 _ hw3) (hX.2.1.2 _ hw4) hK hP hD hS j1 j2 t1 t2 (mWs_arr hj1 ht1) (mWs_arr hj2 ht2) e1 e2 rfl h1 h2 h3 h4 h5 (fun _ _ => rfl) (by have := hX.2.2.2.2.1.1; omega) (by
    have h9 : nativeFrameWords "java/lang/System" "arraycopy" 5 ≤ 100 := by decide +kernel
    omega) hd (fun H1 locs1 hP1 hD1 hS1 => k p l e R s m args below meth c H1 locs1 cells slots ls D cd ad ad0 aC A mc ms hX (mY_put hY0 (by rw [mCl_arr ht2]; simp [mAr, mRowI]) (fun a q => ⟨by simp [mRowI, q], rfl, rfl⟩) hP1 hD1) hS1 hl hag hb hc.pop.pop.pop.pop.pop)
theorem mK_copyL {Γ : Nat × (Nat → Int32)} {I : mM} {d : Nat} {Q : mQ} {n0 bc bs pc : Nat} {lv : List (Nat × Value)} {st : List Value} {N : Nat} {sh : mH} {σ : mS} {ix j1 j2 : Nat} {sp dp n : Int32} {pc1 : Nat} (hd : decode I.2.1 pc = .ok (.invokestatic ix, 3)) (hp : pc + 3 = pc1) (hj1 : j1 < N) (hj2 : j2 < N) (ht1 : (sh j1).1 = 100 + 3) (ht2 : (sh j2).1 = 100 + 3) (h1 : ¬ sp < 0) (h2 : ¬ dp < 0) (h3 : ¬ n < 0) (h4 : sp.toNatClampNeg + n.toNatClampNeg ≤ (sh j1).2.1) (h5 : dp.toNatClampNeg + n.toNatClampNeg ≤ (sh j2).2.1) (hcat : (st.map fun v => v.category).sum ≤ 8) (hw1 : Cond.methodLink I.1.cls ix arraycopyName ∈ mBig) (hw2 : Cond.native arraycopyName ∈ mBig) (hw3 : Cond.static arraycopyName ∈ mBig) (hw4 : Cond.initialized "java/lang/System" ∈ mBig)
    (k : mK Γ I d Q n0 bc bs (pc1) lv (st) N sh (mRowL σ j2 (va_cpy (σ.2.1 j1) (σ.2.1 j2) sp.toNatClampNeg dp.toNatClampNeg n.toNatClampNeg))) : mK Γ I d Q n0 bc bs (pc) lv (.int n :: .int dp :: .ref j2 :: .int sp :: .ref j1 :: st) N sh σ := by
  subst hp
  intro p l e R s m args below meth c H locs cells slots ls D cd ad ad0 aC A mc ms hX hY hS hl hag hb hc
  have hY0 := hY
  obtain ⟨hP, ⟨tys, hK, hty⟩, hD, hN, hcl⟩ := hY
  obtain ⟨t1, e1⟩ := mTys (hty j1 hj1 (by omega))
  obtain ⟨t2, e2⟩ := mTys (hty j2 hj2 (by omega))
  rw [ht1, Nat.add_sub_cancel_left] at e1
  rw [ht2, Nat.add_sub_cancel_left] at e2
  have h8 := mHl (cd := cd) (ad := ad) hcat
  have hr := hX.2.2.2.2.1.2
  rw [List.map_cons, List.map_cons, List.map_cons, List.map_cons, List.map_cons, show mV cd ad (.ref j1) = .ref (ad j1) from congrArg Value.ref (mAd_lo (by omega)), show mV cd ad (.ref j2) = .ref (ad j2) from congrArg Value.ref (mAd_lo (by omega))]
  exact va_copyl hX.1.1 hX.1.2.1 (hX.1.2.2.1.trans hl.1.symm) hX.2.1.1 (hX.2.1.2 _ hw1) (hX.2.1.2 _ hw2) (hX.2.1.2 _ hw3) (hX.2.1.2 _ hw4) hK hP hD hS j1 j2 t1 t2 (mWs_arr hj1 ht1) (mWs_arr hj2 ht2) e1 e2 rfl h1 h2 h3 h4 h5 (fun _ _ => rfl) (by have := hX.2.2.2.2.1.1; omega) (by
    have h9 : nativeFrameWords "java/lang/System" "arraycopy" 5 ≤ 100 := by decide +kernel
    omega) hd (fun H1 locs1 hP1 hD1 hS1 => k p l e R s m args below meth c H1 locs1 cells slots ls D cd ad ad0 aC A mc ms hX (mY_put hY0 (by rw [mCl_arr ht2]; simp [mAr, mRowL]) (fun a q => ⟨rfl, by simp [mRowL, q], rfl⟩) hP1 hD1) hS1 hl hag hb hc.pop.pop.pop.pop.pop)
theorem mY.grown {D : va_G} {cd ad : Nat → Nat} {aC : Nat → ClassId} {A : Nat → Prop} {N : Nat} {sh : mH} {σ : mS} {U : State} {H H1 : Heap} (h : mY D cd ad aC A N sh σ U H) (hq : ∀ q : Nat, q < H.size → H1[q]? = H[q]?) : mY D cd ad aC A N sh σ U H1 :=
  ⟨h.1.kept (fun k q hk => hq _ (vx_lt h.1 hk)), h.2⟩
theorem mK_throw {Γ : Nat × (Nat → Int32)} {I : mM} {d : Nat} {Q : mQ} {n0 bc bs pc : Nat} {lv : List (Nat × Value)} {st : List Value} {N : Nat} {sh : mH} {σ : mS} {ik is ic : Nat} {E text : String} (hd0 : decode I.2.1 pc = .ok (.new ik, 3)) (hd3 : decode I.2.1 (pc + 3) = .ok (.dup, 1)) (hd4 : decode I.2.1 (pc + 4) = .ok (.ldc is, 2)) (hd6 : decode I.2.1 (pc + 6) = .ok (.invokespecial ic, 3)) (hd9 : decode I.2.1 (pc + 9) = .ok (.athrow, 1))
    (hI : I.1.cls = RX7) (hh : I.2.2.2.2 = []) (htx : (is, text) ∈ mTx) (hcat : (st.map fun v => v.category).sum ≤ 8) (hbc : 1 ≤ bc) (hbs : 6 ≤ bs) (hfit : Bundle.fit E = true) (hw1 : Cond.classLink I.1.cls ik E ∈ mBig) (hw2 : Cond.initialized E ∈ mBig)
    (hat : ∀ w ∈ vx_atS RX7 ic E ["java/lang/RuntimeException", "java/lang/Exception"], w ∈ mBig ∨ (w ∈ mNd ∧ w.onTables = true)) (hQ : Q (.inr E) N sh σ) : mK Γ I d Q n0 bc bs (pc) lv (st) N sh σ := by
  intro p l e R s m args below meth c H locs cells slots ls D cd ad ad0 aC A mc ms hX hY hS hl hag hb hc
  have h8 := mHl (cd := cd) (ad := ad) hcat
  have hC := hX.2.2.2.2.2.1
  obtain ⟨sa, hsa⟩ := hC.2.2.2.2.2.2.1 (is, text) htx
  have hon : ∀ w ∈ vx_atS RX7 ic E ["java/lang/RuntimeException", "java/lang/Exception"], w.before args s = true ∧ vx_ot w = true := fun w hw => by
    rcases hat w hw with q | q
    · exact ⟨hX.2.1.2 w q, by have := (List.mem_filter.mp q).2; simp [vx_ot, this]⟩
    · exact ⟨va_Nw.use q.2 (hX.2.2.2.2.2.1.2.2.2.2.2.2.2.2.2.2.2.1 w q.1), by simp [vx_ot, q.2]⟩
  have hg1 : vx_ot (Cond.classLink I.1.cls ik E) = true := rfl
  have hg2 : vx_ot (Cond.initialized E) = true := rfl
  refine vx_throwS (names := ["java/lang/RuntimeException", "java/lang/Exception"]) (text := text) (sa := sa) (A := A) hX.1.1 hX.1.2.1 hX.2.2.1.2.2 hX.2.1.1 hfit (by decide +kernel) (hX.2.1.2 _ hw1) (hX.2.1.2 _ hw2) (by rw [hI]; exact hsa) (fun w hw => (hon w (by rw [← hI]; exact hw)).1) (fun w hw => ?_) hC.2.2.2.2.2.2.2.1 hC.2.2.2.2.2.2.2.2.1 hS (hl.1.trans hX.1.2.2.1.symm) hd0 hd3 hd4 hd6 hd9 (fun x hx => by rw [hX.2.2.2.1, hh] at hx; exact absurd hx List.not_mem_nil) (by have := hX.2.2.2.2.1.1; simp only [List.length_cons, List.length_nil]; omega) (by have := hX.2.2.2.2.1.2; simp only [List.length_cons, List.length_nil]; omega) (by omega) (by omega) hX.2.2.1.1 (fun t hv hsz hq => ?_) hS.2.2 (by omega) (by omega)
  · rcases List.mem_cons.mp hw with q | hw
    · exact q ▸ hg1
    rcases List.mem_cons.mp hw with q | hw
    · exact q ▸ hg2
    exact (hon w (by rw [← hI]; exact hw)).2
  · refine ⟨N, sh, σ, ad, aC, hQ, hag, (hY.grown hq).to hv (fun _ h => h), ⟨Nat.le_trans hS.1 hsz, fun q h1 h2 => ?_⟩⟩
    rw [hq q (Nat.lt_of_lt_of_le h1 hS.1), hS.2.1 q h1 h2]
theorem mK_throwW {Γ : Nat × (Nat → Int32)} {I : mM} {d : Nat} {Q : mQ} {n0 bc bs pc : Nat} {lv : List (Nat × Value)} {st : List Value} {N : Nat} {sh : mH} {σ : mS} {ik is ic : Nat} {E text : String} (hd0 : decode I.2.1 pc = .ok (.new ik, 3)) (hd3 : decode I.2.1 (pc + 3) = .ok (.dup, 1)) (hd4 : decode I.2.1 (pc + 4) = .ok (.ldc_w is, 3)) (hd6 : decode I.2.1 (pc + 7) = .ok (.invokespecial ic, 3)) (hd9 : decode I.2.1 (pc + 10) = .ok (.athrow, 1))
    (hI : I.1.cls = RX7) (hh : I.2.2.2.2 = []) (htx : (is, text) ∈ mTx) (hcat : (st.map fun v => v.category).sum ≤ 8) (hbc : 1 ≤ bc) (hbs : 6 ≤ bs) (hfit : Bundle.fit E = true) (hw1 : Cond.classLink I.1.cls ik E ∈ mBig) (hw2 : Cond.initialized E ∈ mBig)
    (hat : ∀ w ∈ vx_atS RX7 ic E ["java/lang/RuntimeException", "java/lang/Exception"], w ∈ mBig ∨ (w ∈ mNd ∧ w.onTables = true)) (hQ : Q (.inr E) N sh σ) : mK Γ I d Q n0 bc bs (pc) lv (st) N sh σ := by
  intro p l e R s m args below meth c H locs cells slots ls D cd ad ad0 aC A mc ms hX hY hS hl hag hb hc
  have h8 := mHl (cd := cd) (ad := ad) hcat
  have hC := hX.2.2.2.2.2.1
  obtain ⟨sa, hsa⟩ := hC.2.2.2.2.2.2.1 (is, text) htx
  have hon : ∀ w ∈ vx_atS RX7 ic E ["java/lang/RuntimeException", "java/lang/Exception"], w.before args s = true ∧ vx_ot w = true := fun w hw => by
    rcases hat w hw with q | q
    · exact ⟨hX.2.1.2 w q, by have := (List.mem_filter.mp q).2; simp [vx_ot, this]⟩
    · exact ⟨va_Nw.use q.2 (hX.2.2.2.2.2.1.2.2.2.2.2.2.2.2.2.2.2.1 w q.1), by simp [vx_ot, q.2]⟩
  have hg1 : vx_ot (Cond.classLink I.1.cls ik E) = true := rfl
  have hg2 : vx_ot (Cond.initialized E) = true := rfl
  refine vx_throwSW (names := ["java/lang/RuntimeException", "java/lang/Exception"]) (text := text) (sa := sa) (A := A) hX.1.1 hX.1.2.1 hX.2.2.1.2.2 hX.2.1.1 hfit (by decide +kernel) (hX.2.1.2 _ hw1) (hX.2.1.2 _ hw2) (by rw [hI]; exact hsa) (fun w hw => (hon w (by rw [← hI]; exact hw)).1) (fun w hw => ?_) hC.2.2.2.2.2.2.2.1 hC.2.2.2.2.2.2.2.2.1 hS (hl.1.trans hX.1.2.2.1.symm) hd0 hd3 hd4 hd6 hd9 (fun x hx => by rw [hX.2.2.2.1, hh] at hx; exact absurd hx List.not_mem_nil) (by have := hX.2.2.2.2.1.1; simp only [List.length_cons, List.length_nil]; omega) (by have := hX.2.2.2.2.1.2; simp only [List.length_cons, List.length_nil]; omega) (by omega) (by omega) hX.2.2.1.1 (fun t hv hsz hq => ?_) hS.2.2 (by omega) (by omega)
  · rcases List.mem_cons.mp hw with q | hw
    · exact q ▸ hg1
    rcases List.mem_cons.mp hw with q | hw
    · exact q ▸ hg2
    exact (hon w (by rw [← hI]; exact hw)).2
  · refine ⟨N, sh, σ, ad, aC, hQ, hag, (hY.grown hq).to hv (fun _ h => h), ⟨Nat.le_trans hS.1 hsz, fun q h1 h2 => ?_⟩⟩
    rw [hq q (Nat.lt_of_lt_of_le h1 hS.1), hS.2.1 q h1 h2]
set_option maxRecDepth 20000 in
theorem mTh_00 : (vx_atS RX7 77 "java/lang/IllegalStateException" ["java/lang/RuntimeException", "java/lang/Exception"]).all (fun w => decide (w ∈ lw_tbl) && (goodWord w || (mNwK w && w.onTables))) = true := by decide +kernel
theorem mTh_0 : ∀ w ∈ vx_atS RX7 77 "java/lang/IllegalStateException" ["java/lang/RuntimeException", "java/lang/Exception"], w ∈ mBig ∨ (w ∈ mNd ∧ w.onTables = true) := fun w hw => by
  have h := List.all_eq_true.mp mTh_00 w hw
  simp only [Bool.and_eq_true, Bool.or_eq_true, decide_eq_true_eq] at h
  rcases h.2 with q | q
  · exact Or.inl (mBig_in h.1 q)
  · exact Or.inr ⟨mNw_in h.1 q.1, q.2⟩
set_option maxRecDepth 20000 in
theorem mTh_10 : (vx_atS RX7 87 "java/lang/IllegalArgumentException" ["java/lang/RuntimeException", "java/lang/Exception"]).all (fun w => decide (w ∈ lw_tbl) && (goodWord w || (mNwK w && w.onTables))) = true := by decide +kernel
theorem mTh_1 : ∀ w ∈ vx_atS RX7 87 "java/lang/IllegalArgumentException" ["java/lang/RuntimeException", "java/lang/Exception"], w ∈ mBig ∨ (w ∈ mNd ∧ w.onTables = true) := fun w hw => by
  have h := List.all_eq_true.mp mTh_10 w hw
  simp only [Bool.and_eq_true, Bool.or_eq_true, decide_eq_true_eq] at h
  rcases h.2 with q | q
  · exact Or.inl (mBig_in h.1 q)
  · exact Or.inr ⟨mNw_in h.1 q.1, q.2⟩
set_option maxRecDepth 20000 in
theorem mTh_20 : (vx_atS RX7 149 "java/lang/IndexOutOfBoundsException" ["java/lang/RuntimeException", "java/lang/Exception"]).all (fun w => decide (w ∈ lw_tbl) && (goodWord w || (mNwK w && w.onTables))) = true := by decide +kernel
theorem mTh_2 : ∀ w ∈ vx_atS RX7 149 "java/lang/IndexOutOfBoundsException" ["java/lang/RuntimeException", "java/lang/Exception"], w ∈ mBig ∨ (w ∈ mNd ∧ w.onTables = true) := fun w hw => by
  have h := List.all_eq_true.mp mTh_20 w hw
  simp only [Bool.and_eq_true, Bool.or_eq_true, decide_eq_true_eq] at h
  rcases h.2 with q | q
  · exact Or.inl (mBig_in h.1 q)
  · exact Or.inr ⟨mNw_in h.1 q.1, q.2⟩
/-- a handler of method I, for calls at pc: the exception E goes on at h, its cell put into the local k and forgotten -/
def mHd (I : mM) (pc : Nat) (E : String) (h k : Nat) : Prop := ∃ (pre : List ExceptionTableEntry) (x : ExceptionTableEntry) (suf : List ExceptionTableEntry) (nm : String), tableOf I.2.2.2.2 = pre ++ x :: suf ∧ (∀ z ∈ pre, covers z pc = false ∨ (z.catchType ≠ 0 ∧ E = "java/lang/IllegalArgumentException" ∧ Cond.classLink I.1.cls z.catchType "java/lang/IndexOutOfBoundsException" ∈ mBig)) ∧ covers x pc = true ∧ x.catchType ≠ 0 ∧ Cond.classLink I.1.cls x.catchType nm ∈ mBig ∧ Cond.castable E nm ∈ mNd ∧ k < I.2.2.1 ∧ ((∃ n : Fin 4, decode I.2.1 x.handlerPc = .ok (.astore_n n, 1) ∧ (n : Nat) = k ∧ h = x.handlerPc + 1) ∨ (decode I.2.1 x.handlerPc = .ok (.astore k, 2) ∧ h = x.handlerPc + 2))
def mRh (Γ : Nat × (Nat → Int32)) (I : mM) (d : Nat) (Q : mQ) (n0 bc bs pc : Nat) (lv : List (Nat × Value)) (st : List Value) : mQ := fun o N sh σ => match o with
  | .inl v => mK Γ I d Q n0 bc bs (pc + 3) lv (v.toList ++ st) N sh σ
  | .inr E => ∃ h k, mHd I pc E h k ∧ mK Γ I d Q n0 bc bs h (mF1 k lv) [] N sh σ
theorem mRunH {Γ : Nat × (Nat → Int32)} {I : mM} {d : Nat} {Q : mQ} {n0 bc bs pc : Nat} {lv : List (Nat × Value)} {st : List Value} {N : Nat} {sh : mH} {σ : mS} {p : Program} {l : Launch} {e : Env} {R : Room} {s : State} {m : MethodId} {args : Array Value} {below : List Frame} {meth : Method} {c : Code} {H : Heap} {locs : List Loc} {cells slots : Nat} {ls : Array Slot} {D : va_G} {cd ad ad0 : Nat → Nat} {aC : Nat → ClassId} {A : Nat → Prop} {mc ms : Nat} {c1 s1 : Nat} {a : Array Value} {st0 : List Value} (hX : mX I d p l R s m args meth c cd A Γ.1 Γ.2) (hY : mY D cd ad aC A N sh σ s H) (hS : va_S A s.heap H locs) (hl : lv_has ls I.2.2.1 (lv.map (mVq cd ad))) (hag : n0 ≤ N ∧ ∀ j, j < n0 → ad j = ad0 j) (hb : cells + bc ≤ mc ∧ slots + bs ≤ ms ∧ mc ≤ R.cells ∧ ms ≤ R.slots) (hc : mKo N lv st) (hc1 : c1 ≤ bc) (hs1 : s1 ≤ bs)
    (hr : vx_Run p l e R s m args below meth c H locs cells slots c1 s1 (F0 m pc ls st0) (st.map (mV cd ad)) (mQc (mRh Γ I d Q n0 (bc - c1) (bs - s1) pc lv st) D cd ad N (va_A (mWs cd ad aC N sh σ) H.size) a) (mXc (mRh Γ I d Q n0 (bc - c1) (bs - s1) pc lv st) D cd ad N (va_A (mWs cd ad aC N sh σ) H.size)) (va_A (mWs cd ad aC N sh σ) H.size)) :
    W p l e R s m args below meth c H locs cells slots (vx_MQ below (mQc Q D cd ad0 n0 A) (mXc Q D cd ad0 n0 A) args s mc ms A) (F0 m pc ls st0) := by
  have hA : ∀ q, va_A (mWs cd ad aC N sh σ) H.size q → A q := fun q hq => by
    rcases hq with ⟨k, e, hk⟩ | hq
    · exact hY.2.2.1.2 k _ hk
    · exact hX.2.2.2.2.2.2 q (Nat.le_trans hS.1 hq)
  intro T hT X
  rcases hr T hT X with ⟨v, st₀, t, T', L', h0, X', hL, e1, e2, ⟨v', N', sh', σ', ad', aC', ho, ⟨hQ, hok⟩, hag', hY', hF⟩, goes⟩ | ⟨q, st₀, t, T', L', E, ce, h0, X', hL, e1, e2, ⟨N', sh', σ', ad', aC', hQ, hag', hY', hF⟩, hce, hcv, hcl, steps⟩
  · cases ho
    obtain ⟨k1, k2, k3⟩ := vx_keep h0 e1 hS (fun q _ h => hA q h) hA hL hF
    have hN := hY.2.2.2.1
    have hst : st.map (mV cd ad') = st.map (mV cd ad) := List.map_congr_left (fun v hv => mV_ag hag'.2 (hc.2 v hv) hN)
    have hlv : lv.map (mVq cd ad') = lv.map (mVq cd ad) := List.map_congr_left (fun v hv => by rw [mVq, mVq, mV_ag hag'.2 (hc.1 v hv) hN])
    have hY2 : mY D cd ad' aC' A N' sh' σ' s T'.heap := by
      rw [e1]
      exact hY'.to (by rw [← e2]; exact X'.warmed.alike.symm) hA
    obtain ⟨t2, a1, b1⟩ := hQ p l e R s m args below meth c T'.heap (locs ++ L') (cells + c1) (slots + s1) ls D cd ad' ad0 aC' A mc ms hX hY2 k3 (by rw [hlv]; exact hl) ⟨Nat.le_trans hag.1 hag'.1, fun j hj => (hag'.2 j (Nat.lt_of_lt_of_le hj hag.1)).trans (hag.2 j hj)⟩ (by omega)
      ⟨fun q hq => mOk_mono (hc.1 q hq) hag'.1, fun w hw => by
        rcases List.mem_append.mp hw with z | z
        · exact hok w (by cases v' <;> simp_all)
        · exact mOk_mono (hc.2 w z) hag'.1⟩ T' rfl X'
    refine ⟨t2, goes t2 ?_, b1⟩
    have hmap : (v'.toList ++ st).map (mV cd ad') = (v'.map (mV cd ad')).toList ++ st.map (mV cd ad) := by
      rw [List.map_append, hst]
      cases v' <;> rfl
    rw [hmap] at a1
    exact a1
  · obtain ⟨k1, k2, k3⟩ := vx_keep h0 e1 hS (fun q _ h => hA q h) hA hL hF
    have hY2 : mY D cd ad' aC' A N' sh' σ' s T'.heap := by
      rw [e1]
      exact hY'.to (by rw [← e2]; exact X'.warmed.alike.symm) hA
    obtain ⟨h, k, ⟨pre, x, suf, nm, hsp, hpass, hcov, hct, hlink, hcast, hk, hdec⟩, hQK⟩ := hQ
    have hN := hY.2.2.2.1
    have hlv : lv.map (mVq cd ad') = lv.map (mVq cd ad) := List.map_congr_left (fun v hv => by rw [mVq, mVq, mV_ag hag'.2 (hc.1 v hv) hN])
    have key : ∀ ls' : Array Slot, lv_has ls' I.2.2.1 ((mF1 k lv).map (mVq cd ad')) → W p l e R s m args below meth c T'.heap (locs ++ L') (cells + c1) (slots + s1) (vx_MQ below (mQc Q D cd ad0 n0 A) (mXc Q D cd ad0 n0 A) args s mc ms A) (F0 m h ls' []) := fun ls' hl' =>
      hQK p l e R s m args below meth c T'.heap (locs ++ L') (cells + c1) (slots + s1) ls' D cd ad' ad0 aC' A mc ms hX hY2 k3 hl' ⟨Nat.le_trans hag.1 hag'.1, fun j hj => (hag'.2 j (Nat.lt_of_lt_of_le hj hag.1)).trans (hag.2 j hj)⟩ (by omega) ⟨fun q hq => mOk_mono (hc.1 q (List.mem_filter.mp hq).1) hag'.1, fun v hv => absurd hv List.not_mem_nil⟩
    have hst : ∀ ls' : Array Slot, lv_has ls' I.2.2.1 ((k, Value.ref q) :: (lv.map (mVq cd ad)).filter (fun q => !(q.1 == k) && !(q.1 + 1 == k && q.2.category == 2))) → lv_has ls' I.2.2.1 ((mF1 k lv).map (mVq cd ad')) := fun ls' hl' => by
      refine ⟨hl'.1, hl'.2.1, fun z hz => hl'.2.2 z (List.mem_cons_of_mem _ ?_)⟩
      have h9 := mF1_map (cd := cd) (ad := ad) (n := k) (v := .int 0) (lv := lv)
      rw [List.map_cons] at h9
      have h10 := (List.cons.inj h9).2
      rw [h10]
      have h11 : (mF1 k lv).map (mVq cd ad') = (mF1 k lv).map (mVq cd ad) := List.map_congr_left (fun v hv => by rw [mVq, mVq, mV_ag hag'.2 (hc.1 v (List.mem_filter.mp hv).1) hN])
      rw [← h11]; exact hz
    have hk2 : vx_W p l e R s m args below meth c T'.heap (locs ++ L') (cells + c1) (slots + s1) (vx_MQ below (mQc Q D cd ad0 n0 A) (mXc Q D cd ad0 n0 A) args s mc ms A) (F0 m pc ls (st.map (mV cd ad))) q := by
      refine vx_catch hX.2.1.1 pre x suf (hX.2.2.2.1.trans hsp) (fun z hz => ?_) hcov hct (hX.2.1.2 _ hlink) (va_Nw.use rfl (hX.2.2.2.2.2.1.2.2.2.2.2.2.2.2.2.2.2.1 _ hcast)) (by rw [e1]; exact hce) hcv hcl ?_
      · rcases hpass z hz with h1 | ⟨h1, rfl, h3⟩
        · exact Or.inl h1
        · exact Or.inr ⟨h1, _, hX.2.1.2 _ h3, hX.2.2.2.2.2.1.2.2.2.2.2.2.2.2.2.2.2.2⟩
      · rcases hdec with ⟨n, hd, hn, rfl⟩ | ⟨hd, rfl⟩
        · exact lv_astore_n hX.1.1 hX.1.2.1 hd hn hl hk rfl (fun ls' hl' => key ls' (hst ls' hl'))
        · exact lv_astore hX.1.1 hX.1.2.1 hd hl hk rfl (fun ls' hl' => key ls' (hst ls' hl'))
    obtain ⟨t2, a1, b1⟩ := hk2 T' rfl X'
    exact ⟨t2, steps.trans a1, b1⟩
theorem mK_invVH {Γ : Nat × (Nat → Int32)} {I : mM} {d : Nat} {Q : mQ} {n0 bc bs pc : Nat} {lv : List (Nat × Value)} {st : List Value} {N : Nat} {sh : mH} {σ : mS} {J : mM} {n k c1 s1 : Nat} {as : List Value} {b : Nat}  (hd : decode I.2.1 pc = .ok (.invokevirtual n, 3)) (hJ : mJw J) (hn : mJn J k) (hk : as.length = k) (hcat : (st.map fun v => v.category).sum ≤ 8) (hc1 : c1 ≤ bc) (hs1 : s1 ≤ bs) (hw : Cond.methodLink I.1.cls n J.1 ∈ mBig) (hw2 : Cond.instanceMethod J.1 ∈ mBig) (hw3 : Cond.selects J.1.cls J.1 J.1 ∈ mBig) (hjb : b < N) (hcb : (sh b).1 < 9) (hcl : J.1.cls = mCR (sh b).1)
    (C : mCall Γ J d c1 s1 (.ref b :: as) N sh σ (mRh Γ I (d + 1) Q n0 (bc - c1) (bs - s1) pc lv st)) : mK Γ I (d + 1) Q n0 bc bs (pc) lv (as.reverse ++ .ref b :: st) N sh σ := by
  intro p l e R s m args below meth c H locs cells slots ls D cd ad ad0 aC A mc ms hX hY hS hl hag hb hc
  have hW : 2 * (F0 m pc ls (st.map (mV cd ad))).monitorRoom + ((st.map (mV cd ad)).map fun v => v.category).sum ≤ 8 := lv_room (mHl hcat)
  have hR : (mR d c1 s1).frames + 1 ≤ R.frames ∧ 8 + (J.2.2.1 + 11) + (mR d c1 s1).locals ≤ R.locals := ⟨by have := hX.2.2.2.2.1.1; simp only [mR]; omega, by have := hX.2.2.2.2.1.2; have := hJ.2.2.2.2; simp only [mR]; omega⟩
  have hts : ∀ w ∈ mBig, w.before args s = true := hX.2.1.2
  have hpre : ∀ U : State, U.heap = H → s.WarmedH U.vm → mU D cd ad aC Γ.1 Γ.2 N sh σ H.size U := fun U hU hW => ⟨by rw [hU], by rw [hU]; exact hY.to hW.alike (fun _ _ => trivial), mC.go hX.2.2.2.2.2.1 hS hW hU (fun q hq => by
    rcases hq with ⟨k, e, hk⟩ | hq
    · exact hY.2.2.1.2 k _ hk
    · exact hX.2.2.2.2.2.2 q (Nat.le_trans hS.1 hq))⟩
  have hrc : ∃ cellB : Cell, H[ad b]? = some cellB ∧ cellB.vm.isStatics = false ∧ s.vm.findClass J.1.cls = some cellB.cls := by
    obtain ⟨hP, ⟨tys, hK, hty⟩, hD, hN, hcl0⟩ := id hY
    rw [hcl]
    exact va_recv hK hP (mCl_in hcb) (mWs_obj hjb hcb)
  have hb9 : mV cd ad (.ref b) = .ref (ad b) := congrArg Value.ref (mAd_lo (Nat.lt_of_lt_of_le hjb hY.2.2.2.1))
  have hmp : (as.reverse ++ .ref b :: st).map (mV cd ad) = (as.map (mV cd ad)).reverse ++ .ref (ad b) :: st.map (mV cd ad) := by
    rw [List.map_append, List.map_cons, hb9, List.map_reverse]
  have hM := C l D cd ad aC H.size hX.2.2.1.2.2
  rw [List.map_cons, hb9] at hM
  rw [hmp]
  exact mRunH hX hY hS hl hag hb (hc.drop.pop) hc1 hs1 (vx_runV (As := as.map (mV cd ad)) (rest := st.map (mV cd ad)) ⟨hX.1.1, hX.1.2.1, hX.1.2.2.1, hX.2.1.1, hts⟩ hM (cwV (ret := J.2.2.2.1) (bytes := J.2.1) (maxL := J.2.2.1) k hts (mJ_good hJ (ws := [.methodLink I.1.cls n J.1, .instanceMethod J.1, .selects J.1.cls J.1 J.1, .initialized J.1.cls]) (fun w h => by simp only [List.mem_cons, List.not_mem_nil, or_false] at h; rcases h with h | h | h | h <;> subst h <;> first | exact hw | exact hw2 | exact hw3 | exact hJ.2.1)) (mJ_eq hJ) rfl rfl ⟨rfl, hJ.2.2.2.1.1, hJ.2.2.2.1.2, hn⟩ hR) ⟨mU_blind, hrc, fun U hU hW => ⟨rfl, hpre U hU hW⟩⟩ rfl (by rw [List.length_map]; exact hk) hl.1 rfl hW hd ⟨by omega, by omega⟩)
def mJv (J : mM) : Prop := mWd J ∈ mBig ∧ Cond.initialized J.1.cls ∈ mBig ∧ (J.1.cls ≠ "java/lang/invoke/MethodHandle" ∧ J.1.cls ≠ "java/lang/invoke/VarHandle") ∧ J.2.2.1 ≤ 30
theorem mJv_good {J : mM} (h : mJv J) {ws : List Cond} (hw : ∀ w ∈ ws, w ∈ mBig) : GoodIn mBig (ws ++ (mWd J :: mBig)) := mBig_good _ (fun w hw' => by
  rcases List.mem_append.mp hw' with q | q
  · exact hw w q
  · rcases List.mem_cons.mp q with q | q
    · exact q ▸ h.1
    · exact q)
theorem mK_invSH {Γ : Nat × (Nat → Int32)} {I : mM} {d : Nat} {Q : mQ} {n0 bc bs pc : Nat} {lv : List (Nat × Value)} {st : List Value} {N : Nat} {sh : mH} {σ : mS} {J : mM} {n k c1 s1 : Nat} {as : List Value}  {pc1 : Nat} (hd : decode I.2.1 pc = .ok (.invokestatic n, 3)) (hp : pc + 3 = pc1) (hJ : mJv J) (hn : mJn J k) (hk : as.length = k) (hcat : (st.map fun v => v.category).sum ≤ 8) (hc1 : c1 ≤ bc) (hs1 : s1 ≤ bs) (hh : I.2.2.2.2 = []) (hne : J.2.2.2.2 ≠ []) (hw : Cond.methodLink I.1.cls n J.1 ∈ mBig) (hw2 : Cond.static J.1 ∈ mBig)
    (C : mCall Γ J d c1 s1 (as) N sh σ (mRn (mRt Γ I (d + 1) Q n0 (bc - c1) (bs - s1) (pc1) lv st))) : mK Γ I (d + 1) Q n0 bc bs (pc) lv (as.reverse ++ st) N sh σ := by
  subst hp
  intro p l e R s m args below meth c H locs cells slots ls D cd ad ad0 aC A mc ms hX hY hS hl hag hb hc
  have hW : 2 * (F0 m pc ls (st.map (mV cd ad))).monitorRoom + ((st.map (mV cd ad)).map fun v => v.category).sum ≤ 8 := lv_room (mHl hcat)
  have hR : (mR d c1 s1).frames + 1 ≤ R.frames ∧ 8 + (J.2.2.1 + 11) + (mR d c1 s1).locals ≤ R.locals := ⟨by have := hX.2.2.2.2.1.1; simp only [mR]; omega, by have := hX.2.2.2.2.1.2; have := hJ.2.2.2; simp only [mR]; omega⟩
  have hts : ∀ w ∈ mBig, w.before args s = true := hX.2.1.2
  have hpre : ∀ U : State, U.heap = H → s.WarmedH U.vm → mU D cd ad aC Γ.1 Γ.2 N sh σ H.size U := fun U hU hW => ⟨by rw [hU], by rw [hU]; exact hY.to hW.alike (fun _ _ => trivial), mC.go hX.2.2.2.2.2.1 hS hW hU (fun q hq => by
    rcases hq with ⟨k, e, hk⟩ | hq
    · exact hY.2.2.1.2 k _ hk
    · exact hX.2.2.2.2.2.2 q (Nat.le_trans hS.1 hq))⟩
  have hmp : (as.reverse ++ st).map (mV cd ad) = (as.map (mV cd ad)).reverse ++ st.map (mV cd ad) := by
    rw [List.map_append, List.map_reverse]
  have hM := C l D cd ad aC H.size hX.2.2.1.2.2
  rw [hmp]
  exact mRun hX hY hS hl hag hb (hc.drop) hh hc1 hs1 (mRun_of (vx_runSW (As := as.map (mV cd ad)) (rest := st.map (mV cd ad)) ⟨hX.1.1, hX.1.2.1, hX.1.2.2.1, hX.2.1.1, hts⟩ (mMet_q hM) (vx_cwSW (ret := J.2.2.2.1) (bytes := J.2.1) (maxL := J.2.2.1) (hh := J.2.2.2.2) k hts (mJv_good hJ (ws := [.methodLink I.1.cls n J.1, .static J.1, .initialized J.1.cls]) (fun w h => by simp only [List.mem_cons, List.not_mem_nil, or_false] at h; rcases h with h | h | h <;> subst h <;> first | exact hw | exact hw2 | exact hJ.2.1)) (by rw [mWd, if_neg hne]) rfl rfl ⟨hJ.2.2.1.1, hJ.2.2.1.2, hn⟩ hR) ⟨mU_blind, fun U hU hW => ⟨rfl, hpre U hU hW⟩⟩ rfl (by rw [List.length_map]; exact hk) hl.1 rfl hW hd ⟨by omega, by omega⟩))
theorem mCall_ofH {Γ : Nat × (Nat → Int32)} {J : mM} {d c0 s0 : Nat} {av : List Value} {N : Nat} {sh : mH} {σ : mS} {Q : mQ} (hh : J.2.2.2.2 ≠ []) (hy : plainName J.1.cls = true) (hlen : (lg_sl av).length ≤ J.2.2.1) (hok : ∀ v ∈ av, mOkP N v) (k : mK Γ J d Q N c0 s0 0 (lv_args 0 av) [] N sh σ) : mCall Γ J d c0 s0 av N sh σ Q := by
  intro l D cd ad aC sz hl0
  refine vx_ofWH (cc := J.2.1) (maxL := J.2.2.1) (ret := J.2.2.2.1) (hh := J.2.2.2.2) (ws' := mBig) hy (by rw [mWd, if_neg hh]) ?_
  intro p e s m args below meth c s₁ B hml hv
  obtain ⟨rfl, hsz, hY, hC⟩ := hv
  have hts := atoms_spec (ws := mWd J :: mBig) B.pre
  subst hsz
  rw [lg_entry_eq]
  have hl := lv_entry (av.map (mV cd ad)) (n := J.2.2.1) (by rw [mSl_len]; exact hlen)
  rw [mArgs_map] at hl
  have htab : c.exceptionTable.toList = tableOf J.2.2.2.2 := vx_table (x := J.1) B (by
    have h := hts (mWd J) List.mem_cons_self
    rw [mWd, if_neg hh] at h
    exact h)
  exact k p l e (mR d c0 s0) s m _ below meth c s.heap [] 0 0 _ D cd ad ad aC (va_A (mWs cd ad aC N sh σ) s.heap.size) c0 s0
    ⟨⟨B.exec, B.bytes, hml, B.returns⟩, ⟨findClass_of_methodNamed B.named, fun w hw => hts w (List.mem_cons_of_mem _ hw)⟩, ⟨B.notSynchronized, (name_of_methodNamed B.named B.method).1, hl0⟩, htab, ⟨Nat.le_refl _, Nat.le_refl _⟩, hC, fun q hq => Or.inr hq⟩
    ⟨hY.1, hY.2.1, hY.2.2.1.self, hY.2.2.2⟩ va_S.rf hl ⟨Nat.le_refl _, fun _ _ => rfl⟩ ⟨by omega, by omega, Nat.le_refl _, Nat.le_refl _⟩ ⟨mArgs_ok av 0 hok, fun v hv => absurd hv List.not_mem_nil⟩
