theorem mK_objInit {Γ : Nat × (Nat → Int32)} {I : mM} {d : Nat} {Q : mQ} {n0 bc bs pc : Nat} {lv : List (Nat × Value)} {st : List Value} {N : Nat} {sh : mH} {σ : mS} {n j : Nat} (hd : decode I.2.1 pc = .ok (.invokespecial n, 3)) (hcat : (st.map fun v => v.category).sum ≤ 8) (hw1 : Cond.methodLink I.1.cls n Lib.objectInit ∈ mBig) (hw2 : Cond.instanceMethod Lib.objectInit ∈ mBig) (hw3 : Cond.code Lib.objectInit ⟨#[0xb1]⟩ 1 none ∈ mBig) (k : mK Γ I d Q n0 bc bs (pc + 3) lv (st) N sh σ) : mK Γ I d Q n0 bc bs (pc) lv (.ref j :: st) N sh σ := by
  intro p l e R s m args below meth c H locs cells slots ls D cd ad ad0 aC A mc ms hX hY hS hl hag hb hc
  have h8 := mHl (cd := cd) (ad := ad) hcat
  have hr := hX.2.2.2.2.1.2
  exact W.objInit hX.1.1 hX.1.2.1 hX.2.1.1 (hX.2.1.2 _ hw1) (hX.2.1.2 _ hw2) (hX.2.1.2 _ hw3) (g := F0 m pc ls (.ref (mAd cd ad j) :: st.map (mV cd ad))) rfl (hl.1.trans hX.1.2.2.1.symm) rfl hd (by have := hX.2.2.2.2.1.1; omega) (by
    have h0 : (F0 m pc ls (.ref (mAd cd ad j) :: st.map (mV cd ad))).monitorRoom = 0 := rfl
    rw [h0]; omega) (k p l e R s m args below meth c H locs cells slots ls D cd ad ad0 aC A mc ms hX hY hS hl hag hb hc.pop)
def mRowI (σ : mS) (j : Nat) (f : Nat → Int32) : mS := (fun a => if a = j then f else σ.1 a, σ.2.1, σ.2.2)
def mRowL (σ : mS) (j : Nat) (f : Nat → Int64) : mS := (σ.1, fun a => if a = j then f else σ.2.1 a, σ.2.2)
theorem mK_copyI {Γ : Nat × (Nat → Int32)} {I : mM} {d : Nat} {Q : mQ} {n0 bc bs pc : Nat} {lv : List (Nat × Value)} {st : List Value} {N : Nat} {sh : mH} {σ : mS} {ix j1 j2 : Nat} {sp dp n : Int32} (hd : decode I.2.1 pc = .ok (.invokestatic ix, 3)) (hj1 : j1 < N) (hj2 : j2 < N) (ht1 : (sh j1).1 = 100 + 0) (ht2 : (sh j2).1 = 100 + 0) (h1 : ¬ sp < 0) (h2 : ¬ dp < 0) (h3 : ¬ n < 0) (h4 : sp.toNatClampNeg + n.toNatClampNeg ≤ (sh j1).2.1) (h5 : dp.toNatClampNeg + n.toNatClampNeg ≤ (sh j2).2.1) (hcat : (st.map fun v => v.category).sum ≤ 8) (hw1 : Cond.methodLink I.1.cls ix arraycopyName ∈ mBig) (hw2 : Cond.native arraycopyName ∈ mBig) (hw3 : Cond.static arraycopyName ∈ mBig) (hw4 : Cond.initialized "java/lang/System" ∈ mBig)
    (k : mK Γ I d Q n0 bc bs (pc + 3) lv (st) N sh (mRowI σ j2 (va_cpy (σ.1 j1) (σ.1 j2) sp.toNatClampNeg dp.toNatClampNeg n.toNatClampNeg))) : mK Γ I d Q n0 bc bs (pc) lv (.int n :: .int dp :: .ref j2 :: .int sp :: .ref j1 :: st) N sh σ := by
  intro p l e R s m args below meth c H locs cells slots ls D cd ad ad0 aC A mc ms hX hY hS hl hag hb hc
  have hY0 := hY
  obtain ⟨hP, ⟨tys, hK, hty⟩, hD, hN, hcl⟩ := hY
  obtain ⟨t1, e1⟩ := mTys (hty j1 hj1 (by omega))
  obtain ⟨t2, e2⟩ := mTys (hty j2 hj2 (by omega))
  rw [ht1, Nat.add_sub_cancel_left] at e1
  rw [ht2, Nat.add_sub_cancel_left] at e2
  have h8 := mHl (cd := cd) (ad := ad) hcat
  have hr := hX.2.2.2.2.1.2
  rw [List.map_cons, List.map_cons, List.map_cons, List.map_cons, List.map_cons, show mV cd ad (.ref j1) = .ref (ad j1) from congrArg Value.ref (mAd_lo (by omega)), show mV cd ad (.ref j2) = .ref (ad j2) from congrArg Value.ref (mAd_lo (by omega))]
  exact va_copyi hX.1.1 hX.1.2.1 (hX.1.2.2.1.trans hl.1.symm) hX.2.1.1 (hX.2.1.2 _ hw1) (hX.2.1.2 _ hw2) (hX.2.1.2 _ hw3) (hX.2.1.2 _ hw4) hK hP hD hS j1 j2 t1 t2 (mWs_arr hj1 ht1) (mWs_arr hj2 ht2) e1 e2 rfl h1 h2 h3 h4 h5 (fun _ _ => rfl) (by have := hX.2.2.2.2.1.1; omega) (by
    have h9 : nativeFrameWords "java/lang/System" "arraycopy" 5 ≤ 100 := by decide +kernel
    omega) hd (fun H1 locs1 hP1 hD1 hS1 => k p l e R s m args below meth c H1 locs1 cells slots ls D cd ad ad0 aC A mc ms hX (mY_put hY0 (by rw [mCl_arr ht2]; simp [mAr, mRowI]) (fun a q => ⟨by simp [mRowI, q], rfl, rfl⟩) hP1 hD1) hS1 hl hag hb hc.pop.pop.pop.pop.pop)
theorem mK_copyL {Γ : Nat × (Nat → Int32)} {I : mM} {d : Nat} {Q : mQ} {n0 bc bs pc : Nat} {lv : List (Nat × Value)} {st : List Value} {N : Nat} {sh : mH} {σ : mS} {ix j1 j2 : Nat} {sp dp n : Int32} (hd : decode I.2.1 pc = .ok (.invokestatic ix, 3)) (hj1 : j1 < N) (hj2 : j2 < N) (ht1 : (sh j1).1 = 100 + 3) (ht2 : (sh j2).1 = 100 + 3) (h1 : ¬ sp < 0) (h2 : ¬ dp < 0) (h3 : ¬ n < 0) (h4 : sp.toNatClampNeg + n.toNatClampNeg ≤ (sh j1).2.1) (h5 : dp.toNatClampNeg + n.toNatClampNeg ≤ (sh j2).2.1) (hcat : (st.map fun v => v.category).sum ≤ 8) (hw1 : Cond.methodLink I.1.cls ix arraycopyName ∈ mBig) (hw2 : Cond.native arraycopyName ∈ mBig) (hw3 : Cond.static arraycopyName ∈ mBig) (hw4 : Cond.initialized "java/lang/System" ∈ mBig)
    (k : mK Γ I d Q n0 bc bs (pc + 3) lv (st) N sh (mRowL σ j2 (va_cpy (σ.2.1 j1) (σ.2.1 j2) sp.toNatClampNeg dp.toNatClampNeg n.toNatClampNeg))) : mK Γ I d Q n0 bc bs (pc) lv (.int n :: .int dp :: .ref j2 :: .int sp :: .ref j1 :: st) N sh σ := by
  intro p l e R s m args below meth c H locs cells slots ls D cd ad ad0 aC A mc ms hX hY hS hl hag hb hc
  have hY0 := hY
  obtain ⟨hP, ⟨tys, hK, hty⟩, hD, hN, hcl⟩ := hY
  obtain ⟨t1, e1⟩ := mTys (hty j1 hj1 (by omega))
  obtain ⟨t2, e2⟩ := mTys (hty j2 hj2 (by omega))
  rw [ht1, Nat.add_sub_cancel_left] at e1
  rw [ht2, Nat.add_sub_cancel_left] at e2
  have h8 := mHl (cd := cd) (ad := ad) hcat
  have hr := hX.2.2.2.2.1.2
  rw [List.map_cons, List.map_cons, List.map_cons, List.map_cons, List.map_cons, show mV cd ad (.ref j1) = .ref (ad j1) from congrArg Value.ref (mAd_lo (by omega)), show mV cd ad (.ref j2) = .ref (ad j2) from congrArg Value.ref (mAd_lo (by omega))]
  exact va_copyl hX.1.1 hX.1.2.1 (hX.1.2.2.1.trans hl.1.symm) hX.2.1.1 (hX.2.1.2 _ hw1) (hX.2.1.2 _ hw2) (hX.2.1.2 _ hw3) (hX.2.1.2 _ hw4) hK hP hD hS j1 j2 t1 t2 (mWs_arr hj1 ht1) (mWs_arr hj2 ht2) e1 e2 rfl h1 h2 h3 h4 h5 (fun _ _ => rfl) (by have := hX.2.2.2.2.1.1; omega) (by
    have h9 : nativeFrameWords "java/lang/System" "arraycopy" 5 ≤ 100 := by decide +kernel
    omega) hd (fun H1 locs1 hP1 hD1 hS1 => k p l e R s m args below meth c H1 locs1 cells slots ls D cd ad ad0 aC A mc ms hX (mY_put hY0 (by rw [mCl_arr ht2]; simp [mAr, mRowL]) (fun a q => ⟨rfl, by simp [mRowL, q], rfl⟩) hP1 hD1) hS1 hl hag hb hc.pop.pop.pop.pop.pop)
theorem mY.grown {D : va_G} {cd ad : Nat → Nat} {aC : Nat → ClassId} {A : Nat → Prop} {N : Nat} {sh : mH} {σ : mS} {U : State} {H H1 : Heap} (h : mY D cd ad aC A N sh σ U H) (hq : ∀ q : Nat, q < H.size → H1[q]? = H[q]?) : mY D cd ad aC A N sh σ U H1 :=
  ⟨h.1.kept (fun k q hk => hq _ (vx_lt h.1 hk)), h.2⟩
theorem mK_throw {Γ : Nat × (Nat → Int32)} {I : mM} {d : Nat} {Q : mQ} {n0 bc bs pc : Nat} {lv : List (Nat × Value)} {st : List Value} {N : Nat} {sh : mH} {σ : mS} {ik is ic : Nat} {E text : String} (hd0 : decode I.2.1 pc = .ok (.new ik, 3)) (hd3 : decode I.2.1 (pc + 3) = .ok (.dup, 1)) (hd4 : decode I.2.1 (pc + 4) = .ok (.ldc is, 2)) (hd6 : decode I.2.1 (pc + 6) = .ok (.invokespecial ic, 3)) (hd9 : decode I.2.1 (pc + 9) = .ok (.athrow, 1))
    (hI : I.1.cls = RX7) (hh : I.2.2.2.2 = []) (htx : (is, text) ∈ mTx) (hcat : (st.map fun v => v.category).sum ≤ 8) (hbc : 1 ≤ bc) (hbs : 6 ≤ bs) (hfit : Bundle.fit E = true) (hw1 : Cond.classLink I.1.cls ik E ∈ mBig) (hw2 : Cond.initialized E ∈ mBig)
    (hat : ∀ w ∈ vx_atS RX7 ic E ["java/lang/RuntimeException", "java/lang/Exception"], w ∈ mBig ∨ (w ∈ mNd ∧ w.onTables = true)) (hQ : Q (.inr E) N sh σ) : mK Γ I d Q n0 bc bs (pc) lv (st) N sh σ := by
  intro p l e R s m args below meth c H locs cells slots ls D cd ad ad0 aC A mc ms hX hY hS hl hag hb hc
  have h8 := mHl (cd := cd) (ad := ad) hcat
  have hC := hX.2.2.2.2.2.1
  obtain ⟨sa, hsa⟩ := hC.2.2.2.2.2.2.1 (is, text) htx
  have hon : ∀ w ∈ vx_atS RX7 ic E ["java/lang/RuntimeException", "java/lang/Exception"], w.before args s = true ∧ vx_ot w = true := fun w hw => by
    rcases hat w hw with q | q
    · exact ⟨hX.2.1.2 w q, by have := (List.mem_filter.mp q).2; simp [vx_ot, this]⟩
    · exact ⟨va_Nw.use q.2 (hX.2.2.2.2.2.1.2.2.2.2.2.2.2.2.2.2.2 w q.1), by simp [vx_ot, q.2]⟩
  have hg1 : vx_ot (Cond.classLink I.1.cls ik E) = true := rfl
  have hg2 : vx_ot (Cond.initialized E) = true := rfl
  refine vx_throwS (names := ["java/lang/RuntimeException", "java/lang/Exception"]) (text := text) (sa := sa) (A := A) hX.1.1 hX.1.2.1 hX.2.2.1.2.2 hX.2.1.1 hfit (by decide +kernel) (hX.2.1.2 _ hw1) (hX.2.1.2 _ hw2) (by rw [hI]; exact hsa) (fun w hw => (hon w (by rw [← hI]; exact hw)).1) (fun w hw => ?_) hC.2.2.2.2.2.2.2.1 hC.2.2.2.2.2.2.2.2.1 hS (hl.1.trans hX.1.2.2.1.symm) hd0 hd3 hd4 hd6 hd9 (fun x hx => by rw [hX.2.2.2.1, hh] at hx; exact absurd hx List.not_mem_nil) (by have := hX.2.2.2.2.1.1; simp only [List.length_cons, List.length_nil]; omega) (by have := hX.2.2.2.2.1.2; simp only [List.length_cons, List.length_nil]; omega) (by omega) (by omega) hX.2.2.1.1 (fun t hv hsz hq => ?_) hS.2.2 (by omega) (by omega)
  · rcases List.mem_cons.mp hw with q | hw
    · exact q ▸ hg1
    rcases List.mem_cons.mp hw with q | hw
    · exact q ▸ hg2
    exact (hon w (by rw [← hI]; exact hw)).2
  · refine ⟨N, sh, σ, ad, aC, hQ, hag, (hY.grown hq).to hv (fun _ h => h), ⟨Nat.le_trans hS.1 hsz, fun q h1 h2 => ?_⟩⟩
    rw [hq q (Nat.lt_of_lt_of_le h1 hS.1), hS.2.1 q h1 h2]
set_option maxRecDepth 20000 in
theorem mTh_00 : (vx_atS RX7 77 "java/lang/IllegalStateException" ["java/lang/RuntimeException", "java/lang/Exception"]).all (fun w => decide (w ∈ lw_tbl) && (goodWord w || (mNwK w && w.onTables))) = true := by decide +kernel
theorem mTh_0 : ∀ w ∈ vx_atS RX7 77 "java/lang/IllegalStateException" ["java/lang/RuntimeException", "java/lang/Exception"], w ∈ mBig ∨ (w ∈ mNd ∧ w.onTables = true) := fun w hw => by
  have h := List.all_eq_true.mp mTh_00 w hw
  simp only [Bool.and_eq_true, Bool.or_eq_true, decide_eq_true_eq] at h
  rcases h.2 with q | q
  · exact Or.inl (mBig_in h.1 q)
  · exact Or.inr ⟨mNw_in h.1 q.1, q.2⟩
set_option maxRecDepth 20000 in
theorem mTh_10 : (vx_atS RX7 87 "java/lang/IllegalArgumentException" ["java/lang/RuntimeException", "java/lang/Exception"]).all (fun w => decide (w ∈ lw_tbl) && (goodWord w || (mNwK w && w.onTables))) = true := by decide +kernel
theorem mTh_1 : ∀ w ∈ vx_atS RX7 87 "java/lang/IllegalArgumentException" ["java/lang/RuntimeException", "java/lang/Exception"], w ∈ mBig ∨ (w ∈ mNd ∧ w.onTables = true) := fun w hw => by
  have h := List.all_eq_true.mp mTh_10 w hw
  simp only [Bool.and_eq_true, Bool.or_eq_true, decide_eq_true_eq] at h
  rcases h.2 with q | q
  · exact Or.inl (mBig_in h.1 q)
  · exact Or.inr ⟨mNw_in h.1 q.1, q.2⟩
set_option maxRecDepth 20000 in
theorem mTh_20 : (vx_atS RX7 149 "java/lang/IndexOutOfBoundsException" ["java/lang/RuntimeException", "java/lang/Exception"]).all (fun w => decide (w ∈ lw_tbl) && (goodWord w || (mNwK w && w.onTables))) = true := by decide +kernel
theorem mTh_2 : ∀ w ∈ vx_atS RX7 149 "java/lang/IndexOutOfBoundsException" ["java/lang/RuntimeException", "java/lang/Exception"], w ∈ mBig ∨ (w ∈ mNd ∧ w.onTables = true) := fun w hw => by
  have h := List.all_eq_true.mp mTh_20 w hw
  simp only [Bool.and_eq_true, Bool.or_eq_true, decide_eq_true_eq] at h
  rcases h.2 with q | q
  · exact Or.inl (mBig_in h.1 q)
  · exact Or.inr ⟨mNw_in h.1 q.1, q.2⟩
