theorem mK_ldcS {Γ : Nat × (Nat → Int32)} {I : mM} {d : Nat} {Q : mQ} {n0 bc bs pc : Nat} {lv : List (Nat × Value)} {st : List Value} {N : Nat} {sh : mH} {σ : mS} {n i : Nat} {pc1 : Nat} (hd : decode I.2.1 pc = .ok (.ldc n, 2)) (hp : pc + 2 = pc1) (hi : i < 21) (hn : mScL.getD i 0 = n) (hI : I.1.cls = RX9) (k : mK Γ I d Q n0 bc bs (pc1) lv (.ref (1200 + i) :: st) N sh σ) : mK Γ I d Q n0 bc bs (pc) lv (st) N sh σ := by
  subst hp
  intro p l e R s m args below meth c H locs cells slots ls D cd ad ad0 aC A mc ms hX hY hS hl hag hb hc
  have h := k p l e R s m args below meth c H locs cells slots ls D cd ad ad0 aC A mc ms hX hY hS hl hag hb (hc.push (mOk_hi (by omega)))
  rw [List.map_cons, show mV cd ad (.ref (1200 + i)) = .ref (cd ((1200 + i))) from congrArg Value.ref (mAd_hi (by omega))] at h
  have hr := hX.2.2.2.2.2.1.2.2.2.2.1 i hi
  rw [hn, ← hI] at hr
  exact va_ldcS hX.1.1 hX.1.2.1 hX.2.1.1 hr hd h
theorem mK_getE {Γ : Nat × (Nat → Int32)} {I : mM} {d : Nat} {Q : mQ} {n0 bc bs pc : Nat} {lv : List (Nat × Value)} {st : List Value} {N : Nat} {sh : mH} {σ : mS} {n i : Nat} {pc1 : Nat} (hd : decode I.2.1 pc = .ok (.getstatic n, 3)) (hp : pc + 3 = pc1) (hi : i < 28) (hw : Cond.fieldLink I.1.cls n "DebateHall$Kind" (mKn.getD i "") "LDebateHall$Kind;" ∈ mBig) (k : mK Γ I d Q n0 bc bs (pc1) lv (.ref (1000 + i) :: st) N sh σ) : mK Γ I d Q n0 bc bs (pc) lv (st) N sh σ := by
  subst hp
  intro p l e R s m args below meth c H locs cells slots ls D cd ad ad0 aC A mc ms hX hY hS hl hag hb hc
  have h := k p l e R s m args below meth c H locs cells slots ls D cd ad ad0 aC A mc ms hX hY hS hl hag hb (hc.push (mOk_hi (by omega)))
  rw [List.map_cons, show mV cd ad (.ref (1000 + i)) = .ref (cd ((1000 + i))) from congrArg Value.ref (mAd_hi (by omega))] at h
  exact va_gets hX.1.1 hX.1.2.1 (hX.2.2.2.2.2.1.1.1.1 i hi).1 hS hX.2.1.1 (hX.2.1.2 _ hw) (fun _ h => h) hd h
theorem mK_getA {Γ : Nat × (Nat → Int32)} {I : mM} {d : Nat} {Q : mQ} {n0 bc bs pc : Nat} {lv : List (Nat × Value)} {st : List Value} {N : Nat} {sh : mH} {σ : mS} {n : Nat} {pc1 : Nat} (hd : decode I.2.1 pc = .ok (.getstatic n, 3)) (hp : pc + 3 = pc1) (hw : Cond.fieldLink I.1.cls n "DebateHall$Kind" "ALL" "[LDebateHall$Kind;" ∈ mBig) (k : mK Γ I d Q n0 bc bs (pc1) lv (.ref 1100 :: st) N sh σ) : mK Γ I d Q n0 bc bs (pc) lv (st) N sh σ := by
  subst hp
  intro p l e R s m args below meth c H locs cells slots ls D cd ad ad0 aC A mc ms hX hY hS hl hag hb hc
  have h := k p l e R s m args below meth c H locs cells slots ls D cd ad ad0 aC A mc ms hX hY hS hl hag hb (hc.push (mOk_hi (by omega)))
  rw [List.map_cons, show mV cd ad (.ref 1100) = .ref (cd (1100)) from congrArg Value.ref (mAd_hi (by omega))] at h
  exact va_gets hX.1.1 hX.1.2.1 hX.2.2.2.2.2.1.2.1.1 hS hX.2.1.1 (hX.2.1.2 _ hw) (fun _ h => h) hd h
theorem mK_getY {Γ : Nat × (Nat → Int32)} {I : mM} {d : Nat} {Q : mQ} {n0 bc bs pc : Nat} {lv : List (Nat × Value)} {st : List Value} {N : Nat} {sh : mH} {σ : mS} {n : Nat} {pc1 : Nat} (hd : decode I.2.1 pc = .ok (.getstatic n, 3)) (hp : pc + 3 = pc1) (hw : Cond.fieldLink I.1.cls n "DebateHallModel" "KEYS" "[J" ∈ mBig) (k : mK Γ I d Q n0 bc bs (pc1) lv (.ref 1101 :: st) N sh σ) : mK Γ I d Q n0 bc bs (pc) lv (st) N sh σ := by
  subst hp
  intro p l e R s m args below meth c H locs cells slots ls D cd ad ad0 aC A mc ms hX hY hS hl hag hb hc
  have h := k p l e R s m args below meth c H locs cells slots ls D cd ad ad0 aC A mc ms hX hY hS hl hag hb (hc.push (mOk_hi (by omega)))
  rw [List.map_cons, show mV cd ad (.ref 1101) = .ref (cd (1101)) from congrArg Value.ref (mAd_hi (by omega))] at h
  exact va_gets hX.1.1 hX.1.2.1 hX.2.2.2.2.2.1.2.2.1.1 hS hX.2.1.1 (hX.2.1.2 _ hw) (fun _ h => h) hd h
theorem mK_aldA {Γ : Nat × (Nat → Int32)} {I : mM} {d : Nat} {Q : mQ} {n0 bc bs pc : Nat} {lv : List (Nat × Value)} {st : List Value} {N : Nat} {sh : mH} {σ : mS}  {x : Int32} {pc1 : Nat} (hd : decode I.2.1 pc = .ok (.aaload, 1)) (hp : pc + 1 = pc1) (hin : vp_in x 28) (k : mK Γ I d Q n0 bc bs (pc1) lv (.ref (1000 + x.toNatClampNeg) :: st) N sh σ) : mK Γ I d Q n0 bc bs (pc) lv (.int x :: .ref 1100 :: st) N sh σ := by
  subst hp
  intro p l e R s m args below meth c H locs cells slots ls D cd ad ad0 aC A mc ms hX hY hS hl hag hb hc
  have h := k p l e R s m args below meth c H locs cells slots ls D cd ad ad0 aC A mc ms hX hY hS hl hag hb (hc.pop.pop.push (mOk_hi (by omega)))
  rw [List.map_cons, show mV cd ad (.ref (1000 + x.toNatClampNeg)) = .ref (cd ((1000 + x.toNatClampNeg))) from congrArg Value.ref (mAd_hi (by omega))] at h
  rw [List.map_cons, List.map_cons, show mV cd ad (.ref 1100) = .ref (cd (1100)) from congrArg Value.ref (mAd_hi (by omega))]
  exact vb_tq hX.1.1 hX.1.2.1 hX.2.2.2.2.2.1.2.1.2 hS hin rfl hd h
theorem mK_aldY {Γ : Nat × (Nat → Int32)} {I : mM} {d : Nat} {Q : mQ} {n0 bc bs pc : Nat} {lv : List (Nat × Value)} {st : List Value} {N : Nat} {sh : mH} {σ : mS} {x : Int32} {pc1 : Nat} (hd : decode I.2.1 pc = .ok (.laload, 1)) (hp : pc + 1 = pc1) (hin : vp_in x 21) (k : mK Γ I d Q n0 bc bs (pc1) lv (.long (mKy x.toNatClampNeg) :: st) N sh σ) : mK Γ I d Q n0 bc bs (pc) lv (.int x :: .ref 1101 :: st) N sh σ := by
  subst hp
  intro p l e R s m args below meth c H locs cells slots ls D cd ad ad0 aC A mc ms hX hY hS hl hag hb hc
  rw [List.map_cons, List.map_cons, show mV cd ad (.ref 1101) = .ref (cd (1101)) from congrArg Value.ref (mAd_hi (by omega))]
  exact va_tl hX.1.1 hX.1.2.1 hX.2.2.2.2.2.1.2.2.1.2 hS hin rfl hd (k p l e R s m args below meth c H locs cells slots ls D cd ad ad0 aC A mc ms hX hY hS hl hag hb (hc.pop.pop.push mOk_l))
theorem mK_alnA {Γ : Nat × (Nat → Int32)} {I : mM} {d : Nat} {Q : mQ} {n0 bc bs pc : Nat} {lv : List (Nat × Value)} {st : List Value} {N : Nat} {sh : mH} {σ : mS} {pc1 : Nat} (hd : decode I.2.1 pc = .ok (.arraylength, 1)) (hp : pc + 1 = pc1) (k : mK Γ I d Q n0 bc bs (pc1) lv (.int (Int32.ofNat 28) :: st) N sh σ) : mK Γ I d Q n0 bc bs (pc) lv (.ref 1100 :: st) N sh σ := by
  subst hp
  intro p l e R s m args below meth c H locs cells slots ls D cd ad ad0 aC A mc ms hX hY hS hl hag hb hc
  rw [List.map_cons, show mV cd ad (.ref 1100) = .ref (cd (1100)) from congrArg Value.ref (mAd_hi (by omega))]
  exact va_tlen hX.1.1 hX.1.2.1 hX.2.2.2.2.2.1.2.1.2 hS rfl hd (k p l e R s m args below meth c H locs cells slots ls D cd ad ad0 aC A mc ms hX hY hS hl hag hb (hc.pop.push mOk_i))
theorem mK_alnY {Γ : Nat × (Nat → Int32)} {I : mM} {d : Nat} {Q : mQ} {n0 bc bs pc : Nat} {lv : List (Nat × Value)} {st : List Value} {N : Nat} {sh : mH} {σ : mS} {pc1 : Nat} (hd : decode I.2.1 pc = .ok (.arraylength, 1)) (hp : pc + 1 = pc1) (k : mK Γ I d Q n0 bc bs (pc1) lv (.int (Int32.ofNat 21) :: st) N sh σ) : mK Γ I d Q n0 bc bs (pc) lv (.ref 1101 :: st) N sh σ := by
  subst hp
  intro p l e R s m args below meth c H locs cells slots ls D cd ad ad0 aC A mc ms hX hY hS hl hag hb hc
  rw [List.map_cons, show mV cd ad (.ref 1101) = .ref (cd (1101)) from congrArg Value.ref (mAd_hi (by omega))]
  exact va_tlen hX.1.1 hX.1.2.1 hX.2.2.2.2.2.1.2.2.1.2 hS rfl hd (k p l e R s m args below meth c H locs cells slots ls D cd ad ad0 aC A mc ms hX hY hS hl hag hb (hc.pop.push mOk_i))
theorem mX_lt {b L : Nat} {xs : Nat → Int32} {U : State} {H : Heap} (h : va_X b L xs U H) : b < H.size := by
  obtain ⟨scr, h1, -⟩ := h
  exact (Array.getElem?_eq_some_iff.mp h1).1
theorem mK_sld {Γ : Nat × (Nat → Int32)} {I : mM} {d : Nat} {Q : mQ} {n0 bc bs pc : Nat} {lv : List (Nat × Value)} {st : List Value} {N : Nat} {sh : mH} {σ : mS} {x : Int32} {pc1 : Nat} (hd : decode I.2.1 pc = .ok (.iaload, 1)) (hp : pc + 1 = pc1) (hin : vp_in x Γ.1) (k : mK Γ I d Q n0 bc bs (pc1) lv (.int (Γ.2 x.toNatClampNeg) :: st) N sh σ) : mK Γ I d Q n0 bc bs (pc) lv (.int x :: .ref 1300 :: st) N sh σ := by
  subst hp
  intro p l e R s m args below meth c H locs cells slots ls D cd ad ad0 aC A mc ms hX hY hS hl hag hb hc
  have hx := hX.2.2.2.2.2.1.2.2.2.2.2.2.2.2.2
  rw [List.map_cons, List.map_cons, show mV cd ad (.ref 1300) = .ref (cd (1300)) from congrArg Value.ref (mAd_hi (by omega))]
  exact va_sld hX.1.1 hX.1.2.1 hx.1 (mX_lt hx.1) hx.2.1 hS hin hd (k p l e R s m args below meth c H locs cells slots ls D cd ad ad0 aC A mc ms hX hY hS hl hag hb (hc.pop.pop.push mOk_i))
theorem mK_slen {Γ : Nat × (Nat → Int32)} {I : mM} {d : Nat} {Q : mQ} {n0 bc bs pc : Nat} {lv : List (Nat × Value)} {st : List Value} {N : Nat} {sh : mH} {σ : mS} {pc1 : Nat} (hd : decode I.2.1 pc = .ok (.arraylength, 1)) (hp : pc + 1 = pc1) (k : mK Γ I d Q n0 bc bs (pc1) lv (.int (Int32.ofNat Γ.1) :: st) N sh σ) : mK Γ I d Q n0 bc bs (pc) lv (.ref 1300 :: st) N sh σ := by
  subst hp
  intro p l e R s m args below meth c H locs cells slots ls D cd ad ad0 aC A mc ms hX hY hS hl hag hb hc
  have hx := hX.2.2.2.2.2.1.2.2.2.2.2.2.2.2.2
  rw [List.map_cons, show mV cd ad (.ref 1300) = .ref (cd (1300)) from congrArg Value.ref (mAd_hi (by omega))]
  exact va_slen hX.1.1 hX.1.2.1 hx.1 (mX_lt hx.1) hx.2.1 hS hd (k p l e R s m args below meth c H locs cells slots ls D cd ad ad0 aC A mc ms hX hY hS hl hag hb (hc.pop.push mOk_i))
theorem mK_code {Γ : Nat × (Nat → Int32)} {I : mM} {d : Nat} {Q : mQ} {n0 bc bs pc : Nat} {lv : List (Nat × Value)} {st : List Value} {N : Nat} {sh : mH} {σ : mS} {n i : Nat} {pc1 : Nat} (hd : decode I.2.1 pc = .ok (.getfield n, 3)) (hp : pc + 3 = pc1) (hi : i < 28) (hw : Cond.fieldLink I.1.cls n "DebateHall$Kind" "code" "J" ∈ mBig) (k : mK Γ I d Q n0 bc bs (pc1) lv (.long (mKc i) :: st) N sh σ) : mK Γ I d Q n0 bc bs (pc) lv (.ref (1000 + i) :: st) N sh σ := by
  subst hp
  intro p l e R s m args below meth c H locs cells slots ls D cd ad ad0 aC A mc ms hX hY hS hl hag hb hc
  rw [List.map_cons, show mV cd ad (.ref (1000 + i)) = .ref (cd ((1000 + i))) from congrArg Value.ref (mAd_hi (by omega))]
  exact va_getX (ad := fun i => cd (1000 + i)) (v := fun i => .long (mKc i)) (i := i) hX.1.1 hX.1.2.1 hX.2.2.2.2.2.1.1.2 hi hS hX.2.1.1 (hX.2.1.2 _ hw) (fun _ h => h) hd (k p l e R s m args below meth c H locs cells slots ls D cd ad ad0 aC A mc ms hX hY hS hl hag hb (hc.pop.push mOk_l))
theorem mK_acmp_eq {Γ : Nat × (Nat → Int32)} {I : mM} {d : Nat} {Q : mQ} {n0 bc bs pc : Nat} {lv : List (Nat × Value)} {st : List Value} {N : Nat} {sh : mH} {σ : mS} {off : Int} {tgt a b : Nat} {pc1 : Nat} (hd : decode I.2.1 pc = .ok (.if_acmp .eq off, 3)) (hp : pc + 3 = pc1) (ht : (pc : Int) + off = (tgt : Int)) (ha : a < 28) (hb0 : b < 28) (kt : a = b → mK Γ I d Q n0 bc bs (tgt) lv (st) N sh σ) (kf : ¬ a = b → mK Γ I d Q n0 bc bs (pc1) lv (st) N sh σ) : mK Γ I d Q n0 bc bs (pc) lv (.ref (1000 + b) :: .ref (1000 + a) :: st) N sh σ := by
  subst hp
  intro p l e R s m args below meth c H locs cells slots ls D cd ad ad0 aC A mc ms hX hY hS hl hag hb hc
  rw [List.map_cons, List.map_cons, show mV cd ad (.ref (1000 + b)) = .ref (cd ((1000 + b))) from congrArg Value.ref (mAd_hi (by omega)), show mV cd ad (.ref (1000 + a)) = .ref (cd ((1000 + a))) from congrArg Value.ref (mAd_hi (by omega))]
  have hin : cd (1000 + a) = cd (1000 + b) → a = b := hX.2.2.2.2.2.1.1.1.2 a b ha hb0
  exact lv_acmp_eq hX.1.1 hX.1.2.1 (rx := some (cd (1000 + a))) (ry := some (cd (1000 + b))) hd ht (fun q => kt (hin (Option.some.inj q)) p l e R s m args below meth c H locs cells slots ls D cd ad ad0 aC A mc ms hX hY hS hl hag hb hc.pop.pop) (fun q => kf (fun z => q (by rw [z])) p l e R s m args below meth c H locs cells slots ls D cd ad ad0 aC A mc ms hX hY hS hl hag hb hc.pop.pop)
theorem mK_acmp_ne {Γ : Nat × (Nat → Int32)} {I : mM} {d : Nat} {Q : mQ} {n0 bc bs pc : Nat} {lv : List (Nat × Value)} {st : List Value} {N : Nat} {sh : mH} {σ : mS} {off : Int} {tgt a b : Nat} {pc1 : Nat} (hd : decode I.2.1 pc = .ok (.if_acmp .ne off, 3)) (hp : pc + 3 = pc1) (ht : (pc : Int) + off = (tgt : Int)) (ha : a < 28) (hb0 : b < 28) (kt : a = b → mK Γ I d Q n0 bc bs (pc1) lv (st) N sh σ) (kf : ¬ a = b → mK Γ I d Q n0 bc bs (tgt) lv (st) N sh σ) : mK Γ I d Q n0 bc bs (pc) lv (.ref (1000 + b) :: .ref (1000 + a) :: st) N sh σ := by
  subst hp
  intro p l e R s m args below meth c H locs cells slots ls D cd ad ad0 aC A mc ms hX hY hS hl hag hb hc
  rw [List.map_cons, List.map_cons, show mV cd ad (.ref (1000 + b)) = .ref (cd ((1000 + b))) from congrArg Value.ref (mAd_hi (by omega)), show mV cd ad (.ref (1000 + a)) = .ref (cd ((1000 + a))) from congrArg Value.ref (mAd_hi (by omega))]
  have hin : cd (1000 + a) = cd (1000 + b) → a = b := hX.2.2.2.2.2.1.1.1.2 a b ha hb0
  exact lv_acmp_ne hX.1.1 hX.1.2.1 (rx := some (cd (1000 + a))) (ry := some (cd (1000 + b))) hd ht (fun q => kf (fun z => q (by rw [z])) p l e R s m args below meth c H locs cells slots ls D cd ad ad0 aC A mc ms hX hY hS hl hag hb hc.pop.pop) (fun q => kt (hin (Option.some.inj q)) p l e R s m args below meth c H locs cells slots ls D cd ad ad0 aC A mc ms hX hY hS hl hag hb hc.pop.pop)
theorem mY.to {D : va_G} {cd ad : Nat → Nat} {aC : Nat → ClassId} {A B : Nat → Prop} {N : Nat} {sh : mH} {σ : mS} {u U : State} {H : Heap} (h : mY D cd ad aC A N sh σ u H) (hv : u.vm.Alike U.vm) (hAB : ∀ q, A q → B q) : mY D cd ad aC B N sh σ U H := by
  obtain ⟨hP, ⟨tys, hK, hty⟩, hD, hN⟩ := h
  exact ⟨hP, ⟨tys, va_K.moved hv hK, hty⟩, hD.weaken (fun _ q _ h => hAB q.1 h), hN⟩
theorem mQ_of {Q : mQ} {D : va_G} {cd ad0 ad : Nat → Nat} {aC : Nat → ClassId} {n0 N : Nat} {A : Nat → Prop} {sh : mH} {σ : mS} {args : Array Value} {s : State} {H : Heap} {locs : List Loc} {v : Option Value} (hQ : Q (.inl v) N sh σ) (hok : mOkO N v) (hY : mY D cd ad aC A N sh σ s H) (hS : va_S A s.heap H locs) (hag : n0 ≤ N ∧ ∀ j, j < n0 → ad j = ad0 j) :
    ∀ t : State, t.heap = H → s.WarmedH t.vm → mQc Q D cd ad0 n0 A args s (.returned (v.map (mV cd ad))) t := by
  intro t ht hW
  subst ht
  exact ⟨v, N, sh, σ, ad, aC, rfl, ⟨hQ, hok⟩, hag, hY.to hW.alike (fun _ h => h), hS.F rfl⟩
theorem mX_of {Q : mQ} {D : va_G} {cd ad0 ad : Nat → Nat} {aC : Nat → ClassId} {n0 N : Nat} {A : Nat → Prop} {sh : mH} {σ : mS} {s : State} {H : Heap} {locs : List Loc} {E : String} (hQ : Q (.inr E) N sh σ) (hY : mY D cd ad aC A N sh σ s H) (hS : va_S A s.heap H locs) (hag : n0 ≤ N ∧ ∀ j, j < n0 → ad j = ad0 j) :
    ∀ t : State, t.heap = H → s.vm.Alike t.vm → mXc Q D cd ad0 n0 A E s t := by
  intro t ht hW
  subst ht
  exact ⟨N, sh, σ, ad, aC, hQ, hag, hY.to hW (fun _ h => h), hS.F rfl⟩
theorem mK_iret {Γ : Nat × (Nat → Int32)} {I : mM} {d : Nat} {Q : mQ} {n0 bc bs pc : Nat} {lv : List (Nat × Value)}  {N : Nat} {sh : mH} {σ : mS} {x : Int32} (hd : decode I.2.1 pc = .ok (.ireturn, 1)) (hr : I.2.2.2.1 = some .int)  (hQ : Q (.inl (some (.int x))) N sh σ) : mK Γ I d Q n0 bc bs (pc) lv ([.int x]) N sh σ := by
  intro p l e R s m args below meth c H locs cells slots ls D cd ad ad0 aC A mc ms hX hY hS hl hag hb hc
  refine W.widen (k := mc) (n := ms) (by omega) (by omega) (vx_ret ?_)
  exact W.iret hX.1.1 hX.1.2.1 (hX.1.2.2.2.trans hr) (mQ_of hQ (fun w hw => by cases hw; exact hc.top) hY hS hag) hS.2.2 hd hX.2.2.1.1
theorem mK_lret {Γ : Nat × (Nat → Int32)} {I : mM} {d : Nat} {Q : mQ} {n0 bc bs pc : Nat} {lv : List (Nat × Value)}  {N : Nat} {sh : mH} {σ : mS} {x : Int64} (hd : decode I.2.1 pc = .ok (.lreturn, 1)) (hr : I.2.2.2.1 = some .long)  (hQ : Q (.inl (some (.long x))) N sh σ) : mK Γ I d Q n0 bc bs (pc) lv ([.long x]) N sh σ := by
  intro p l e R s m args below meth c H locs cells slots ls D cd ad ad0 aC A mc ms hX hY hS hl hag hb hc
  refine W.widen (k := mc) (n := ms) (by omega) (by omega) (vx_ret ?_)
  exact W.lret hX.1.1 hX.1.2.1 (hX.1.2.2.2.trans hr) (mQ_of hQ (fun w hw => by cases hw; exact hc.top) hY hS hag) hS.2.2 hd hX.2.2.1.1
theorem mK_dret {Γ : Nat × (Nat → Int32)} {I : mM} {d : Nat} {Q : mQ} {n0 bc bs pc : Nat} {lv : List (Nat × Value)}  {N : Nat} {sh : mH} {σ : mS} {x : UInt64} (hd : decode I.2.1 pc = .ok (.dreturn, 1)) (hr : I.2.2.2.1 = some .double)  (hQ : Q (.inl (some (.double x))) N sh σ) : mK Γ I d Q n0 bc bs (pc) lv ([.double x]) N sh σ := by
  intro p l e R s m args below meth c H locs cells slots ls D cd ad ad0 aC A mc ms hX hY hS hl hag hb hc
  refine W.widen (k := mc) (n := ms) (by omega) (by omega) (vx_ret ?_)
  exact W.dret hX.1.1 hX.1.2.1 (hX.1.2.2.2.trans hr) (mQ_of hQ (fun w hw => by cases hw; exact hc.top) hY hS hag) hS.2.2 hd hX.2.2.1.1
theorem mK_zret {Γ : Nat × (Nat → Int32)} {I : mM} {d : Nat} {Q : mQ} {n0 bc bs pc : Nat} {lv : List (Nat × Value)}  {N : Nat} {sh : mH} {σ : mS} {x : Int32} (hd : decode I.2.1 pc = .ok (.ireturn, 1)) (hr : I.2.2.2.1 = some .boolean) (hx : x = 0 ∨ x = 1) (hQ : Q (.inl (some (.int x))) N sh σ) : mK Γ I d Q n0 bc bs (pc) lv ([.int x]) N sh σ := by
  intro p l e R s m args below meth c H locs cells slots ls D cd ad ad0 aC A mc ms hX hY hS hl hag hb hc
  refine W.widen (k := mc) (n := ms) (by omega) (by omega) (vx_ret ?_)
  exact W.zret hX.1.1 hX.1.2.1 (hX.1.2.2.2.trans hr) (by rcases hx with q | q <;> subst q <;> rfl) (mQ_of hQ (fun w hw => by cases hw; exact hc.top) hY hS hag) hS.2.2 hd hX.2.2.1.1
theorem mK_aret {Γ : Nat × (Nat → Int32)} {I : mM} {d : Nat} {Q : mQ} {n0 bc bs pc : Nat} {lv : List (Nat × Value)}  {N : Nat} {sh : mH} {σ : mS} {x : Nat} {ty : FieldType} (hd : decode I.2.1 pc = .ok (.areturn, 1)) (hr : I.2.2.2.1 = some ty) (hty : (∃ n, ty = .object n) ∨ ∃ t, ty = .array t) (hQ : Q (.inl (some (.ref x))) N sh σ) : mK Γ I d Q n0 bc bs (pc) lv ([.ref x]) N sh σ := by
  intro p l e R s m args below meth c H locs cells slots ls D cd ad ad0 aC A mc ms hX hY hS hl hag hb hc
  refine W.widen (k := mc) (n := ms) (by omega) (by omega) (vx_ret ?_)
  exact W.aret hX.1.1 hX.1.2.1 (hX.1.2.2.2.trans hr) hty (Or.inr ⟨_, rfl⟩) (mQ_of hQ (fun w hw => by cases hw; exact hc.top) hY hS hag) hS.2.2 hd hX.2.2.1.1
theorem mK_vret {Γ : Nat × (Nat → Int32)} {I : mM} {d : Nat} {Q : mQ} {n0 bc bs pc : Nat} {lv : List (Nat × Value)}  {N : Nat} {sh : mH} {σ : mS} (hd : decode I.2.1 pc = .ok (.return_, 1)) (hr : I.2.2.2.1 = none) (hQ : Q (.inl none) N sh σ) : mK Γ I d Q n0 bc bs (pc) lv ([]) N sh σ := by
  intro p l e R s m args below meth c H locs cells slots ls D cd ad ad0 aC A mc ms hX hY hS hl hag hb hc
  refine W.widen (k := mc) (n := ms) (by omega) (by omega) (vx_ret ?_)
  exact W.vret hX.1.1 hX.1.2.1 (hX.1.2.2.2.trans hr) (mQ_of hQ (fun w hw => by cases hw) hY hS hag) hS.2.2 hd hX.2.2.1.1
theorem mK_lv {Γ : Nat × (Nat → Int32)} {I : mM} {d : Nat} {Q : mQ} {n0 bc bs pc : Nat} {lv : List (Nat × Value)} {st : List Value} {N : Nat} {sh : mH} {σ : mS} {lv' : List (Nat × Value)} (h : ∀ q ∈ lv', q ∈ lv) (k : mK Γ I d Q n0 bc bs pc lv' st N sh σ) : mK Γ I d Q n0 bc bs pc lv st N sh σ := by
  intro p l e R s m args below meth c H locs cells slots ls D cd ad ad0 aC A mc ms hX hY hS hl hag hb hc
  exact k p l e R s m args below meth c H locs cells slots ls D cd ad ad0 aC A mc ms hX hY hS (mL_sub hl h) hag hb ⟨fun q hq => hc.1 q (h q hq), hc.2⟩
theorem mK_bud {Γ : Nat × (Nat → Int32)} {I : mM} {d : Nat} {Q : mQ} {n0 bc bs pc : Nat} {lv : List (Nat × Value)} {st : List Value} {N : Nat} {sh : mH} {σ : mS} {bc' bs' : Nat} (h1 : bc' ≤ bc) (h2 : bs' ≤ bs) (k : mK Γ I d Q n0 bc' bs' pc lv st N sh σ) : mK Γ I d Q n0 bc bs pc lv st N sh σ := by
  intro p l e R s m args below meth c H locs cells slots ls D cd ad ad0 aC A mc ms hX hY hS hl hag hb hc
  exact k p l e R s m args below meth c H locs cells slots ls D cd ad ad0 aC A mc ms hX hY hS hl hag (by omega) hc
/-- cells that nothing names any more are let go -/
theorem mK_forget {Γ : Nat × (Nat → Int32)} {I : mM} {d : Nat} {Q : mQ} {n0 bc bs pc : Nat} {lv : List (Nat × Value)} {st : List Value} {N : Nat} {sh : mH} {σ : mS} {N' : Nat} (h : N' ≤ N) (h0 : n0 ≤ N') (hcd : mCd N' sh) (hko : mKo N' lv st) (k : mK Γ I d Q n0 bc bs pc lv st N' sh σ) : mK Γ I d Q n0 bc bs pc lv st N sh σ := by
  intro p l e R s m args below meth c H locs cells slots ls D cd ad ad0 aC A mc ms hX hY hS hl hag hb hc
  obtain ⟨hP, ⟨tys, hK, hty⟩, hD, hN, hcl⟩ := hY
  refine k p l e R s m args below meth c H locs cells slots ls D cd ad ad0 aC A mc ms hX ⟨fun j q hq => ?_, ⟨tys, hK, fun j hj h100 => hty j (by omega) h100⟩, ⟨fun i j p q hi hj hpq => ?_, fun j q hq => ?_⟩, by omega, hcd⟩ hS hl ⟨h0, hag.2⟩ hb hko
  · obtain ⟨hj, rfl⟩ := mWs_inv hq
    exact hP j _ (mWs_get (by omega))
  · obtain ⟨hi', rfl⟩ := mWs_inv hi
    obtain ⟨hj', rfl⟩ := mWs_inv hj
    exact hD.1 i j _ _ (mWs_get (by omega)) (mWs_get (by omega)) hpq
  · obtain ⟨hj, rfl⟩ := mWs_inv hq
    exact hD.2 j _ (mWs_get (by omega))
theorem mArgs_map {cd ad : Nat → Nat} : ∀ (av : List Value) (i : Nat), lv_args i (av.map (mV cd ad)) = (lv_args i av).map (mVq cd ad)
  | [], _ => rfl
  | v :: av, i => by
    rw [List.map_cons, lv_args, lv_args, List.map_cons, mV_cat, mArgs_map av]
    rfl
theorem mArgs_ok {N : Nat} : ∀ (av : List Value) (i : Nat), (∀ v ∈ av, mOkP N v) → ∀ q ∈ lv_args i av, mOkP N q.2
  | [], _, _, q, hq => absurd hq List.not_mem_nil
  | v :: av, i, h, q, hq => by
    rcases List.mem_cons.mp hq with z | z
    · subst z; exact h v List.mem_cons_self
    · exact mArgs_ok av _ (fun w hw => h w (List.mem_cons_of_mem _ hw)) q z
theorem mSl_len {cd ad : Nat → Nat} : ∀ av : List Value, (lg_sl (av.map (mV cd ad))).length = (lg_sl av).length
  | [] => rfl
  | v :: av => by
    have ih := mSl_len (cd := cd) (ad := ad) av
    cases v <;> simp_all [lg_sl, mV, Value.category]
theorem mU_blind {D : va_G} {cd ad : Nat → Nat} {aC : Nat → ClassId} {L : Nat} {xs : Nat → Int32} {N : Nat} {sh : mH} {σ : mS} {sz : Nat} {av : List Value} : FrameBlind (va_Pc av (mU D cd ad aC L xs N sh σ sz)) := by
  intro a U g mk h
  obtain ⟨h1, h2, h3, h4⟩ := h
  have hv : U.vm.Alike (U.calling g mk a).vm := Vm.Alike.refl U.vm
  refine ⟨h1, h2, h3.to hv (fun _ h => h), ?_⟩
  exact mC.go (locs := []) h4 va_S.rf (State.WarmedH.refl U) rfl (fun _ h => h)
theorem mCall_of {Γ : Nat × (Nat → Int32)} {J : mM} {d c0 s0 : Nat} {av : List Value} {N : Nat} {sh : mH} {σ : mS} {Q : mQ} (hh : J.2.2.2.2 = []) (hy : plainName J.1.cls = true) (hlen : (lg_sl av).length ≤ J.2.2.1) (hok : ∀ v ∈ av, mOkP N v) (k : mK Γ J d Q N c0 s0 0 (lv_args 0 av) [] N sh σ) : mCall Γ J d c0 s0 av N sh σ Q := by
  intro l D cd ad aC sz hl0
  refine vx_ofW (cc := J.2.1) (maxL := J.2.2.1) (ret := J.2.2.2.1) (ws' := mBig) hy (by rw [mWd, if_pos hh]) ?_
  intro p e s m args below meth c s₁ B hml hout hv
  obtain ⟨rfl, hsz, hY, hC⟩ := hv
  have hts := atoms_spec (ws := mWd J :: mBig) B.pre
  subst hsz
  rw [lg_entry_eq]
  have hl := lv_entry (av.map (mV cd ad)) (n := J.2.2.1) (by rw [mSl_len]; exact hlen)
  rw [mArgs_map] at hl
  have htab : c.exceptionTable.toList = tableOf J.2.2.2.2 := by
    rw [hh]
    cases hq : c.exceptionTable.toList with
    | nil => rfl
    | cons x t => exact absurd (hout x (by rw [hq]; exact List.mem_cons_self)) (fun z => z)
  exact k p l e (mR d c0 s0) s m _ below meth c s.heap [] 0 0 _ D cd ad ad aC (va_A (mWs cd ad aC N sh σ) s.heap.size) c0 s0
    ⟨⟨B.exec, B.bytes, hml, B.returns⟩, ⟨findClass_of_methodNamed B.named, fun w hw => hts w (List.mem_cons_of_mem _ hw)⟩, ⟨B.notSynchronized, (name_of_methodNamed B.named B.method).1, hl0⟩, htab, ⟨Nat.le_refl _, Nat.le_refl _⟩, hC, fun q hq => Or.inr hq⟩
    ⟨hY.1, hY.2.1, hY.2.2.1.self, hY.2.2.2⟩ va_S.rf hl ⟨Nat.le_refl _, fun _ _ => rfl⟩ ⟨by omega, by omega, Nat.le_refl _, Nat.le_refl _⟩ ⟨mArgs_ok av 0 hok, fun v hv => absurd hv List.not_mem_nil⟩
