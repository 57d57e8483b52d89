/-- what a call comes back to -/
def mRt (Γ : Nat × (Nat → Int32)) (I : mM) (d : Nat) (Q : mQ) (n0 bc bs pc : Nat) (lv : List (Nat × Value)) (st : List Value) : mQ := fun o N sh σ => match o with
  | .inl v => mK Γ I d Q n0 bc bs pc lv (v.toList ++ st) N sh σ
  | .inr E => Q (.inr E) N sh σ
theorem mV_ag {cd ad ad' : Nat → Nat} {N : Nat} {v : Value} (h : ∀ j, j < N → ad' j = ad j) (hv : mOkP N v) (hN : N ≤ 1000) : mV cd ad' v = mV cd ad v := by
  cases v <;> try rfl
  rename_i a
  refine congrArg Value.ref ?_
  rcases hv a rfl with q | q
  · rw [mAd_lo (Nat.lt_of_lt_of_le q hN), mAd_lo (Nat.lt_of_lt_of_le q hN), h a q]
  · rw [mAd_hi q, mAd_hi q]
theorem mOk_mono {N N' : Nat} {v : Value} (h : mOkP N v) (hN : N ≤ N') : mOkP N' v := fun a q => by
  rcases h a q with z | z
  · exact Or.inl (Nat.lt_of_lt_of_le z hN)
  · exact Or.inr z

theorem mRun {Γ : Nat × (Nat → Int32)} {I : mM} {d : Nat} {Q : mQ} {n0 bc bs pc : Nat} {lv : List (Nat × Value)} {st : List Value} {N : Nat} {sh : mH} {σ : mS} {p : Program} {l : Launch} {e : Env} {R : Room} {s : State} {m : MethodId} {args : Array Value} {below : List Frame} {meth : Method} {c : Code} {H : Heap} {locs : List Loc} {cells slots : Nat} {ls : Array Slot} {D : va_G} {cd ad ad0 : Nat → Nat} {aC : Nat → ClassId} {A : Nat → Prop} {mc ms : Nat} {c1 s1 : Nat} {a : Array Value} {st0 : List Value} (hX : mX I d p l R s m args meth c cd A Γ.1 Γ.2) (hY : mY D cd ad aC A N sh σ s H) (hS : va_S A s.heap H locs) (hl : lv_has ls I.2.2.1 (lv.map (mVq cd ad))) (hag : n0 ≤ N ∧ ∀ j, j < n0 → ad j = ad0 j) (hb : cells + bc ≤ mc ∧ slots + bs ≤ ms ∧ mc ≤ R.cells ∧ ms ≤ R.slots) (hc : mKo N lv st) (hh : I.2.2.2.2 = []) (hc1 : c1 ≤ bc) (hs1 : s1 ≤ bs)
    (hr : vx_Run p l e R s m args below meth c H locs cells slots c1 s1 (F0 m pc ls st0) (st.map (mV cd ad)) (mQc (mRt Γ I d Q n0 (bc - c1) (bs - s1) (pc + 3) lv st) D cd ad N (va_A (mWs cd ad aC N sh σ) H.size) a) (mXc (mRt Γ I d Q n0 (bc - c1) (bs - s1) (pc + 3) lv st) D cd ad N (va_A (mWs cd ad aC N sh σ) H.size)) (va_A (mWs cd ad aC N sh σ) H.size)) :
    W p l e R s m args below meth c H locs cells slots (vx_MQ below (mQc Q D cd ad0 n0 A) (mXc Q D cd ad0 n0 A) args s mc ms A) (F0 m pc ls st0) := by
  have hA : ∀ q, va_A (mWs cd ad aC N sh σ) H.size q → A q := fun q hq => by
    rcases hq with ⟨k, e, hk⟩ | hq
    · exact hY.2.2.1.2 k _ hk
    · exact hX.2.2.2.2.2.2 q (Nat.le_trans hS.1 hq)
  intro T hT X
  rcases hr T hT X with ⟨v, st₀, t, T', L', h0, X', hL, e1, e2, ⟨v', N', sh', σ', ad', aC', ho, ⟨hQ, hok⟩, hag', hY', hF⟩, goes⟩ | ⟨q, st₀, t, T', L', E, ce, h0, X', hL, e1, e2, ⟨N', sh', σ', ad', aC', hQ, hag', hY', hF⟩, hce, hcv, hcl, steps⟩
  · cases ho
    obtain ⟨k1, k2, k3⟩ := vx_keep h0 e1 hS (fun q _ h => hA q h) hA hL hF
    have hN := hY.2.2.2.1
    have hst : st.map (mV cd ad') = st.map (mV cd ad) := List.map_congr_left (fun v hv => mV_ag hag'.2 (hc.2 v hv) hN)
    have hlv : lv.map (mVq cd ad') = lv.map (mVq cd ad) := List.map_congr_left (fun v hv => by rw [mVq, mVq, mV_ag hag'.2 (hc.1 v hv) hN])
    have hY2 : mY D cd ad' aC' A N' sh' σ' s T'.heap := by
      rw [e1]
      exact hY'.to (by rw [← e2]; exact X'.warmed.alike.symm) hA
    obtain ⟨t2, a1, b1⟩ := hQ p l e R s m args below meth c T'.heap (locs ++ L') (cells + c1) (slots + s1) ls D cd ad' ad0 aC' A mc ms hX hY2 k3 (by rw [hlv]; exact hl) ⟨Nat.le_trans hag.1 hag'.1, fun j hj => (hag'.2 j (Nat.lt_of_lt_of_le hj hag.1)).trans (hag.2 j hj)⟩ (by omega)
      ⟨fun q hq => mOk_mono (hc.1 q hq) hag'.1, fun w hw => by
        rcases List.mem_append.mp hw with z | z
        · exact hok w (by cases v' <;> simp_all)
        · exact mOk_mono (hc.2 w z) hag'.1⟩ T' rfl X'
    refine ⟨t2, goes t2 ?_, b1⟩
    have hmap : (v'.toList ++ st).map (mV cd ad') = (v'.map (mV cd ad')).toList ++ st.map (mV cd ad) := by
      rw [List.map_append, hst]
      cases v' <;> rfl
    rw [hmap] at a1
    exact a1
  · obtain ⟨k1, k2, k3⟩ := vx_keep h0 e1 hS (fun q _ h => hA q h) hA hL hF
    have hY2 : mY D cd ad' aC' A N' sh' σ' s T'.heap := by
      rw [e1]
      exact hY'.to (by rw [← e2]; exact X'.warmed.alike.symm) hA
    obtain ⟨t2, a1, b1⟩ := vx_out (p := p) (l := l) (e := e) (R := R) (s := s) (m := m) (args := args) (below := below) (meth := meth) (c := c) (H := T'.heap) (locs := locs ++ L') (cells := cells + c1) (slots := slots + s1) (pc := pc) (ls := ls) (rest := st.map (mV cd ad)) (Qc := mQc Q D cd ad0 n0 A) (XC := mXc Q D cd ad0 n0 A) (E := E) (ce := ce) (q := q) (mc := mc) (ms := ms) (free := A)
      (fun x hx => by rw [hX.2.2.2.1, hh] at hx; exact absurd hx List.not_mem_nil) hX.2.2.1.1 (by rw [e1]; exact hce) hcv hcl (mX_of hQ hY2 k3 ⟨Nat.le_trans hag.1 hag'.1, fun j hj => (hag'.2 j (Nat.lt_of_lt_of_le hj hag.1)).trans (hag.2 j hj)⟩) k3.2.2 (by omega) (by omega) T' rfl X'
    exact ⟨t2, steps.trans a1, b1⟩
theorem mMet {l : Launch} {y : MethodName} {ws : List Cond} {rm : Room} {Pc : Array Value → State → Prop} {Qc : Array Value → State → Outcome → State → Prop} {XC : String → State → State → Prop} {mc ms : Nat} {free : Addr → Prop} (h : vx_Met l y ws rm Pc Qc XC mc ms free) (hx : ∀ E st t, ¬ XC E st t) : Met l y ws rm Pc Qc mc ms free := by
  intro p e a1 a2 a3 s m args below a4 a5 a6 a7
  obtain ⟨n, o, h1, h2, h3, h4⟩ := h p e a1 a2 a3 s m args below a4 a5 a6 a7
  refine ⟨n, o, h1, h2, h3, ?_⟩
  rcases h4 with h4 | ⟨q, -, E, ce, L, hX, -⟩
  · exact h4
  · exact absurd hX (hx _ _ _)
theorem mRun_of {p : Program} {l : Launch} {e : Env} {R : Room} {s : State} {m : MethodId} {args : Array Value} {below : List Frame} {meth : Method} {c : Code} {H : Heap} {locs : List Loc} {cells slots mc ms : Nat} {g : JFrame} {rest : List Value} {Qa : State → Outcome → State → Prop} {XC : String → State → State → Prop} {free : Addr → Prop} (h : va_Run p l e R s m args below meth c H locs cells slots mc ms g rest Qa free) : vx_Run p l e R s m args below meth c H locs cells slots mc ms g rest Qa XC free := fun T hT X => Or.inl (h T hT X)
/-- the words of a call, but the link's -/
def mJw (J : mM) : Prop := mWd J ∈ mBig ∧ Cond.initialized J.1.cls ∈ mBig ∧ J.2.2.2.2 = [] ∧ (J.1.cls ≠ "java/lang/invoke/MethodHandle" ∧ J.1.cls ≠ "java/lang/invoke/VarHandle") ∧ J.2.2.1 ≤ 30
def mJn (J : mM) (k : Nat) : Prop := (parseMethodDescriptor J.1.desc).map (fun d => d.parameters.length) = some k
theorem mJ_good {J : mM} (h : mJw J) {ws : List Cond} (hw : ∀ w ∈ ws, w ∈ mBig) : GoodIn mBig (ws ++ (mWd J :: mBig)) := mBig_good _ (fun w hw' => by
  rcases List.mem_append.mp hw' with q | q
  · exact hw w q
  · rcases List.mem_cons.mp q with q | q
    · exact q ▸ h.1
    · exact q)
theorem mJ_eq {J : mM} (h : mJw J) : mWd J :: mBig = Cond.code J.1 J.2.1 J.2.2.1 J.2.2.2.1 :: mBig := by rw [mWd, if_pos h.2.2.1]
theorem mHl {cd ad : Nat → Nat} {st : List Value} (h : (st.map fun v => v.category).sum ≤ 8) : ((st.map (mV cd ad)).map fun v => v.category).sum ≤ 8 := by
  rw [List.map_map]
  have : ((fun v => v.category) ∘ mV cd ad : Value → Nat) = (fun v => v.category) := funext (fun v => mV_cat v)
  rw [this]; exact h
theorem mKo.drop {N : Nat} {lv : List (Nat × Value)} {st as : List Value} (h : mKo N lv (as ++ st)) : mKo N lv st := ⟨h.1, fun v hv => h.2 v (List.mem_append_right _ hv)⟩
theorem mK_invV {Γ : Nat × (Nat → Int32)} {I : mM} {d : Nat} {Q : mQ} {n0 bc bs pc : Nat} {lv : List (Nat × Value)} {st : List Value} {N : Nat} {sh : mH} {σ : mS} {J : mM} {n k c1 s1 : Nat} {as : List Value} {b : Nat}  {pc1 : Nat} (hd : decode I.2.1 pc = .ok (.invokevirtual n, 3)) (hp : pc + 3 = pc1) (hJ : mJw J) (hn : mJn J k) (hk : as.length = k) (hcat : (st.map fun v => v.category).sum ≤ 8) (hc1 : c1 ≤ bc) (hs1 : s1 ≤ bs) (hh : I.2.2.2.2 = []) (hw : Cond.methodLink I.1.cls n J.1 ∈ mBig) (hw2 : Cond.instanceMethod J.1 ∈ mBig) (hw3 : Cond.selects J.1.cls J.1 J.1 ∈ mBig) (hjb : b < N) (hcb : (sh b).1 < 9) (hcl : J.1.cls = mCR (sh b).1)
    (C : mCall Γ J d c1 s1 (.ref b :: as) N sh σ (mRt Γ I (d + 1) Q n0 (bc - c1) (bs - s1) (pc1) lv st)) : mK Γ I (d + 1) Q n0 bc bs (pc) lv (as.reverse ++ .ref b :: st) N sh σ := by
  subst hp
  intro p l e R s m args below meth c H locs cells slots ls D cd ad ad0 aC A mc ms hX hY hS hl hag hb hc
  have hW : 2 * (F0 m pc ls (st.map (mV cd ad))).monitorRoom + ((st.map (mV cd ad)).map fun v => v.category).sum ≤ 8 := lv_room (mHl hcat)
  have hR : (mR d c1 s1).frames + 1 ≤ R.frames ∧ 8 + (J.2.2.1 + 11) + (mR d c1 s1).locals ≤ R.locals := ⟨by have := hX.2.2.2.2.1.1; simp only [mR]; omega, by have := hX.2.2.2.2.1.2; have := hJ.2.2.2.2; simp only [mR]; omega⟩
  have hts : ∀ w ∈ mBig, w.before args s = true := hX.2.1.2
  have hpre : ∀ U : State, U.heap = H → s.WarmedH U.vm → mU D cd ad aC Γ.1 Γ.2 N sh σ H.size U := fun U hU hW => ⟨by rw [hU], by rw [hU]; exact hY.to hW.alike (fun _ _ => trivial), mC.go hX.2.2.2.2.2.1 hS hW hU (fun q hq => by
    rcases hq with ⟨k, e, hk⟩ | hq
    · exact hY.2.2.1.2 k _ hk
    · exact hX.2.2.2.2.2.2 q (Nat.le_trans hS.1 hq))⟩
  have hrc : ∃ cellB : Cell, H[ad b]? = some cellB ∧ cellB.vm.isStatics = false ∧ s.vm.findClass J.1.cls = some cellB.cls := by
    obtain ⟨hP, ⟨tys, hK, hty⟩, hD, hN, hcl0⟩ := id hY
    rw [hcl]
    exact va_recv hK hP (mCl_in hcb) (mWs_obj hjb hcb)
  have hb9 : mV cd ad (.ref b) = .ref (ad b) := congrArg Value.ref (mAd_lo (Nat.lt_of_lt_of_le hjb hY.2.2.2.1))
  have hmp : (as.reverse ++ .ref b :: st).map (mV cd ad) = (as.map (mV cd ad)).reverse ++ .ref (ad b) :: st.map (mV cd ad) := by
    rw [List.map_append, List.map_cons, hb9, List.map_reverse]
  have hM := C l D cd ad aC H.size hX.2.2.1.2.2
  rw [List.map_cons, hb9] at hM
  rw [hmp]
  exact mRun hX hY hS hl hag hb (hc.drop.pop) hh hc1 hs1 (vx_runV (As := as.map (mV cd ad)) (rest := st.map (mV cd ad)) ⟨hX.1.1, hX.1.2.1, hX.1.2.2.1, hX.2.1.1, hts⟩ hM (cwV (ret := J.2.2.2.1) (bytes := J.2.1) (maxL := J.2.2.1) k hts (mJ_good hJ (ws := [.methodLink I.1.cls n J.1, .instanceMethod J.1, .selects J.1.cls J.1 J.1, .initialized J.1.cls]) (fun w h => by simp only [List.mem_cons, List.not_mem_nil, or_false] at h; rcases h with h | h | h | h <;> subst h <;> first | exact hw | exact hw2 | exact hw3 | exact hJ.2.1)) (mJ_eq hJ) rfl rfl ⟨rfl, hJ.2.2.2.1.1, hJ.2.2.2.1.2, hn⟩ hR) ⟨mU_blind, hrc, fun U hU hW => ⟨rfl, hpre U hU hW⟩⟩ rfl (by rw [List.length_map]; exact hk) hl.1 rfl hW hd ⟨by omega, by omega⟩)
theorem mK_invS {Γ : Nat × (Nat → Int32)} {I : mM} {d : Nat} {Q : mQ} {n0 bc bs pc : Nat} {lv : List (Nat × Value)} {st : List Value} {N : Nat} {sh : mH} {σ : mS} {J : mM} {n k c1 s1 : Nat} {as : List Value}  {pc1 : Nat} (hd : decode I.2.1 pc = .ok (.invokestatic n, 3)) (hp : pc + 3 = pc1) (hJ : mJw J) (hn : mJn J k) (hk : as.length = k) (hcat : (st.map fun v => v.category).sum ≤ 8) (hc1 : c1 ≤ bc) (hs1 : s1 ≤ bs) (hh : I.2.2.2.2 = []) (hw : Cond.methodLink I.1.cls n J.1 ∈ mBig) (hw2 : Cond.static J.1 ∈ mBig)
    (C : mCall Γ J d c1 s1 (as) N sh σ (mRt Γ I (d + 1) Q n0 (bc - c1) (bs - s1) (pc1) lv st)) : mK Γ I (d + 1) Q n0 bc bs (pc) lv (as.reverse ++ st) N sh σ := by
  subst hp
  intro p l e R s m args below meth c H locs cells slots ls D cd ad ad0 aC A mc ms hX hY hS hl hag hb hc
  have hW : 2 * (F0 m pc ls (st.map (mV cd ad))).monitorRoom + ((st.map (mV cd ad)).map fun v => v.category).sum ≤ 8 := lv_room (mHl hcat)
  have hR : (mR d c1 s1).frames + 1 ≤ R.frames ∧ 8 + (J.2.2.1 + 11) + (mR d c1 s1).locals ≤ R.locals := ⟨by have := hX.2.2.2.2.1.1; simp only [mR]; omega, by have := hX.2.2.2.2.1.2; have := hJ.2.2.2.2; simp only [mR]; omega⟩
  have hts : ∀ w ∈ mBig, w.before args s = true := hX.2.1.2
  have hpre : ∀ U : State, U.heap = H → s.WarmedH U.vm → mU D cd ad aC Γ.1 Γ.2 N sh σ H.size U := fun U hU hW => ⟨by rw [hU], by rw [hU]; exact hY.to hW.alike (fun _ _ => trivial), mC.go hX.2.2.2.2.2.1 hS hW hU (fun q hq => by
    rcases hq with ⟨k, e, hk⟩ | hq
    · exact hY.2.2.1.2 k _ hk
    · exact hX.2.2.2.2.2.2 q (Nat.le_trans hS.1 hq))⟩
  have hmp : (as.reverse ++ st).map (mV cd ad) = (as.map (mV cd ad)).reverse ++ st.map (mV cd ad) := by
    rw [List.map_append, List.map_reverse]
  have hM := C l D cd ad aC H.size hX.2.2.1.2.2
  rw [hmp]
  exact mRun hX hY hS hl hag hb (hc.drop) hh hc1 hs1 (vx_runS (As := as.map (mV cd ad)) (rest := st.map (mV cd ad)) ⟨hX.1.1, hX.1.2.1, hX.1.2.2.1, hX.2.1.1, hts⟩ hM (va_cwS (ret := J.2.2.2.1) (bytes := J.2.1) (maxL := J.2.2.1) k hts (mJ_good hJ (ws := [.methodLink I.1.cls n J.1, .static J.1, .initialized J.1.cls]) (fun w h => by simp only [List.mem_cons, List.not_mem_nil, or_false] at h; rcases h with h | h | h <;> subst h <;> first | exact hw | exact hw2 | exact hJ.2.1)) (mJ_eq hJ) rfl rfl ⟨hJ.2.2.2.1.1, hJ.2.2.2.1.2, hn⟩ hR) ⟨mU_blind, fun U hU hW => ⟨rfl, hpre U hU hW⟩⟩ rfl (by rw [List.length_map]; exact hk) hl.1 rfl hW hd ⟨by omega, by omega⟩)
/-- a call that does not throw -/
def mRn (Q : mQ) : mQ := fun o N sh σ => match o with
  | .inl _ => Q o N sh σ
  | .inr _ => False
theorem mRn_x {Q : mQ} {D : va_G} {cd ad : Nat → Nat} {N : Nat} {A : Nat → Prop} : ∀ E st t, ¬ mXc (mRn Q) D cd ad N A E st t := by
  intro E st t h
  obtain ⟨N, sh, σ, ad, aC, hQ, -⟩ := h
  exact hQ
theorem mRn_q {Q : mQ} {D : va_G} {cd ad : Nat → Nat} {N : Nat} {A : Nat → Prop} {a : Array Value} {st t : State} {oc : Outcome} (h : mQc (mRn Q) D cd ad N A a st oc t) : mQc Q D cd ad N A a st oc t := h
theorem mMet_q {l : Launch} {y : MethodName} {ws : List Cond} {rm : Room} {Pc : Array Value → State → Prop} {Q : mQ} {D : va_G} {cd ad : Nat → Nat} {N : Nat} {A : Nat → Prop} {mc ms : Nat} {free : Addr → Prop} (h : vx_Met l y ws rm Pc (mQc (mRn Q) D cd ad N A) (mXc (mRn Q) D cd ad N A) mc ms free) : Met l y ws rm Pc (mQc Q D cd ad N A) mc ms free := by
  have h2 := mMet h mRn_x
  intro p e a1 a2 a3 s m args below a4 a5 a6 a7
  exact h2 p e a1 a2 a3 s m args below a4 a5 a6 a7
theorem mK_invI {Γ : Nat × (Nat → Int32)} {I : mM} {d : Nat} {Q : mQ} {n0 bc bs pc : Nat} {lv : List (Nat × Value)} {st : List Value} {N : Nat} {sh : mH} {σ : mS} {J : mM} {n k c1 s1 : Nat} {as : List Value} {b : Nat}  {pc1 : Nat} (hd : decode I.2.1 pc = .ok (.invokespecial n, 3)) (hp : pc + 3 = pc1) (hJ : mJw J) (hn : mJn J k) (hk : as.length = k) (hcat : (st.map fun v => v.category).sum ≤ 8) (hc1 : c1 ≤ bc) (hs1 : s1 ≤ bs) (hh : I.2.2.2.2 = []) (hw : Cond.methodLink I.1.cls n J.1 ∈ mBig) (hw2 : Cond.instanceMethod J.1 ∈ mBig) (hnm : J.1.name = "<init>") (hrt : J.2.2.2.1 = none) (hjb : b < N)
    (C : mCall Γ J d c1 s1 (.ref b :: as) N sh σ (mRn (mRt Γ I (d + 1) Q n0 (bc - c1) (bs - s1) (pc1) lv st))) : mK Γ I (d + 1) Q n0 bc bs (pc) lv (as.reverse ++ .ref b :: st) N sh σ := by
  subst hp
  intro p l e R s m args below meth c H locs cells slots ls D cd ad ad0 aC A mc ms hX hY hS hl hag hb hc
  have hW : 2 * (F0 m pc ls (st.map (mV cd ad))).monitorRoom + ((st.map (mV cd ad)).map fun v => v.category).sum ≤ 8 := lv_room (mHl hcat)
  have hR : (mR d c1 s1).frames + 1 ≤ R.frames ∧ 8 + (J.2.2.1 + 11) + (mR d c1 s1).locals ≤ R.locals := ⟨by have := hX.2.2.2.2.1.1; simp only [mR]; omega, by have := hX.2.2.2.2.1.2; have := hJ.2.2.2.2; simp only [mR]; omega⟩
  have hts : ∀ w ∈ mBig, w.before args s = true := hX.2.1.2
  have hpre : ∀ U : State, U.heap = H → s.WarmedH U.vm → mU D cd ad aC Γ.1 Γ.2 N sh σ H.size U := fun U hU hW => ⟨by rw [hU], by rw [hU]; exact hY.to hW.alike (fun _ _ => trivial), mC.go hX.2.2.2.2.2.1 hS hW hU (fun q hq => by
    rcases hq with ⟨k, e, hk⟩ | hq
    · exact hY.2.2.1.2 k _ hk
    · exact hX.2.2.2.2.2.2 q (Nat.le_trans hS.1 hq))⟩
  have hb9 : mV cd ad (.ref b) = .ref (ad b) := congrArg Value.ref (mAd_lo (Nat.lt_of_lt_of_le hjb hY.2.2.2.1))
  have hmp : (as.reverse ++ .ref b :: st).map (mV cd ad) = (as.map (mV cd ad)).reverse ++ .ref (ad b) :: st.map (mV cd ad) := by
    rw [List.map_append, List.map_cons, hb9, List.map_reverse]
  have hM := C l D cd ad aC H.size hX.2.2.1.2.2
  rw [List.map_cons, hb9] at hM
  rw [hmp]
  have heq := mJ_eq hJ
  rw [hrt] at heq
  exact mRun hX hY hS hl hag hb (hc.drop.pop) hh hc1 hs1 (mRun_of (va_runI (As := as.map (mV cd ad)) (rest := st.map (mV cd ad)) ⟨hX.1.1, hX.1.2.1, hX.1.2.2.1, hX.2.1.1, hts⟩ (mMet_q hM) (cwI (bytes := J.2.1) (maxL := J.2.2.1) k hts (mJ_good hJ (ws := []) (fun w h => absurd h List.not_mem_nil)) heq rfl rfl (hts _ hJ.2.1) (hts _ hw) (hts _ hw2) hnm ⟨hJ.2.2.2.1.1, hJ.2.2.2.1.2, hn⟩ hR) ⟨mU_blind, fun U hU hW => ⟨rfl, hpre U hU hW⟩⟩ rfl (by rw [List.length_map]; exact hk) hl.1 rfl hW hd ⟨by omega, by omega⟩))
theorem mK_invIN {Γ : Nat × (Nat → Int32)} {I : mM} {d : Nat} {Q : mQ} {n0 bc bs pc : Nat} {lv : List (Nat × Value)} {st : List Value} {N : Nat} {sh : mH} {σ : mS} {J : mM} {n k c1 s1 : Nat} {as : List Value} {b : Nat} {host : String}  {pc1 : Nat} (hd : decode I.2.1 pc = .ok (.invokespecial n, 3)) (hp : pc + 3 = pc1) (hJ : mJw J) (hn : mJn J k) (hk : as.length = k) (hcat : (st.map fun v => v.category).sum ≤ 8) (hc1 : c1 ≤ bc) (hs1 : s1 ≤ bs) (hh : I.2.2.2.2 = []) (hw : Cond.methodLinkNest I.1.cls n J.1 host ∈ mNd) (hw2 : Cond.instanceMethod J.1 ∈ mBig) (hnm : J.1.name = "<init>") (hrt : J.2.2.2.1 = none) (hjb : b < N)
    (C : mCall Γ J d c1 s1 (.ref b :: as) N sh σ (mRn (mRt Γ I (d + 1) Q n0 (bc - c1) (bs - s1) (pc1) lv st))) : mK Γ I (d + 1) Q n0 bc bs (pc) lv (as.reverse ++ .ref b :: st) N sh σ := by
  subst hp
  intro p l e R s m args below meth c H locs cells slots ls D cd ad ad0 aC A mc ms hX hY hS hl hag hb hc
  have hW : 2 * (F0 m pc ls (st.map (mV cd ad))).monitorRoom + ((st.map (mV cd ad)).map fun v => v.category).sum ≤ 8 := lv_room (mHl hcat)
  have hR : (mR d c1 s1).frames + 1 ≤ R.frames ∧ 8 + (J.2.2.1 + 11) + (mR d c1 s1).locals ≤ R.locals := ⟨by have := hX.2.2.2.2.1.1; simp only [mR]; omega, by have := hX.2.2.2.2.1.2; have := hJ.2.2.2.2; simp only [mR]; omega⟩
  have hts : ∀ w ∈ mBig, w.before args s = true := hX.2.1.2
  have hpre : ∀ U : State, U.heap = H → s.WarmedH U.vm → mU D cd ad aC Γ.1 Γ.2 N sh σ H.size U := fun U hU hW => ⟨by rw [hU], by rw [hU]; exact hY.to hW.alike (fun _ _ => trivial), mC.go hX.2.2.2.2.2.1 hS hW hU (fun q hq => by
    rcases hq with ⟨k, e, hk⟩ | hq
    · exact hY.2.2.1.2 k _ hk
    · exact hX.2.2.2.2.2.2 q (Nat.le_trans hS.1 hq))⟩
  have hb9 : mV cd ad (.ref b) = .ref (ad b) := congrArg Value.ref (mAd_lo (Nat.lt_of_lt_of_le hjb hY.2.2.2.1))
  have hmp : (as.reverse ++ .ref b :: st).map (mV cd ad) = (as.map (mV cd ad)).reverse ++ .ref (ad b) :: st.map (mV cd ad) := by
    rw [List.map_append, List.map_cons, hb9, List.map_reverse]
  have hM := C l D cd ad aC H.size hX.2.2.1.2.2
  rw [List.map_cons, hb9] at hM
  rw [hmp]
  have heq := mJ_eq hJ
  rw [hrt] at heq
  exact mRun hX hY hS hl hag hb (hc.drop.pop) hh hc1 hs1 (mRun_of (va_runIN (As := as.map (mV cd ad)) (rest := st.map (mV cd ad)) ⟨hX.1.1, hX.1.2.1, hX.1.2.2.1, hX.2.1.1, hts⟩ (mMet_q hM) ⟨va_cnB (bytes := J.2.1) (maxL := J.2.2.1) (host := host) k hts (mBig_good _ (fun w h => by rcases List.mem_cons.mp h with q | q; exact q ▸ hJ.1; exact q)) heq rfl rfl (hX.2.2.2.2.2.1.2.2.2.2.2.2.2.2.2.2.2.1 _ hw) (hts _ hJ.2.1) ⟨hJ.2.2.2.1.1, hJ.2.2.2.1.2, hn⟩ hR, hnm, hts _ hw2⟩ ⟨mU_blind, fun U hU hW => ⟨rfl, hpre U hU hW⟩⟩ rfl (by rw [List.length_map]; exact hk) hl.1 rfl hW hd ⟨by omega, by omega⟩))
theorem mK_invSN {Γ : Nat × (Nat → Int32)} {I : mM} {d : Nat} {Q : mQ} {n0 bc bs pc : Nat} {lv : List (Nat × Value)} {st : List Value} {N : Nat} {sh : mH} {σ : mS} {J : mM} {n k c1 s1 : Nat} {as : List Value} {host : String}  {pc1 : Nat} (hd : decode I.2.1 pc = .ok (.invokestatic n, 3)) (hp : pc + 3 = pc1) (hJ : mJw J) (hn : mJn J k) (hk : as.length = k) (hcat : (st.map fun v => v.category).sum ≤ 8) (hc1 : c1 ≤ bc) (hs1 : s1 ≤ bs) (hh : I.2.2.2.2 = []) (hw : Cond.methodLinkNest I.1.cls n J.1 host ∈ mNd) (hw2 : Cond.static J.1 ∈ mBig)
    (C : mCall Γ J d c1 s1 (as) N sh σ (mRn (mRt Γ I (d + 1) Q n0 (bc - c1) (bs - s1) (pc1) lv st))) : mK Γ I (d + 1) Q n0 bc bs (pc) lv (as.reverse ++ st) N sh σ := by
  subst hp
  intro p l e R s m args below meth c H locs cells slots ls D cd ad ad0 aC A mc ms hX hY hS hl hag hb hc
  have hW : 2 * (F0 m pc ls (st.map (mV cd ad))).monitorRoom + ((st.map (mV cd ad)).map fun v => v.category).sum ≤ 8 := lv_room (mHl hcat)
  have hR : (mR d c1 s1).frames + 1 ≤ R.frames ∧ 8 + (J.2.2.1 + 11) + (mR d c1 s1).locals ≤ R.locals := ⟨by have := hX.2.2.2.2.1.1; simp only [mR]; omega, by have := hX.2.2.2.2.1.2; have := hJ.2.2.2.2; simp only [mR]; omega⟩
  have hts : ∀ w ∈ mBig, w.before args s = true := hX.2.1.2
  have hpre : ∀ U : State, U.heap = H → s.WarmedH U.vm → mU D cd ad aC Γ.1 Γ.2 N sh σ H.size U := fun U hU hW => ⟨by rw [hU], by rw [hU]; exact hY.to hW.alike (fun _ _ => trivial), mC.go hX.2.2.2.2.2.1 hS hW hU (fun q hq => by
    rcases hq with ⟨k, e, hk⟩ | hq
    · exact hY.2.2.1.2 k _ hk
    · exact hX.2.2.2.2.2.2 q (Nat.le_trans hS.1 hq))⟩
  have hmp : (as.reverse ++ st).map (mV cd ad) = (as.map (mV cd ad)).reverse ++ st.map (mV cd ad) := by
    rw [List.map_append, List.map_reverse]
  have hM := C l D cd ad aC H.size hX.2.2.1.2.2
  rw [hmp]
  exact mRun hX hY hS hl hag hb (hc.drop) hh hc1 hs1 (mRun_of (va_runSN (As := as.map (mV cd ad)) (rest := st.map (mV cd ad)) ⟨hX.1.1, hX.1.2.1, hX.1.2.2.1, hX.2.1.1, hts⟩ (mMet_q hM) ⟨va_cnB (ret := J.2.2.2.1) (bytes := J.2.1) (maxL := J.2.2.1) (host := host) k hts (mBig_good _ (fun w h => by rcases List.mem_cons.mp h with q | q; exact q ▸ hJ.1; exact q)) (mJ_eq hJ) rfl rfl (hX.2.2.2.2.2.1.2.2.2.2.2.2.2.2.2.2.2.1 _ hw) (hts _ hJ.2.1) ⟨hJ.2.2.2.1.1, hJ.2.2.2.1.2, hn⟩ hR, hts _ hw2, trivial⟩ ⟨mU_blind, fun U hU hW => ⟨rfl, hpre U hU hW⟩⟩ rfl (by rw [List.length_map]; exact hk) hl.1 rfl hW hd ⟨by omega, by omega⟩))
