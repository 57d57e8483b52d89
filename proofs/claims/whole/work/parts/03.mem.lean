def mCR : Nat → String := fun ci => match ci with
  | 0 => RX0
  | 1 => RX1
  | 2 => RX3
  | 3 => RX4
  | 4 => RX5
  | 5 => RX6
  | 6 => RX7
  | 7 => RX8
  | _ => RX9
def mCT : Nat → u_T := fun ci => match ci with
  | 0 => TX0
  | 1 => TX1
  | 2 => TX3
  | 3 => TX4
  | 4 => TX5
  | 5 => TX6
  | 6 => TX7
  | 7 => TX8
  | _ => TX9
theorem m9 {ci : Nat} {P : Nat → Prop} (h : ci < 9) (h0 : P 0) (h1 : P 1) (h2 : P 2) (h3 : P 3) (h4 : P 4) (h5 : P 5) (h6 : P 6) (h7 : P 7) (h8 : P 8) : P ci := by
  rcases (show ci = 0 ∨ ci = 1 ∨ ci = 2 ∨ ci = 3 ∨ ci = 4 ∨ ci = 5 ∨ ci = 6 ∨ ci = 7 ∨ ci = 8 by omega) with q | q | q | q | q | q | q | q | q <;> subst q <;> assumption
theorem mCl_in {ci : Nat} (h : ci < 9) : vwCl[ci]? = some (mCR ci, mCT ci, mCN ci) := m9 (P := fun ci => vwCl[ci]? = some (mCR ci, mCT ci, mCN ci)) h rfl rfl rfl rfl rfl rfl rfl rfl rfl
theorem mTF_ok {ci : Nat} (h : ci < 9) : ∀ k, k < mCN ci → parseFieldDescriptor (mCT ci k).2.2.1 = some (mTF ci k) := m9 (P := fun ci => ∀ k, k < mCN ci → parseFieldDescriptor (mCT ci k).2.2.1 = some (mTF ci k)) h tyX0_ok tyX1_ok tyX3_ok tyX4_ok tyX5_ok tyX6_ok tyX7_ok tyX8_ok tyX9_ok
theorem mNm_ok {ci : Nat} (h : ci < 9) : ∀ a, a < mCN ci → ∀ b, b < mCN ci → a ≠ b → (mCT ci a).2.1 ≠ (mCT ci b).2.1 := m9 (P := fun ci => ∀ a, a < mCN ci → ∀ b, b < mCN ci → a ≠ b → (mCT ci a).2.1 ≠ (mCT ci b).2.1) h nmX0 nmX1 nmX3 nmX4 nmX5 nmX6 nmX7 nmX8 nmX9

set_option maxRecDepth 20000 in
theorem mW_X0 : GoodIn lw_tbl wsX00 := goodIn_r _ [158, 160, 162, 164, 166, 168, 170, 172, 174, 176, 178, 180, 182, 184, 186, 188] rfl (by decide +kernel)
set_option maxRecDepth 20000 in
theorem mW_X1 : GoodIn lw_tbl wsX10 := goodIn_r _ [249, 251, 253] rfl (by decide +kernel)
set_option maxRecDepth 20000 in
theorem mW_X3 : GoodIn lw_tbl wsX30 := goodIn_r _ [130, 132] rfl (by decide +kernel)
set_option maxRecDepth 20000 in
theorem mW_X4 : GoodIn lw_tbl wsX40 := goodIn_r _ [206, 208, 210, 212, 214, 216] rfl (by decide +kernel)
set_option maxRecDepth 20000 in
theorem mW_X5 : GoodIn lw_tbl wsX50 := goodIn_r _ [268, 270, 272, 274, 276, 278] rfl (by decide +kernel)
set_option maxRecDepth 20000 in
theorem mW_X6 : GoodIn lw_tbl wsX60 := goodIn_r _ [231, 233, 235, 237] rfl (by decide +kernel)
set_option maxRecDepth 20000 in
theorem mW_X7 : GoodIn lw_tbl wsX70 := goodIn_r _ [290, 292, 294, 296, 298, 300, 302, 304, 306] rfl (by decide +kernel)
set_option maxRecDepth 20000 in
theorem mW_X8 : GoodIn lw_tbl wsX80 := goodIn_r _ [1102, 1104, 1106, 1108, 1110, 1112, 1114, 1116, 1118, 1120, 1122, 1124] rfl (by decide +kernel)
set_option maxRecDepth 20000 in
theorem mW_X9 : GoodIn lw_tbl wsX90 := goodIn_r _ [1151, 1153, 1155, 1157, 1159, 1161, 1163, 1165, 1167, 1169, 1171, 1173, 1175, 1177, 1179, 1181, 1183, 1185, 1187, 1189, 1191, 1193, 1195, 1197] rfl (by decide +kernel)
theorem mBig_of {ws : List Cond} (h : GoodIn lw_tbl ws) (hg : ws.all goodWord = true) : ∀ w ∈ ws, w ∈ mBig := fun w hw => mBig_in (h w hw).1 (List.all_eq_true.mp hg w hw)
set_option maxRecDepth 20000 in
theorem mW_in {ci : Nat} (h : ci < 9) : ∀ w ∈ u_ws (mCR ci) (mCT ci) (mCN ci), w ∈ mBig := m9 (P := fun ci => ∀ w ∈ u_ws (mCR ci) (mCT ci) (mCN ci), w ∈ mBig) h (mBig_of mW_X0 (by decide +kernel)) (mBig_of mW_X1 (by decide +kernel)) (mBig_of mW_X3 (by decide +kernel)) (mBig_of mW_X4 (by decide +kernel)) (mBig_of mW_X5 (by decide +kernel)) (mBig_of mW_X6 (by decide +kernel)) (mBig_of mW_X7 (by decide +kernel)) (mBig_of mW_X8 (by decide +kernel)) (mBig_of mW_X9 (by decide +kernel))
/-- what a field reads, in numbers -/
def mG (σ : mS) (e : mE) (j k : Nat) (ty : FieldType) : Value := match ty with
  | .long => .long (σ.2.1 j k)
  | .object _ => va_rf (e.2.2 k)
  | .array _ => va_rf (e.2.2 k)
  | _ => .int (σ.1 j k)
theorem mG_V {cd ad : Nat → Nat} {σ : mS} {e : mE} {j k : Nat} {ty : FieldType} : mV cd ad (mG σ e j k ty) = mFl cd ad σ e.2.2 j k ty := by
  cases ty <;> simp only [mG, mFl, mV] <;> cases e.2.2 k <;> rfl
theorem mG_ok {N : Nat} {sh : mH} {σ : mS} {j k : Nat} {ty : FieldType} (hcl : mCd N sh) (hj : j < N) : mOkP N (mG σ (sh j) j k ty) := by
  intro a h
  cases ty <;> simp only [mG] at h <;> first | (cases h; done) | (cases hb : (sh j).2.2 k with
    | none => rw [hb] at h; cases h
    | some b => rw [hb] at h; cases h; exact hcl j hj k _ hb)
theorem mFs_get {cd ad : Nat → Nat} {σ : mS} {e : mE} {j k : Nat} (h : k < mCN e.1) : (mFs cd ad σ e j)[k]? = some (mFl cd ad σ e.2.2 j k (mTF e.1 k)) := by simp [mFs, h]
def mU2 {α : Type} (f : Nat → Nat → α) (j k : Nat) (x : α) : Nat → Nat → α := fun a => if a = j then (fun b => if b = k then x else f a b) else f a
theorem mU2_ne {α : Type} {f : Nat → Nat → α} {j k a : Nat} {x : α} (h : a ≠ j) : mU2 f j k x a = f a := by simp [mU2, h]
theorem mU2_eq {α : Type} {f : Nat → Nat → α} {j k : Nat} {x : α} : mU2 f j k x j = fun b => if b = k then x else f j b := by simp [mU2]
def mPI (σ : mS) (j k : Nat) (x : Int32) : mS := (mU2 σ.1 j k x, σ.2.1, σ.2.2)
def mPL (σ : mS) (j k : Nat) (x : Int64) : mS := (σ.1, mU2 σ.2.1 j k x, σ.2.2)
def mPR (σ : mS) (j k : Nat) (x : Option Nat) : mS := (σ.1, σ.2.1, mU2 σ.2.2 j k x)
def mPH (sh : mH) (j k : Nat) (r : Option Nat) : mH := fun a => if a = j then ((sh a).1, (sh a).2.1, fun b => if b = k then r else (sh a).2.2 b) else sh a
theorem mCl_congr {cd ad : Nat → Nat} {aC : Nat → ClassId} {σ σ' : mS} {e : mE} {a : Nat} (h1 : σ'.1 a = σ.1 a) (h2 : σ'.2.1 a = σ.2.1 a) (h3 : σ'.2.2 a = σ.2.2 a) : mCl cd ad aC σ' e a = mCl cd ad aC σ e a := by
  simp only [mCl, mFs, mFl, mAr, h1, h2, h3]
theorem mTys {cA : ClassId} {ty : FieldType} {tys : List (ClassId × FieldType)} (h : (cA, ty) ∈ tys) : ∃ t0 : Nat, tys[t0]? = some (cA, ty) := List.mem_iff_getElem?.mp h
theorem mCl_obj {cd ad : Nat → Nat} {aC : Nat → ClassId} {σ : mS} {e : mE} {a : Nat} (h : e.1 < 9) : mCl cd ad aC σ e a = .inr (e.1, mFs cd ad σ e a) := by rw [mCl, if_pos (by omega)]
theorem mCl_arr {cd ad : Nat → Nat} {aC : Nat → ClassId} {σ : mS} {e : mE} {a t : Nat} (h : e.1 = 100 + t) : mCl cd ad aC σ e a = .inl (aC a, e.2.1, mAr cd σ a t) := by rw [mCl, if_neg (by omega), h, Nat.add_sub_cancel_left]
theorem mWs_obj {cd ad : Nat → Nat} {aC : Nat → ClassId} {N : Nat} {sh : mH} {σ : mS} {j : Nat} (hj : j < N) (h : (sh j).1 < 9) : (mWs cd ad aC N sh σ)[j]? = some (ad j, .inr ((sh j).1, mFs cd ad σ (sh j) j)) := by rw [mWs_get hj, mCl_obj h]
theorem mWs_arr {cd ad : Nat → Nat} {aC : Nat → ClassId} {N : Nat} {sh : mH} {σ : mS} {j t : Nat} (hj : j < N) (h : (sh j).1 = 100 + t) : (mWs cd ad aC N sh σ)[j]? = some (ad j, .inl (aC j, (sh j).2.1, mAr cd σ j t)) := by rw [mWs_get hj, mCl_arr h]
theorem mAd_lo {cd ad : Nat → Nat} {j : Nat} (h : j < 1000) : mAd cd ad j = ad j := by rw [mAd, if_pos h]
theorem mAd_hi {cd ad : Nat → Nat} {j : Nat} (h : 1000 ≤ j) : mAd cd ad j = cd j := by rw [mAd, if_neg (by omega)]
/-- the world behind a write of numbers into cell j -/
theorem mY_put {D : va_G} {cd ad : Nat → Nat} {aC : Nat → ClassId} {A : Nat → Prop} {N : Nat} {sh : mH} {σ σ' : mS} {U : State} {H H1 : Heap} {j : Nat} {e : va_E} (hY : mY D cd ad aC A N sh σ U H) (h1 : mCl cd ad aC σ' (sh j) j = e) (h2 : ∀ k, k ≠ j → σ'.1 k = σ.1 k ∧ σ'.2.1 k = σ.2.1 k ∧ σ'.2.2 k = σ.2.2 k) (hP : va_P D vwCl ((mWs cd ad aC N sh σ).set j (ad j, e)) H1) (hD : va_D A ((mWs cd ad aC N sh σ).set j (ad j, e))) : mY D cd ad aC A N sh σ' U H1 := by
  have he := mWs_set (N := N) (sh := sh) (sh' := sh) (σ := σ) (σ' := σ') (ad := ad) (aC := aC) (cd := cd) h1 (fun k hk => mCl_congr (h2 k hk).1 (h2 k hk).2.1 (h2 k hk).2.2)
  rw [he] at hP hD
  exact ⟨hP, hY.2.1, hD, hY.2.2.2⟩
theorem mPI_fs {cd ad : Nat → Nat} {σ : mS} {e : mE} {j k : Nat} {x : Int32} (hk : k < mCN e.1) (hT : mTF e.1 k = .int ∨ mTF e.1 k = .boolean) : mFs cd ad (mPI σ j k x) e j = (mFs cd ad σ e j).set k (.int x) := by
  apply List.ext_getElem?
  intro b
  rw [List.getElem?_set]
  by_cases hb : b < mCN e.1
  · rw [mFs_get hb]
    by_cases hkb : k = b
    · subst hkb
      rw [if_pos rfl, if_pos (by simpa [mFs] using hb)]
      rcases hT with q | q <;> simp [q, mFl, mPI, mU2]
    · rw [if_neg hkb, mFs_get hb]
      congr 1
      cases mTF e.1 b <;> simp [mFl, mPI, mU2, show ¬ b = k from fun q => hkb q.symm]
  · have a1 : (mFs cd ad (mPI σ j k x) e j)[b]? = none := by simp [mFs]; omega
    have a2 : (mFs cd ad σ e j)[b]? = none := by simp [mFs]; omega
    rw [a1, a2, if_neg (by intro q; subst q; exact hb hk)]
theorem mPL_fs {cd ad : Nat → Nat} {σ : mS} {e : mE} {j k : Nat} {x : Int64} (hk : k < mCN e.1) (hT : mTF e.1 k = .long) : mFs cd ad (mPL σ j k x) e j = (mFs cd ad σ e j).set k (.long x) := by
  apply List.ext_getElem?
  intro b
  rw [List.getElem?_set]
  by_cases hb : b < mCN e.1
  · rw [mFs_get hb]
    by_cases hkb : k = b
    · subst hkb
      rw [if_pos rfl, if_pos (by simpa [mFs] using hb)]
      simp [hT, mFl, mPL, mU2]
    · rw [if_neg hkb, mFs_get hb]
      congr 1
      cases mTF e.1 b <;> simp [mFl, mPL, mU2, show ¬ b = k from fun q => hkb q.symm]
  · have a1 : (mFs cd ad (mPL σ j k x) e j)[b]? = none := by simp [mFs]; omega
    have a2 : (mFs cd ad σ e j)[b]? = none := by simp [mFs]; omega
    rw [a1, a2, if_neg (by intro q; subst q; exact hb hk)]
def mRefTy : FieldType → Bool := fun ty => match ty with
  | .object _ => true
  | .array _ => true
  | _ => false
theorem mPH_fs {cd ad : Nat → Nat} {σ : mS} {sh : mH} {j k : Nat} {r : Option Nat} (hk : k < mCN (sh j).1) (hT : mRefTy (mTF (sh j).1 k) = true) : mFs cd ad σ (mPH sh j k r j) j = (mFs cd ad σ (sh j) j).set k (va_rf (r.map (mAd cd ad))) := by
  apply List.ext_getElem?
  intro b
  have e1 : (mPH sh j k r j).1 = (sh j).1 := by simp [mPH]
  rw [List.getElem?_set]
  by_cases hb : b < mCN (sh j).1
  · rw [mFs_get (by rw [e1]; exact hb), e1]
    by_cases hkb : k = b
    · subst hkb
      rw [if_pos rfl, if_pos (by simpa [mFs] using hb)]
      cases h : mTF (sh j).1 k <;> rw [h] at hT <;> first | (cases hT; done) | simp [mFl, mPH]
    · rw [if_neg hkb, mFs_get hb]
      congr 1
      cases mTF (sh j).1 b <;> simp [mFl, mPH, show ¬ b = k from fun q => hkb q.symm]
  · have a1 : (mFs cd ad σ (mPH sh j k r j) j)[b]? = none := by simp [mFs, e1]; omega
    have a2 : (mFs cd ad σ (sh j) j)[b]? = none := by simp [mFs]; omega
    rw [a1, a2, if_neg (by intro q; subst q; exact hb hk)]

theorem mK_get {Γ : Nat × (Nat → Int32)} {I : mM} {d : Nat} {Q : mQ} {n0 bc bs pc : Nat} {lv : List (Nat × Value)} {st : List Value} {N : Nat} {sh : mH} {σ : mS} {n j k : Nat}  {pc1 : Nat} (hd : decode I.2.1 pc = .ok (.getfield n, 3)) (hp : pc + 3 = pc1) (hj : j < N) (hci : (sh j).1 < 9) (hk : k < mCN (sh j).1) (hw : Cond.fieldLink I.1.cls n (mCT (sh j).1 k).1 (mCT (sh j).1 k).2.1 (mCT (sh j).1 k).2.2.1 ∈ mBig) (k0 : mK Γ I d Q n0 bc bs (pc1) lv (mG σ (sh j) j k (mTF (sh j).1 k) :: st) N sh σ) : mK Γ I d Q n0 bc bs (pc) lv (.ref j :: st) N sh σ := by
  subst hp
  intro p l e R s m args below meth c H locs cells slots ls D cd ad ad0 aC A mc ms hX hY hS hl hag hb hc
  have hY0 := hY
  obtain ⟨hP, ⟨tys, hK, hty⟩, hD, hN, hcl⟩ := hY
  rw [List.map_cons, show mV cd ad (.ref j) = .ref (ad j) from congrArg Value.ref (mAd_lo (by omega))]
  refine va_get hX.1.1 hX.1.2.1 (fun w hw => hX.2.1.2 w hw) (mW_in hci) hX.2.1.1 hK hP j (mWs_obj hj hci) (mCl_in hci) k hk (hX.2.1.2 _ hw) (fun _ h => h) (mFs_get hk) hd ?_
  have h := k0 p l e R s m args below meth c H locs cells slots ls D cd ad ad0 aC A mc ms hX hY0 hS hl hag hb (hc.pop.push (mG_ok hcl hj))
  rw [List.map_cons, mG_V] at h
  exact h
theorem mK_putI {Γ : Nat × (Nat → Int32)} {I : mM} {d : Nat} {Q : mQ} {n0 bc bs pc : Nat} {lv : List (Nat × Value)} {st : List Value} {N : Nat} {sh : mH} {σ : mS} {n j k : Nat}  {x : Int32} {pc1 : Nat} (hd : decode I.2.1 pc = .ok (.putfield n, 3)) (hp : pc + 3 = pc1) (hj : j < N) (hci : (sh j).1 < 9) (hk : k < mCN (sh j).1) (hT : mTF (sh j).1 k = .int) (hf : (mCT (sh j).1 k).2.2.2 = false) (hw : Cond.fieldLink I.1.cls n (mCT (sh j).1 k).1 (mCT (sh j).1 k).2.1 (mCT (sh j).1 k).2.2.1 ∈ mBig) (k0 : mK Γ I d Q n0 bc bs (pc1) lv (st) N sh (mPI σ j k x)) : mK Γ I d Q n0 bc bs (pc) lv (.int x :: .ref j :: st) N sh σ := by
  subst hp
  intro p l e R s m args below meth c H locs cells slots ls D cd ad ad0 aC A mc ms hX hY hS hl hag hb hc
  have hY0 := hY
  obtain ⟨hP, ⟨tys, hK, hty⟩, hD, hN, hcl⟩ := hY
  rw [List.map_cons, List.map_cons, show mV cd ad (.ref j) = .ref (ad j) from congrArg Value.ref (mAd_lo (by omega))]
  refine va_put hX.1.1 hX.1.2.1 (fun w hw => hX.2.1.2 w hw) (mW_in hci) (mTF (sh j).1) (mTF_ok hci) (mNm_ok hci) hX.2.1.1 hK hP hD hS j (mWs_obj hj hci) (mCl_in hci) k hk (hX.2.1.2 _ hw) (fun _ h => h) hf (ty := .int) ((mTF_ok hci k hk).trans (congrArg some hT)) (by rfl) (by rfl) (by simpa [mFs] using hk) hd (fun H1 locs1 hP1 hD1 hS1 => ?_)
  exact k0 p l e R s m args below meth c H1 locs1 cells slots ls D cd ad ad0 aC A mc ms hX (mY_put hY0 (by rw [mCl_obj hci, mPI_fs hk (Or.inl hT)]; rfl) (fun a q => ⟨mU2_ne q, rfl, rfl⟩) hP1 hD1) hS1 hl hag hb hc.pop.pop
theorem mK_putIF {Γ : Nat × (Nat → Int32)} {I : mM} {d : Nat} {Q : mQ} {n0 bc bs pc : Nat} {lv : List (Nat × Value)} {st : List Value} {N : Nat} {sh : mH} {σ : mS} {n j k : Nat}  {x : Int32} {pc1 : Nat} (hd : decode I.2.1 pc = .ok (.putfield n, 3)) (hp : pc + 3 = pc1) (hj : j < N) (hci : (sh j).1 < 9) (hk : k < mCN (sh j).1) (hT : mTF (sh j).1 k = .int) (hf : (mCT (sh j).1 k).2.2.2 = true) (hi : I.1.name = "<init>") (hdc : (mCT (sh j).1 k).1 = I.1.cls) (hw : Cond.fieldLink I.1.cls n (mCT (sh j).1 k).1 (mCT (sh j).1 k).2.1 (mCT (sh j).1 k).2.2.1 ∈ mBig) (k0 : mK Γ I d Q n0 bc bs (pc1) lv (st) N sh (mPI σ j k x)) : mK Γ I d Q n0 bc bs (pc) lv (.int x :: .ref j :: st) N sh σ := by
  subst hp
  intro p l e R s m args below meth c H locs cells slots ls D cd ad ad0 aC A mc ms hX hY hS hl hag hb hc
  have hY0 := hY
  obtain ⟨hP, ⟨tys, hK, hty⟩, hD, hN, hcl⟩ := hY
  rw [List.map_cons, List.map_cons, show mV cd ad (.ref j) = .ref (ad j) from congrArg Value.ref (mAd_lo (by omega))]
  refine va_putF hX.1.1 hX.1.2.1 (fun w hw => hX.2.1.2 w hw) (mW_in hci) (mTF (sh j).1) (mTF_ok hci) (mNm_ok hci) hX.2.1.1 hK hP hD hS j (mWs_obj hj hci) (mCl_in hci) k hk (hX.2.1.2 _ hw) (fun _ h => h) hf (hX.2.2.1.2.1.trans hi) hdc (ty := .int) ((mTF_ok hci k hk).trans (congrArg some hT)) (by rfl) (by rfl) (by simpa [mFs] using hk) hd (fun H1 locs1 hP1 hD1 hS1 => ?_)
  exact k0 p l e R s m args below meth c H1 locs1 cells slots ls D cd ad ad0 aC A mc ms hX (mY_put hY0 (by rw [mCl_obj hci, mPI_fs hk (Or.inl hT)]; rfl) (fun a q => ⟨mU2_ne q, rfl, rfl⟩) hP1 hD1) hS1 hl hag hb hc.pop.pop
theorem mK_putZ {Γ : Nat × (Nat → Int32)} {I : mM} {d : Nat} {Q : mQ} {n0 bc bs pc : Nat} {lv : List (Nat × Value)} {st : List Value} {N : Nat} {sh : mH} {σ : mS} {n j k : Nat}  {x : Int32} {pc1 : Nat} (hd : decode I.2.1 pc = .ok (.putfield n, 3)) (hp : pc + 3 = pc1) (hj : j < N) (hci : (sh j).1 < 9) (hk : k < mCN (sh j).1) (hT : mTF (sh j).1 k = .boolean) (hx : x = 0 ∨ x = 1) (hf : (mCT (sh j).1 k).2.2.2 = false) (hw : Cond.fieldLink I.1.cls n (mCT (sh j).1 k).1 (mCT (sh j).1 k).2.1 (mCT (sh j).1 k).2.2.1 ∈ mBig) (k0 : mK Γ I d Q n0 bc bs (pc1) lv (st) N sh (mPI σ j k x)) : mK Γ I d Q n0 bc bs (pc) lv (.int x :: .ref j :: st) N sh σ := by
  subst hp
  intro p l e R s m args below meth c H locs cells slots ls D cd ad ad0 aC A mc ms hX hY hS hl hag hb hc
  have hY0 := hY
  obtain ⟨hP, ⟨tys, hK, hty⟩, hD, hN, hcl⟩ := hY
  rw [List.map_cons, List.map_cons, show mV cd ad (.ref j) = .ref (ad j) from congrArg Value.ref (mAd_lo (by omega))]
  refine va_put hX.1.1 hX.1.2.1 (fun w hw => hX.2.1.2 w hw) (mW_in hci) (mTF (sh j).1) (mTF_ok hci) (mNm_ok hci) hX.2.1.1 hK hP hD hS j (mWs_obj hj hci) (mCl_in hci) k hk (hX.2.1.2 _ hw) (fun _ h => h) hf (ty := .boolean) ((mTF_ok hci k hk).trans (congrArg some hT)) (by rcases hx with q | q <;> subst q <;> rfl) (by rcases hx with q | q <;> subst q <;> rfl) (by simpa [mFs] using hk) hd (fun H1 locs1 hP1 hD1 hS1 => ?_)
  exact k0 p l e R s m args below meth c H1 locs1 cells slots ls D cd ad ad0 aC A mc ms hX (mY_put hY0 (by rw [mCl_obj hci, mPI_fs hk (Or.inr hT)]; rfl) (fun a q => ⟨mU2_ne q, rfl, rfl⟩) hP1 hD1) hS1 hl hag hb hc.pop.pop
theorem mK_putZF {Γ : Nat × (Nat → Int32)} {I : mM} {d : Nat} {Q : mQ} {n0 bc bs pc : Nat} {lv : List (Nat × Value)} {st : List Value} {N : Nat} {sh : mH} {σ : mS} {n j k : Nat}  {x : Int32} {pc1 : Nat} (hd : decode I.2.1 pc = .ok (.putfield n, 3)) (hp : pc + 3 = pc1) (hj : j < N) (hci : (sh j).1 < 9) (hk : k < mCN (sh j).1) (hT : mTF (sh j).1 k = .boolean) (hx : x = 0 ∨ x = 1) (hf : (mCT (sh j).1 k).2.2.2 = true) (hi : I.1.name = "<init>") (hdc : (mCT (sh j).1 k).1 = I.1.cls) (hw : Cond.fieldLink I.1.cls n (mCT (sh j).1 k).1 (mCT (sh j).1 k).2.1 (mCT (sh j).1 k).2.2.1 ∈ mBig) (k0 : mK Γ I d Q n0 bc bs (pc1) lv (st) N sh (mPI σ j k x)) : mK Γ I d Q n0 bc bs (pc) lv (.int x :: .ref j :: st) N sh σ := by
  subst hp
  intro p l e R s m args below meth c H locs cells slots ls D cd ad ad0 aC A mc ms hX hY hS hl hag hb hc
  have hY0 := hY
  obtain ⟨hP, ⟨tys, hK, hty⟩, hD, hN, hcl⟩ := hY
  rw [List.map_cons, List.map_cons, show mV cd ad (.ref j) = .ref (ad j) from congrArg Value.ref (mAd_lo (by omega))]
  refine va_putF hX.1.1 hX.1.2.1 (fun w hw => hX.2.1.2 w hw) (mW_in hci) (mTF (sh j).1) (mTF_ok hci) (mNm_ok hci) hX.2.1.1 hK hP hD hS j (mWs_obj hj hci) (mCl_in hci) k hk (hX.2.1.2 _ hw) (fun _ h => h) hf (hX.2.2.1.2.1.trans hi) hdc (ty := .boolean) ((mTF_ok hci k hk).trans (congrArg some hT)) (by rcases hx with q | q <;> subst q <;> rfl) (by rcases hx with q | q <;> subst q <;> rfl) (by simpa [mFs] using hk) hd (fun H1 locs1 hP1 hD1 hS1 => ?_)
  exact k0 p l e R s m args below meth c H1 locs1 cells slots ls D cd ad ad0 aC A mc ms hX (mY_put hY0 (by rw [mCl_obj hci, mPI_fs hk (Or.inr hT)]; rfl) (fun a q => ⟨mU2_ne q, rfl, rfl⟩) hP1 hD1) hS1 hl hag hb hc.pop.pop
theorem mK_putL {Γ : Nat × (Nat → Int32)} {I : mM} {d : Nat} {Q : mQ} {n0 bc bs pc : Nat} {lv : List (Nat × Value)} {st : List Value} {N : Nat} {sh : mH} {σ : mS} {n j k : Nat}  {x : Int64} {pc1 : Nat} (hd : decode I.2.1 pc = .ok (.putfield n, 3)) (hp : pc + 3 = pc1) (hj : j < N) (hci : (sh j).1 < 9) (hk : k < mCN (sh j).1) (hT : mTF (sh j).1 k = .long) (hf : (mCT (sh j).1 k).2.2.2 = false) (hw : Cond.fieldLink I.1.cls n (mCT (sh j).1 k).1 (mCT (sh j).1 k).2.1 (mCT (sh j).1 k).2.2.1 ∈ mBig) (k0 : mK Γ I d Q n0 bc bs (pc1) lv (st) N sh (mPL σ j k x)) : mK Γ I d Q n0 bc bs (pc) lv (.long x :: .ref j :: st) N sh σ := by
  subst hp
  intro p l e R s m args below meth c H locs cells slots ls D cd ad ad0 aC A mc ms hX hY hS hl hag hb hc
  have hY0 := hY
  obtain ⟨hP, ⟨tys, hK, hty⟩, hD, hN, hcl⟩ := hY
  rw [List.map_cons, List.map_cons, show mV cd ad (.ref j) = .ref (ad j) from congrArg Value.ref (mAd_lo (by omega))]
  refine va_put hX.1.1 hX.1.2.1 (fun w hw => hX.2.1.2 w hw) (mW_in hci) (mTF (sh j).1) (mTF_ok hci) (mNm_ok hci) hX.2.1.1 hK hP hD hS j (mWs_obj hj hci) (mCl_in hci) k hk (hX.2.1.2 _ hw) (fun _ h => h) hf (ty := .long) ((mTF_ok hci k hk).trans (congrArg some hT)) (by rfl) (by rfl) (by simpa [mFs] using hk) hd (fun H1 locs1 hP1 hD1 hS1 => ?_)
  exact k0 p l e R s m args below meth c H1 locs1 cells slots ls D cd ad ad0 aC A mc ms hX (mY_put hY0 (by rw [mCl_obj hci, mPL_fs hk hT]; rfl) (fun a q => ⟨rfl, mU2_ne q, rfl⟩) hP1 hD1) hS1 hl hag hb hc.pop.pop
theorem mK_putLF {Γ : Nat × (Nat → Int32)} {I : mM} {d : Nat} {Q : mQ} {n0 bc bs pc : Nat} {lv : List (Nat × Value)} {st : List Value} {N : Nat} {sh : mH} {σ : mS} {n j k : Nat}  {x : Int64} {pc1 : Nat} (hd : decode I.2.1 pc = .ok (.putfield n, 3)) (hp : pc + 3 = pc1) (hj : j < N) (hci : (sh j).1 < 9) (hk : k < mCN (sh j).1) (hT : mTF (sh j).1 k = .long) (hf : (mCT (sh j).1 k).2.2.2 = true) (hi : I.1.name = "<init>") (hdc : (mCT (sh j).1 k).1 = I.1.cls) (hw : Cond.fieldLink I.1.cls n (mCT (sh j).1 k).1 (mCT (sh j).1 k).2.1 (mCT (sh j).1 k).2.2.1 ∈ mBig) (k0 : mK Γ I d Q n0 bc bs (pc1) lv (st) N sh (mPL σ j k x)) : mK Γ I d Q n0 bc bs (pc) lv (.long x :: .ref j :: st) N sh σ := by
  subst hp
  intro p l e R s m args below meth c H locs cells slots ls D cd ad ad0 aC A mc ms hX hY hS hl hag hb hc
  have hY0 := hY
  obtain ⟨hP, ⟨tys, hK, hty⟩, hD, hN, hcl⟩ := hY
  rw [List.map_cons, List.map_cons, show mV cd ad (.ref j) = .ref (ad j) from congrArg Value.ref (mAd_lo (by omega))]
  refine va_putF hX.1.1 hX.1.2.1 (fun w hw => hX.2.1.2 w hw) (mW_in hci) (mTF (sh j).1) (mTF_ok hci) (mNm_ok hci) hX.2.1.1 hK hP hD hS j (mWs_obj hj hci) (mCl_in hci) k hk (hX.2.1.2 _ hw) (fun _ h => h) hf (hX.2.2.1.2.1.trans hi) hdc (ty := .long) ((mTF_ok hci k hk).trans (congrArg some hT)) (by rfl) (by rfl) (by simpa [mFs] using hk) hd (fun H1 locs1 hP1 hD1 hS1 => ?_)
  exact k0 p l e R s m args below meth c H1 locs1 cells slots ls D cd ad ad0 aC A mc ms hX (mY_put hY0 (by rw [mCl_obj hci, mPL_fs hk hT]; rfl) (fun a q => ⟨rfl, mU2_ne q, rfl⟩) hP1 hD1) hS1 hl hag hb hc.pop.pop
theorem mK_getN {Γ : Nat × (Nat → Int32)} {I : mM} {d : Nat} {Q : mQ} {n0 bc bs pc : Nat} {lv : List (Nat × Value)} {st : List Value} {N : Nat} {sh : mH} {σ : mS} {n j k : Nat} {host : String} {pc1 : Nat} (hd : decode I.2.1 pc = .ok (.getfield n, 3)) (hp : pc + 3 = pc1) (hj : j < N) (hci : (sh j).1 < 9) (hk : k < mCN (sh j).1) (hw : Cond.fieldLinkNest I.1.cls n (mCT (sh j).1 k).1 (mCT (sh j).1 k).2.1 (mCT (sh j).1 k).2.2.1 host ∈ mNd) (k0 : mK Γ I d Q n0 bc bs (pc1) lv (mG σ (sh j) j k (mTF (sh j).1 k) :: st) N sh σ) : mK Γ I d Q n0 bc bs (pc) lv (.ref j :: st) N sh σ := by
  subst hp
  intro p l e R s m args below meth c H locs cells slots ls D cd ad ad0 aC A mc ms hX hY hS hl hag hb hc
  have hY0 := hY
  obtain ⟨hP, ⟨tys, hK, hty⟩, hD, hN, hcl⟩ := hY
  rw [List.map_cons, show mV cd ad (.ref j) = .ref (ad j) from congrArg Value.ref (mAd_lo (by omega))]
  refine va_getN hX.1.1 hX.1.2.1 (fun w hw => hX.2.1.2 w hw) (mW_in hci) hX.2.1.1 hK hP j (mWs_obj hj hci) (mCl_in hci) k hk (va_Nw.use rfl (hX.2.2.2.2.2.1.2.2.2.2.2.2.2.2.2.2.2.1 _ hw)) (fun _ h => h) (mFs_get hk) hd ?_
  have h := k0 p l e R s m args below meth c H locs cells slots ls D cd ad ad0 aC A mc ms hX hY0 hS hl hag hb (hc.pop.push (mG_ok hcl hj))
  rw [List.map_cons, mG_V] at h
  exact h
theorem mK_putIN {Γ : Nat × (Nat → Int32)} {I : mM} {d : Nat} {Q : mQ} {n0 bc bs pc : Nat} {lv : List (Nat × Value)} {st : List Value} {N : Nat} {sh : mH} {σ : mS} {n j k : Nat} {host : String} {x : Int32} {pc1 : Nat} (hd : decode I.2.1 pc = .ok (.putfield n, 3)) (hp : pc + 3 = pc1) (hj : j < N) (hci : (sh j).1 < 9) (hk : k < mCN (sh j).1) (hT : mTF (sh j).1 k = .int) (hf : (mCT (sh j).1 k).2.2.2 = false) (hw : Cond.fieldLinkNest I.1.cls n (mCT (sh j).1 k).1 (mCT (sh j).1 k).2.1 (mCT (sh j).1 k).2.2.1 host ∈ mNd) (k0 : mK Γ I d Q n0 bc bs (pc1) lv (st) N sh (mPI σ j k x)) : mK Γ I d Q n0 bc bs (pc) lv (.int x :: .ref j :: st) N sh σ := by
  subst hp
  intro p l e R s m args below meth c H locs cells slots ls D cd ad ad0 aC A mc ms hX hY hS hl hag hb hc
  have hY0 := hY
  obtain ⟨hP, ⟨tys, hK, hty⟩, hD, hN, hcl⟩ := hY
  rw [List.map_cons, List.map_cons, show mV cd ad (.ref j) = .ref (ad j) from congrArg Value.ref (mAd_lo (by omega))]
  refine va_putN hX.1.1 hX.1.2.1 (fun w hw => hX.2.1.2 w hw) (mW_in hci) (mTF (sh j).1) (mTF_ok hci) (mNm_ok hci) hX.2.1.1 hK hP hD hS j (mWs_obj hj hci) (mCl_in hci) k hk (va_Nw.use rfl (hX.2.2.2.2.2.1.2.2.2.2.2.2.2.2.2.2.2.1 _ hw)) (fun _ h => h) hf (ty := .int) ((mTF_ok hci k hk).trans (congrArg some hT)) (by rfl) (by rfl) (by simpa [mFs] using hk) hd (fun H1 locs1 hP1 hD1 hS1 => ?_)
  exact k0 p l e R s m args below meth c H1 locs1 cells slots ls D cd ad ad0 aC A mc ms hX (mY_put hY0 (by rw [mCl_obj hci, mPI_fs hk (Or.inl hT)]; rfl) (fun a q => ⟨mU2_ne q, rfl, rfl⟩) hP1 hD1) hS1 hl hag hb hc.pop.pop
theorem mK_putZN {Γ : Nat × (Nat → Int32)} {I : mM} {d : Nat} {Q : mQ} {n0 bc bs pc : Nat} {lv : List (Nat × Value)} {st : List Value} {N : Nat} {sh : mH} {σ : mS} {n j k : Nat} {host : String} {x : Int32} {pc1 : Nat} (hd : decode I.2.1 pc = .ok (.putfield n, 3)) (hp : pc + 3 = pc1) (hj : j < N) (hci : (sh j).1 < 9) (hk : k < mCN (sh j).1) (hT : mTF (sh j).1 k = .boolean) (hx : x = 0 ∨ x = 1) (hf : (mCT (sh j).1 k).2.2.2 = false) (hw : Cond.fieldLinkNest I.1.cls n (mCT (sh j).1 k).1 (mCT (sh j).1 k).2.1 (mCT (sh j).1 k).2.2.1 host ∈ mNd) (k0 : mK Γ I d Q n0 bc bs (pc1) lv (st) N sh (mPI σ j k x)) : mK Γ I d Q n0 bc bs (pc) lv (.int x :: .ref j :: st) N sh σ := by
  subst hp
  intro p l e R s m args below meth c H locs cells slots ls D cd ad ad0 aC A mc ms hX hY hS hl hag hb hc
  have hY0 := hY
  obtain ⟨hP, ⟨tys, hK, hty⟩, hD, hN, hcl⟩ := hY
  rw [List.map_cons, List.map_cons, show mV cd ad (.ref j) = .ref (ad j) from congrArg Value.ref (mAd_lo (by omega))]
  refine va_putN hX.1.1 hX.1.2.1 (fun w hw => hX.2.1.2 w hw) (mW_in hci) (mTF (sh j).1) (mTF_ok hci) (mNm_ok hci) hX.2.1.1 hK hP hD hS j (mWs_obj hj hci) (mCl_in hci) k hk (va_Nw.use rfl (hX.2.2.2.2.2.1.2.2.2.2.2.2.2.2.2.2.2.1 _ hw)) (fun _ h => h) hf (ty := .boolean) ((mTF_ok hci k hk).trans (congrArg some hT)) (by rcases hx with q | q <;> subst q <;> rfl) (by rcases hx with q | q <;> subst q <;> rfl) (by simpa [mFs] using hk) hd (fun H1 locs1 hP1 hD1 hS1 => ?_)
  exact k0 p l e R s m args below meth c H1 locs1 cells slots ls D cd ad ad0 aC A mc ms hX (mY_put hY0 (by rw [mCl_obj hci, mPI_fs hk (Or.inr hT)]; rfl) (fun a q => ⟨mU2_ne q, rfl, rfl⟩) hP1 hD1) hS1 hl hag hb hc.pop.pop
theorem mK_putLN {Γ : Nat × (Nat → Int32)} {I : mM} {d : Nat} {Q : mQ} {n0 bc bs pc : Nat} {lv : List (Nat × Value)} {st : List Value} {N : Nat} {sh : mH} {σ : mS} {n j k : Nat} {host : String} {x : Int64} {pc1 : Nat} (hd : decode I.2.1 pc = .ok (.putfield n, 3)) (hp : pc + 3 = pc1) (hj : j < N) (hci : (sh j).1 < 9) (hk : k < mCN (sh j).1) (hT : mTF (sh j).1 k = .long) (hf : (mCT (sh j).1 k).2.2.2 = false) (hw : Cond.fieldLinkNest I.1.cls n (mCT (sh j).1 k).1 (mCT (sh j).1 k).2.1 (mCT (sh j).1 k).2.2.1 host ∈ mNd) (k0 : mK Γ I d Q n0 bc bs (pc1) lv (st) N sh (mPL σ j k x)) : mK Γ I d Q n0 bc bs (pc) lv (.long x :: .ref j :: st) N sh σ := by
  subst hp
  intro p l e R s m args below meth c H locs cells slots ls D cd ad ad0 aC A mc ms hX hY hS hl hag hb hc
  have hY0 := hY
  obtain ⟨hP, ⟨tys, hK, hty⟩, hD, hN, hcl⟩ := hY
  rw [List.map_cons, List.map_cons, show mV cd ad (.ref j) = .ref (ad j) from congrArg Value.ref (mAd_lo (by omega))]
  refine va_putN hX.1.1 hX.1.2.1 (fun w hw => hX.2.1.2 w hw) (mW_in hci) (mTF (sh j).1) (mTF_ok hci) (mNm_ok hci) hX.2.1.1 hK hP hD hS j (mWs_obj hj hci) (mCl_in hci) k hk (va_Nw.use rfl (hX.2.2.2.2.2.1.2.2.2.2.2.2.2.2.2.2.2.1 _ hw)) (fun _ h => h) hf (ty := .long) ((mTF_ok hci k hk).trans (congrArg some hT)) (by rfl) (by rfl) (by simpa [mFs] using hk) hd (fun H1 locs1 hP1 hD1 hS1 => ?_)
  exact k0 p l e R s m args below meth c H1 locs1 cells slots ls D cd ad ad0 aC A mc ms hX (mY_put hY0 (by rw [mCl_obj hci, mPL_fs hk hT]; rfl) (fun a q => ⟨rfl, mU2_ne q, rfl⟩) hP1 hD1) hS1 hl hag hb hc.pop.pop
theorem mK_putR {Γ : Nat × (Nat → Int32)} {I : mM} {d : Nat} {Q : mQ} {n0 bc bs pc : Nat} {lv : List (Nat × Value)} {st : List Value} {N : Nat} {sh : mH} {σ : mS} {n j k v : Nat} {pc1 : Nat} (hd : decode I.2.1 pc = .ok (.putfield n, 3)) (hp : pc + 3 = pc1) (hj : j < N) (hci : (sh j).1 < 9) (hk : k < mCN (sh j).1) (hT : mRefTy (mTF (sh j).1 k) = true) (hf : (mCT (sh j).1 k).2.2.2 = false) (hw : Cond.fieldLink I.1.cls n (mCT (sh j).1 k).1 (mCT (sh j).1 k).2.1 (mCT (sh j).1 k).2.2.1 ∈ mBig) (k0 : mK Γ I d Q n0 bc bs (pc1) lv (st) N (mPH sh j k (some v)) σ) : mK Γ I d Q n0 bc bs (pc) lv (.ref v :: .ref j :: st) N sh σ := by
  subst hp
  intro p l e R s m args below meth c H locs cells slots ls D cd ad ad0 aC A mc ms hX hY hS hl hag hb hc
  have hY0 := hY
  obtain ⟨hP, ⟨tys, hK, hty⟩, hD, hN, hcl⟩ := hY
  rw [List.map_cons, List.map_cons, show mV cd ad (.ref j) = .ref (ad j) from congrArg Value.ref (mAd_lo (by omega)), show mV cd ad (.ref v) = .ref (mAd cd ad v) from rfl]
  refine va_put hX.1.1 hX.1.2.1 (fun w hw => hX.2.1.2 w hw) (mW_in hci) (mTF (sh j).1) (mTF_ok hci) (mNm_ok hci) hX.2.1.1 hK hP hD hS j (mWs_obj hj hci) (mCl_in hci) k hk (hX.2.1.2 _ hw) (fun _ h => h) hf (ty := mTF (sh j).1 k) (mTF_ok hci k hk) (by cases h : mTF (sh j).1 k <;> rw [h] at hT <;> first | (cases hT; done) | rfl) (by cases h : mTF (sh j).1 k <;> rw [h] at hT <;> first | (cases hT; done) | rfl) (by simpa [mFs] using hk) hd (fun H1 locs1 hP1 hD1 hS1 => ?_)
  have e1 : (mPH sh j k (some v) j).1 = (sh j).1 := by simp [mPH]
  have he := mWs_set (N := N) (sh := sh) (sh' := mPH sh j k (some v)) (σ := σ) (σ' := σ) (ad := ad) (aC := aC) (cd := cd) (j := j) (e := .inr ((sh j).1, (mFs cd ad σ (sh j) j).set k (.ref (mAd cd ad v)))) (by rw [mCl_obj (by rw [e1]; exact hci), e1, mPH_fs hk hT]; rfl) (fun a q => by simp [mPH, q])
  rw [he] at hP1 hD1
  refine k0 p l e R s m args below meth c H1 locs1 cells slots ls D cd ad ad0 aC A mc ms hX ⟨hP1, ⟨tys, hK, fun a ha h100 => ?_⟩, hD1, hN, fun a ha b c hb' => ?_⟩ hS1 hl hag hb hc.pop.pop
  · have e2 : (mPH sh j k (some v) a).1 = (sh a).1 := by unfold mPH; split <;> rfl
    rw [e2] at h100 ⊢
    exact hty a ha h100
  · by_cases q : a = j
    · subst q
      simp only [mPH, if_pos] at hb'
      by_cases q2 : b = k
      · rw [if_pos q2] at hb'
        cases hb'
        exact hc.top _ rfl
      · rw [if_neg q2] at hb'
        exact hcl a ha b c hb'
    · simp only [mPH, if_neg q] at hb'
      exact hcl a ha b c hb'
theorem mK_putRF {Γ : Nat × (Nat → Int32)} {I : mM} {d : Nat} {Q : mQ} {n0 bc bs pc : Nat} {lv : List (Nat × Value)} {st : List Value} {N : Nat} {sh : mH} {σ : mS} {n j k v : Nat} {pc1 : Nat} (hd : decode I.2.1 pc = .ok (.putfield n, 3)) (hp : pc + 3 = pc1) (hj : j < N) (hci : (sh j).1 < 9) (hk : k < mCN (sh j).1) (hT : mRefTy (mTF (sh j).1 k) = true) (hf : (mCT (sh j).1 k).2.2.2 = true) (hi : I.1.name = "<init>") (hdc : (mCT (sh j).1 k).1 = I.1.cls) (hw : Cond.fieldLink I.1.cls n (mCT (sh j).1 k).1 (mCT (sh j).1 k).2.1 (mCT (sh j).1 k).2.2.1 ∈ mBig) (k0 : mK Γ I d Q n0 bc bs (pc1) lv (st) N (mPH sh j k (some v)) σ) : mK Γ I d Q n0 bc bs (pc) lv (.ref v :: .ref j :: st) N sh σ := by
  subst hp
  intro p l e R s m args below meth c H locs cells slots ls D cd ad ad0 aC A mc ms hX hY hS hl hag hb hc
  have hY0 := hY
  obtain ⟨hP, ⟨tys, hK, hty⟩, hD, hN, hcl⟩ := hY
  rw [List.map_cons, List.map_cons, show mV cd ad (.ref j) = .ref (ad j) from congrArg Value.ref (mAd_lo (by omega)), show mV cd ad (.ref v) = .ref (mAd cd ad v) from rfl]
  refine va_putF hX.1.1 hX.1.2.1 (fun w hw => hX.2.1.2 w hw) (mW_in hci) (mTF (sh j).1) (mTF_ok hci) (mNm_ok hci) hX.2.1.1 hK hP hD hS j (mWs_obj hj hci) (mCl_in hci) k hk (hX.2.1.2 _ hw) (fun _ h => h) hf (hX.2.2.1.2.1.trans hi) hdc (ty := mTF (sh j).1 k) (mTF_ok hci k hk) (by cases h : mTF (sh j).1 k <;> rw [h] at hT <;> first | (cases hT; done) | rfl) (by cases h : mTF (sh j).1 k <;> rw [h] at hT <;> first | (cases hT; done) | rfl) (by simpa [mFs] using hk) hd (fun H1 locs1 hP1 hD1 hS1 => ?_)
  have e1 : (mPH sh j k (some v) j).1 = (sh j).1 := by simp [mPH]
  have he := mWs_set (N := N) (sh := sh) (sh' := mPH sh j k (some v)) (σ := σ) (σ' := σ) (ad := ad) (aC := aC) (cd := cd) (j := j) (e := .inr ((sh j).1, (mFs cd ad σ (sh j) j).set k (.ref (mAd cd ad v)))) (by rw [mCl_obj (by rw [e1]; exact hci), e1, mPH_fs hk hT]; rfl) (fun a q => by simp [mPH, q])
  rw [he] at hP1 hD1
  refine k0 p l e R s m args below meth c H1 locs1 cells slots ls D cd ad ad0 aC A mc ms hX ⟨hP1, ⟨tys, hK, fun a ha h100 => ?_⟩, hD1, hN, fun a ha b c hb' => ?_⟩ hS1 hl hag hb hc.pop.pop
  · have e2 : (mPH sh j k (some v) a).1 = (sh a).1 := by unfold mPH; split <;> rfl
    rw [e2] at h100 ⊢
    exact hty a ha h100
  · by_cases q : a = j
    · subst q
      simp only [mPH, if_pos] at hb'
      by_cases q2 : b = k
      · rw [if_pos q2] at hb'
        cases hb'
        exact hc.top _ rfl
      · rw [if_neg q2] at hb'
        exact hcl a ha b c hb'
    · simp only [mPH, if_neg q] at hb'
      exact hcl a ha b c hb'
theorem mK_iald {Γ : Nat × (Nat → Int32)} {I : mM} {d : Nat} {Q : mQ} {n0 bc bs pc : Nat} {lv : List (Nat × Value)} {st : List Value} {N : Nat} {sh : mH} {σ : mS} {j : Nat} {i : Int32} {pc1 : Nat} (hd : decode I.2.1 pc = .ok (.iaload, 1)) (hp : pc + 1 = pc1) (hj : j < N) (ht : (sh j).1 = 100 + 0) (hin : vp_in i (sh j).2.1) (k0 : mK Γ I d Q n0 bc bs (pc1) lv (.int (σ.1 j i.toNatClampNeg) :: st) N sh σ) : mK Γ I d Q n0 bc bs (pc) lv (.int i :: .ref j :: st) N sh σ := by
  subst hp
  intro p l e R s m args below meth c H locs cells slots ls D cd ad ad0 aC A mc ms hX hY hS hl hag hb hc
  have hY0 := hY
  obtain ⟨hP, ⟨tys, hK, hty⟩, hD, hN, hcl⟩ := hY
  obtain ⟨t0, ht0⟩ := mTys (hty j hj (by omega))
  rw [ht, Nat.add_sub_cancel_left] at ht0
  rw [List.map_cons, List.map_cons, show mV cd ad (.ref j) = .ref (ad j) from congrArg Value.ref (mAd_lo (by omega))]
  exact va_iald hX.1.1 hX.1.2.1 hK hP j t0 (mWs_arr hj ht) ht0 hin hd (k0 p l e R s m args below meth c H locs cells slots ls D cd ad ad0 aC A mc ms hX hY0 hS hl hag hb (hc.pop.pop.push mOk_i))
theorem mK_bald {Γ : Nat × (Nat → Int32)} {I : mM} {d : Nat} {Q : mQ} {n0 bc bs pc : Nat} {lv : List (Nat × Value)} {st : List Value} {N : Nat} {sh : mH} {σ : mS} {j : Nat} {i : Int32} {pc1 : Nat} (hd : decode I.2.1 pc = .ok (.baload, 1)) (hp : pc + 1 = pc1) (hj : j < N) (ht : (sh j).1 = 100 + 1) (hin : vp_in i (sh j).2.1) (k0 : mK Γ I d Q n0 bc bs (pc1) lv (.int (σ.1 j i.toNatClampNeg) :: st) N sh σ) : mK Γ I d Q n0 bc bs (pc) lv (.int i :: .ref j :: st) N sh σ := by
  subst hp
  intro p l e R s m args below meth c H locs cells slots ls D cd ad ad0 aC A mc ms hX hY hS hl hag hb hc
  have hY0 := hY
  obtain ⟨hP, ⟨tys, hK, hty⟩, hD, hN, hcl⟩ := hY
  obtain ⟨t0, ht0⟩ := mTys (hty j hj (by omega))
  rw [ht, Nat.add_sub_cancel_left] at ht0
  rw [List.map_cons, List.map_cons, show mV cd ad (.ref j) = .ref (ad j) from congrArg Value.ref (mAd_lo (by omega))]
  exact va_bald hX.1.1 hX.1.2.1 hK hP j t0 (mWs_arr hj ht) ht0 hin hd (k0 p l e R s m args below meth c H locs cells slots ls D cd ad ad0 aC A mc ms hX hY0 hS hl hag hb (hc.pop.pop.push mOk_i))
theorem mK_zald {Γ : Nat × (Nat → Int32)} {I : mM} {d : Nat} {Q : mQ} {n0 bc bs pc : Nat} {lv : List (Nat × Value)} {st : List Value} {N : Nat} {sh : mH} {σ : mS} {j : Nat} {i : Int32} {pc1 : Nat} (hd : decode I.2.1 pc = .ok (.baload, 1)) (hp : pc + 1 = pc1) (hj : j < N) (ht : (sh j).1 = 100 + 2) (hin : vp_in i (sh j).2.1) (k0 : mK Γ I d Q n0 bc bs (pc1) lv (.int (σ.1 j i.toNatClampNeg) :: st) N sh σ) : mK Γ I d Q n0 bc bs (pc) lv (.int i :: .ref j :: st) N sh σ := by
  subst hp
  intro p l e R s m args below meth c H locs cells slots ls D cd ad ad0 aC A mc ms hX hY hS hl hag hb hc
  have hY0 := hY
  obtain ⟨hP, ⟨tys, hK, hty⟩, hD, hN, hcl⟩ := hY
  obtain ⟨t0, ht0⟩ := mTys (hty j hj (by omega))
  rw [ht, Nat.add_sub_cancel_left] at ht0
  rw [List.map_cons, List.map_cons, show mV cd ad (.ref j) = .ref (ad j) from congrArg Value.ref (mAd_lo (by omega))]
  exact va_zald hX.1.1 hX.1.2.1 hK hP j t0 (mWs_arr hj ht) ht0 hin hd (k0 p l e R s m args below meth c H locs cells slots ls D cd ad ad0 aC A mc ms hX hY0 hS hl hag hb (hc.pop.pop.push mOk_i))
theorem mK_lald {Γ : Nat × (Nat → Int32)} {I : mM} {d : Nat} {Q : mQ} {n0 bc bs pc : Nat} {lv : List (Nat × Value)} {st : List Value} {N : Nat} {sh : mH} {σ : mS} {j : Nat} {i : Int32} {pc1 : Nat} (hd : decode I.2.1 pc = .ok (.laload, 1)) (hp : pc + 1 = pc1) (hj : j < N) (ht : (sh j).1 = 100 + 3) (hin : vp_in i (sh j).2.1) (k0 : mK Γ I d Q n0 bc bs (pc1) lv (.long (σ.2.1 j i.toNatClampNeg) :: st) N sh σ) : mK Γ I d Q n0 bc bs (pc) lv (.int i :: .ref j :: st) N sh σ := by
  subst hp
  intro p l e R s m args below meth c H locs cells slots ls D cd ad ad0 aC A mc ms hX hY hS hl hag hb hc
  have hY0 := hY
  obtain ⟨hP, ⟨tys, hK, hty⟩, hD, hN, hcl⟩ := hY
  obtain ⟨t0, ht0⟩ := mTys (hty j hj (by omega))
  rw [ht, Nat.add_sub_cancel_left] at ht0
  rw [List.map_cons, List.map_cons, show mV cd ad (.ref j) = .ref (ad j) from congrArg Value.ref (mAd_lo (by omega))]
  exact va_lald hX.1.1 hX.1.2.1 hK hP j t0 (mWs_arr hj ht) ht0 hin hd (k0 p l e R s m args below meth c H locs cells slots ls D cd ad ad0 aC A mc ms hX hY0 hS hl hag hb (hc.pop.pop.push mOk_l))
theorem mK_iast {Γ : Nat × (Nat → Int32)} {I : mM} {d : Nat} {Q : mQ} {n0 bc bs pc : Nat} {lv : List (Nat × Value)} {st : List Value} {N : Nat} {sh : mH} {σ : mS} {j : Nat} {i : Int32} {x : Int32} {pc1 : Nat} (hd : decode I.2.1 pc = .ok (.iastore, 1)) (hp : pc + 1 = pc1) (hj : j < N) (ht : (sh j).1 = 100 + 0) (hin : vp_in i (sh j).2.1) (k0 : mK Γ I d Q n0 bc bs (pc1) lv (st) N sh (mPI σ j i.toNatClampNeg x)) : mK Γ I d Q n0 bc bs (pc) lv (.int x :: .int i :: .ref j :: st) N sh σ := by
  subst hp
  intro p l e R s m args below meth c H locs cells slots ls D cd ad ad0 aC A mc ms hX hY hS hl hag hb hc
  have hY0 := hY
  obtain ⟨hP, ⟨tys, hK, hty⟩, hD, hN, hcl⟩ := hY
  obtain ⟨t0, ht0⟩ := mTys (hty j hj (by omega))
  rw [ht, Nat.add_sub_cancel_left] at ht0
  rw [List.map_cons, List.map_cons, List.map_cons, show mV cd ad (.ref j) = .ref (ad j) from congrArg Value.ref (mAd_lo (by omega))]
  exact va_iast hX.1.1 hX.1.2.1 hK hP hD hS j t0 (mWs_arr hj ht) ht0 hin hd (fun H1 locs1 hP1 hD1 hS1 => k0 p l e R s m args below meth c H1 locs1 cells slots ls D cd ad ad0 aC A mc ms hX (mY_put hY0 (by rw [mCl_arr ht]; simp [mAr, mPI, mU2_eq]; rfl) (fun a q => ⟨mU2_ne q, rfl, rfl⟩) hP1 hD1) hS1 hl hag hb hc.pop.pop.pop)
theorem mK_bast {Γ : Nat × (Nat → Int32)} {I : mM} {d : Nat} {Q : mQ} {n0 bc bs pc : Nat} {lv : List (Nat × Value)} {st : List Value} {N : Nat} {sh : mH} {σ : mS} {j : Nat} {i : Int32} {x : Int32} {pc1 : Nat} (hd : decode I.2.1 pc = .ok (.bastore, 1)) (hp : pc + 1 = pc1) (hj : j < N) (ht : (sh j).1 = 100 + 1) (hin : vp_in i (sh j).2.1) (k0 : mK Γ I d Q n0 bc bs (pc1) lv (st) N sh (mPI σ j i.toNatClampNeg (vp_nar .byte x))) : mK Γ I d Q n0 bc bs (pc) lv (.int x :: .int i :: .ref j :: st) N sh σ := by
  subst hp
  intro p l e R s m args below meth c H locs cells slots ls D cd ad ad0 aC A mc ms hX hY hS hl hag hb hc
  have hY0 := hY
  obtain ⟨hP, ⟨tys, hK, hty⟩, hD, hN, hcl⟩ := hY
  obtain ⟨t0, ht0⟩ := mTys (hty j hj (by omega))
  rw [ht, Nat.add_sub_cancel_left] at ht0
  rw [List.map_cons, List.map_cons, List.map_cons, show mV cd ad (.ref j) = .ref (ad j) from congrArg Value.ref (mAd_lo (by omega))]
  exact va_bast hX.1.1 hX.1.2.1 hK hP hD hS j t0 (mWs_arr hj ht) ht0 hin hd (fun H1 locs1 hP1 hD1 hS1 => k0 p l e R s m args below meth c H1 locs1 cells slots ls D cd ad ad0 aC A mc ms hX (mY_put hY0 (by rw [mCl_arr ht]; simp [mAr, mPI, mU2_eq]; rfl) (fun a q => ⟨mU2_ne q, rfl, rfl⟩) hP1 hD1) hS1 hl hag hb hc.pop.pop.pop)
theorem mK_zast {Γ : Nat × (Nat → Int32)} {I : mM} {d : Nat} {Q : mQ} {n0 bc bs pc : Nat} {lv : List (Nat × Value)} {st : List Value} {N : Nat} {sh : mH} {σ : mS} {j : Nat} {i : Int32} {x : Int32} {pc1 : Nat} (hd : decode I.2.1 pc = .ok (.bastore, 1)) (hp : pc + 1 = pc1) (hj : j < N) (ht : (sh j).1 = 100 + 2) (hin : vp_in i (sh j).2.1) (k0 : mK Γ I d Q n0 bc bs (pc1) lv (st) N sh (mPI σ j i.toNatClampNeg (vp_nar .boolean x))) : mK Γ I d Q n0 bc bs (pc) lv (.int x :: .int i :: .ref j :: st) N sh σ := by
  subst hp
  intro p l e R s m args below meth c H locs cells slots ls D cd ad ad0 aC A mc ms hX hY hS hl hag hb hc
  have hY0 := hY
  obtain ⟨hP, ⟨tys, hK, hty⟩, hD, hN, hcl⟩ := hY
  obtain ⟨t0, ht0⟩ := mTys (hty j hj (by omega))
  rw [ht, Nat.add_sub_cancel_left] at ht0
  rw [List.map_cons, List.map_cons, List.map_cons, show mV cd ad (.ref j) = .ref (ad j) from congrArg Value.ref (mAd_lo (by omega))]
  exact va_zast hX.1.1 hX.1.2.1 hK hP hD hS j t0 (mWs_arr hj ht) ht0 hin hd (fun H1 locs1 hP1 hD1 hS1 => k0 p l e R s m args below meth c H1 locs1 cells slots ls D cd ad ad0 aC A mc ms hX (mY_put hY0 (by rw [mCl_arr ht]; simp [mAr, mPI, mU2_eq]; rfl) (fun a q => ⟨mU2_ne q, rfl, rfl⟩) hP1 hD1) hS1 hl hag hb hc.pop.pop.pop)
theorem mK_last {Γ : Nat × (Nat → Int32)} {I : mM} {d : Nat} {Q : mQ} {n0 bc bs pc : Nat} {lv : List (Nat × Value)} {st : List Value} {N : Nat} {sh : mH} {σ : mS} {j : Nat} {i : Int32} {x : Int64} {pc1 : Nat} (hd : decode I.2.1 pc = .ok (.lastore, 1)) (hp : pc + 1 = pc1) (hj : j < N) (ht : (sh j).1 = 100 + 3) (hin : vp_in i (sh j).2.1) (k0 : mK Γ I d Q n0 bc bs (pc1) lv (st) N sh (mPL σ j i.toNatClampNeg x)) : mK Γ I d Q n0 bc bs (pc) lv (.long x :: .int i :: .ref j :: st) N sh σ := by
  subst hp
  intro p l e R s m args below meth c H locs cells slots ls D cd ad ad0 aC A mc ms hX hY hS hl hag hb hc
  have hY0 := hY
  obtain ⟨hP, ⟨tys, hK, hty⟩, hD, hN, hcl⟩ := hY
  obtain ⟨t0, ht0⟩ := mTys (hty j hj (by omega))
  rw [ht, Nat.add_sub_cancel_left] at ht0
  rw [List.map_cons, List.map_cons, List.map_cons, show mV cd ad (.ref j) = .ref (ad j) from congrArg Value.ref (mAd_lo (by omega))]
  exact va_last hX.1.1 hX.1.2.1 hK hP hD hS j t0 (mWs_arr hj ht) ht0 hin hd (fun H1 locs1 hP1 hD1 hS1 => k0 p l e R s m args below meth c H1 locs1 cells slots ls D cd ad ad0 aC A mc ms hX (mY_put hY0 (by rw [mCl_arr ht]; simp [mAr, mPL, mU2_eq]; rfl) (fun a q => ⟨rfl, mU2_ne q, rfl⟩) hP1 hD1) hS1 hl hag hb hc.pop.pop.pop)
theorem mK_alen {Γ : Nat × (Nat → Int32)} {I : mM} {d : Nat} {Q : mQ} {n0 bc bs pc : Nat} {lv : List (Nat × Value)} {st : List Value} {N : Nat} {sh : mH} {σ : mS} {j : Nat} {pc1 : Nat} (hd : decode I.2.1 pc = .ok (.arraylength, 1)) (hp : pc + 1 = pc1) (hj : j < N) (ht : 100 ≤ (sh j).1) (k0 : mK Γ I d Q n0 bc bs (pc1) lv (.int (Int32.ofNat (sh j).2.1) :: st) N sh σ) : mK Γ I d Q n0 bc bs (pc) lv (.ref j :: st) N sh σ := by
  subst hp
  intro p l e R s m args below meth c H locs cells slots ls D cd ad ad0 aC A mc ms hX hY hS hl hag hb hc
  have hY0 := hY
  obtain ⟨hP, ⟨tys, hK, hty⟩, hD, hN, hcl⟩ := hY
  obtain ⟨t0, ht0⟩ := mTys (hty j hj ht)
  rw [List.map_cons, show mV cd ad (.ref j) = .ref (ad j) from congrArg Value.ref (mAd_lo (by omega))]
  exact va_alen hX.1.1 hX.1.2.1 hK hP j t0 (mWs_arr hj (t := (sh j).1 - 100) (by omega)) ht0 rfl hd (k0 p l e R s m args below meth c H locs cells slots ls D cd ad ad0 aC A mc ms hX hY0 hS hl hag hb (hc.pop.push mOk_i))
theorem mK_aald {Γ : Nat × (Nat → Int32)} {I : mM} {d : Nat} {Q : mQ} {n0 bc bs pc : Nat} {lv : List (Nat × Value)} {st : List Value} {N : Nat} {sh : mH} {σ : mS} {j a : Nat} {i : Int32} {pc1 : Nat} (hd : decode I.2.1 pc = .ok (.aaload, 1)) (hp : pc + 1 = pc1) (hj : j < N) (ht : (sh j).1 = 100 + 4) (hin : vp_in i (sh j).2.1) (hv : σ.2.2 j i.toNatClampNeg = some a) (ha : 1000 ≤ a) (k0 : mK Γ I d Q n0 bc bs (pc1) lv (.ref a :: st) N sh σ) : mK Γ I d Q n0 bc bs (pc) lv (.int i :: .ref j :: st) N sh σ := by
  subst hp
  intro p l e R s m args below meth c H locs cells slots ls D cd ad ad0 aC A mc ms hX hY hS hl hag hb hc
  have hY0 := hY
  obtain ⟨hP, ⟨tys, hK, hty⟩, hD, hN, hcl⟩ := hY
  obtain ⟨t0, ht0⟩ := mTys (hty j hj (by omega))
  rw [ht, Nat.add_sub_cancel_left] at ht0
  rw [List.map_cons, List.map_cons, show mV cd ad (.ref j) = .ref (ad j) from congrArg Value.ref (mAd_lo (by omega))]
  refine va_aldq hX.1.1 hX.1.2.1 hK hP j t0 (mWs_arr hj ht) ht0 hin hd ?_
  have h := k0 p l e R s m args below meth c H locs cells slots ls D cd ad ad0 aC A mc ms hX hY0 hS hl hag hb (hc.pop.pop.push (mOk_hi ha))
  rw [List.map_cons, show mV cd ad (.ref a) = .ref (cd a) from congrArg Value.ref (mAd_hi ha)] at h
  simp only [hv, Option.map_some]
  exact h
theorem mKc_ex {args : Array Value} {s : State} (h : (Cond.code yX2_code cX2_code 1 (some .long)).before args s = true) : ∃ kC : Class, ∀ c, s.vm.findClass "DebateHall$Kind" = some c → s.vm.classes[c]? = some kC := by
  obtain ⟨mk, hn⟩ := Cond.code_named h
  obtain ⟨kP, hkP, -⟩ := className_of_methodNamed hn
  refine ⟨kP, fun c hc => ?_⟩
  have h2 : s.vm.findClass "DebateHall$Kind" = some mk.cls := findClass_of_methodNamed hn
  rw [h2] at hc
  cases hc
  exact hkP
theorem mAny {cd : Nat → Nat} {A : Nat → Prop} {L : Nat} {xs : Nat → Int32} {s : State} {H : Heap} {locs : List Loc} {i : Nat} (h : mC cd A L xs s s.heap) (hi : i < 28) (hS : va_S A s.heap H locs) (hk : ∃ kC : Class, ∀ c, s.vm.findClass "DebateHall$Kind" = some c → s.vm.classes[c]? = some kC) : va_Any "DebateHall$Kind" s H (cd (1000 + i)) := by
  obtain ⟨cell, h1, h2, h3⟩ := va_recvEc h.1.1 (by exact hi) hS
  obtain ⟨kC, hkC⟩ := hk
  refine ⟨cell, h1, h2, ⟨kC, hkC _ h3⟩, fun comp hc => ?_⟩
  rw [h3] at hc
  cases hc
  exact va_asg _ _
theorem mK_aast {Γ : Nat × (Nat → Int32)} {I : mM} {d : Nat} {Q : mQ} {n0 bc bs pc : Nat} {lv : List (Nat × Value)} {st : List Value} {N : Nat} {sh : mH} {σ : mS} {j a : Nat} {i : Int32} {pc1 : Nat} (hd : decode I.2.1 pc = .ok (.aastore, 1)) (hp : pc + 1 = pc1) (hj : j < N) (ht : (sh j).1 = 100 + 4) (hin : vp_in i (sh j).2.1) (ha : 1000 ≤ a) (ha2 : a < 1028) (hw : Cond.code yX2_code cX2_code 1 (some .long) ∈ mBig) (k0 : mK Γ I d Q n0 bc bs (pc1) lv (st) N sh (mPR σ j i.toNatClampNeg (some a))) : mK Γ I d Q n0 bc bs (pc) lv (.ref a :: .int i :: .ref j :: st) N sh σ := by
  subst hp
  intro p l e R s m args below meth c H locs cells slots ls D cd ad ad0 aC A mc ms hX hY hS hl hag hb hc
  have hY0 := hY
  obtain ⟨hP, ⟨tys, hK, hty⟩, hD, hN, hcl⟩ := hY
  obtain ⟨t0, ht0⟩ := mTys (hty j hj (by omega))
  rw [ht, Nat.add_sub_cancel_left] at ht0
  rw [List.map_cons, List.map_cons, List.map_cons, show mV cd ad (.ref j) = .ref (ad j) from congrArg Value.ref (mAd_lo (by omega))]
  rw [show mV cd ad (.ref a) = .ref (cd a) from congrArg Value.ref (mAd_hi ha)]
  obtain ⟨b, rfl⟩ : ∃ b, a = 1000 + b := ⟨a - 1000, by omega⟩
  refine va_astqM hX.1.1 hX.1.2.1 hK hP hD hS j t0 (mWs_arr hj ht) ht0 (mAny hX.2.2.2.2.2.1 (by omega) hS (mKc_ex (hX.2.1.2 _ hw))) hin hd (fun H1 locs1 hP1 hD1 hS1 => k0 p l e R s m args below meth c H1 locs1 cells slots ls D cd ad ad0 aC A mc ms hX (mY_put hY0 ?_ (fun a q => ⟨rfl, rfl, mU2_ne q⟩) hP1 hD1) hS1 hl hag hb hc.pop.pop.pop)
  rw [mCl_arr ht]
  have e : (fun k => Option.map cd (mU2 σ.2.2 j i.toNatClampNeg (some (1000 + b)) j k)) = va_up (fun k => Option.map cd (σ.2.2 j k)) i.toNatClampNeg (some (cd (1000 + b))) := by
    funext k
    rw [mU2_eq, va_up]
    by_cases q : k = i.toNatClampNeg
    · simp [q]
    · simp [q]
  simp only [mAr, mPR]
  rw [← e]
  rfl
def mZr (σ : mS) (N : Nat) : mS := (fun a => if a = N then (fun _ => 0) else σ.1 a, fun a => if a = N then (fun _ => 0) else σ.2.1 a, fun a => if a = N then (fun _ => none) else σ.2.2 a)
def mNw (sh : mH) (N : Nat) (e : mE) : mH := fun a => if a = N then e else sh a
theorem mAd_up {cd ad : Nat → Nat} {N q a : Nat} (hN : N < 1000) (h : a < N ∨ 1000 ≤ a) : mAd cd (va_up ad N q) a = mAd cd ad a := by
  unfold mAd va_up
  by_cases h1 : a < 1000
  · rw [if_pos h1, if_pos h1, if_neg (by omega)]
  · rw [if_neg h1, if_neg h1]
theorem mV_up {cd ad : Nat → Nat} {N q : Nat} {v : Value} (hN : N < 1000) (h : mOkP N v) : mV cd (va_up ad N q) v = mV cd ad v := by
  cases v <;> first | rfl | exact congrArg Value.ref (mAd_up hN (h _ rfl))
theorem mSt_up {cd ad : Nat → Nat} {N q : Nat} {st : List Value} (hN : N < 1000) (h : ∀ v ∈ st, mOkP N v) : st.map (mV cd (va_up ad N q)) = st.map (mV cd ad) := List.map_congr_left (fun v hv => mV_up hN (h v hv))
theorem mLv_up {cd ad : Nat → Nat} {N q : Nat} {lv : List (Nat × Value)} (hN : N < 1000) (h : ∀ q ∈ lv, mOkP N q.2) : lv.map (mVq cd (va_up ad N q)) = lv.map (mVq cd ad) := List.map_congr_left (fun v hv => by rw [mVq, mVq, mV_up hN (h v hv)])
theorem mCl_up {cd ad : Nat → Nat} {aC : Nat → ClassId} {σ : mS} {e : mE} {k N q : Nat} {cA : ClassId} (hN : N < 1000) (hk : k < N) (hc : ∀ b a, e.2.2 b = some a → a < N ∨ 1000 ≤ a) : mCl cd (va_up ad N q) (va_up aC N cA) (mZr σ N) e k = mCl cd ad aC σ e k := by
  have hne : ¬ k = N := by omega
  have e1 : va_up aC N cA k = aC k := by simp [va_up, hne]
  have e2 : mCl cd (va_up ad N q) (va_up aC N cA) (mZr σ N) e k = mCl cd (va_up ad N q) (va_up aC N cA) σ e k := mCl_congr (by simp [mZr, hne]) (by simp [mZr, hne]) (by simp [mZr, hne])
  rw [e2]
  unfold mCl
  rw [e1]
  have e3 : mFs cd (va_up ad N q) σ e k = mFs cd ad σ e k := by
    unfold mFs
    apply List.map_congr_left
    intro b _
    unfold mFl
    have e4 : (e.2.2 b).map (mAd cd (va_up ad N q)) = (e.2.2 b).map (mAd cd ad) := by
      cases hb : e.2.2 b with
      | none => rfl
      | some a => exact congrArg some (mAd_up hN (hc b a hb))
    rw [e4]
  rw [e3]
theorem mY_push {D : va_G} {cd ad : Nat → Nat} {aC : Nat → ClassId} {A : Nat → Prop} {N : Nat} {sh : mH} {σ : mS} {U : State} {H1 : Heap} {q : Nat} {cA : ClassId} {e : va_E} {en : mE} {tys tys' : List (ClassId × FieldType)} (hN : N < 1000) (hcl : mCd N sh) (hen : ∀ b, en.2.2 b = none) (h1 : mCl cd (va_up ad N q) (va_up aC N cA) (mZr σ N) en N = e)
    (hty : ∀ j, j < N → 100 ≤ (sh j).1 → (aC j, mTy ((sh j).1 - 100)) ∈ tys) (hsub : ∀ z ∈ tys, z ∈ tys') (hnew : 100 ≤ en.1 → (cA, mTy (en.1 - 100)) ∈ tys') (hK : va_K D vwCl tys' U) (hP : va_P D vwCl (mWs cd ad aC N sh σ ++ [(q, e)]) H1) (hD : va_D A (mWs cd ad aC N sh σ ++ [(q, e)])) : mY D cd (va_up ad N q) (va_up aC N cA) A (N + 1) (mNw sh N en) (mZr σ N) U H1 := by
  have he := mWs_push (cd := cd) (ad := ad) (aC := aC) (N := N) (sh := sh) (sh' := mNw sh N en) (σ := σ) (σ' := mZr σ N) (ad' := va_up ad N q) (aC' := va_up aC N cA) (q := q) (e := e) (by simp [va_up]) (by rw [show mNw sh N en N = en by simp [mNw]]; exact h1) (fun k hk => by simp [va_up]; omega) (fun k hk => by
    rw [show mNw sh N en k = sh k by simp [mNw]; omega]
    exact mCl_up hN hk (hcl k hk))
  rw [he] at hP hD
  refine ⟨hP, ⟨tys', hK, fun j hj h100 => ?_⟩, hD, by omega, fun j hj b a hb => ?_⟩
  · by_cases q2 : j = N
    · subst q2
      rw [show mNw sh j en j = en by simp [mNw]] at h100 ⊢
      rw [show va_up aC j cA j = cA by simp [va_up]]
      exact hnew h100
    · rw [show mNw sh N en j = sh j by simp [mNw, q2]] at h100 ⊢
      rw [show va_up aC N cA j = aC j by simp [va_up, q2]]
      exact hsub _ (hty j (by omega) h100)
  · by_cases q2 : j = N
    · subst q2
      rw [show mNw sh j en j = en by simp [mNw], hen b] at hb
      cases hb
    · rw [show mNw sh N en j = sh j by simp [mNw, q2]] at hb
      rcases hcl j (by omega) b a hb with h | h
      · exact Or.inl (by omega)
      · exact Or.inr h
def mDf : FieldType → Bool := fun ty => match ty with
  | .float => false
  | .double => false
  | _ => true
theorem mFl_new {cd ad : Nat → Nat} {σ : mS} {N k : Nat} {ty : FieldType} (h : mDf ty = true) : mFl cd ad (mZr σ N) (fun _ => none) N k ty = defaultValue ty := by
  cases ty <;> first | (cases h; done) | simp [mFl, mZr, defaultValue, va_rf]
theorem mDf_ok {ci : Nat} (h : ci < 9) : ∀ k, k < mCN ci → mDf (mTF ci k) = true := m9 (P := fun ci => ∀ k, k < mCN ci → mDf (mTF ci k) = true) h (by decide) (by decide) (by decide) (by decide) (by decide) (by decide) (by decide) (by decide) (by decide)
theorem mK_new {Γ : Nat × (Nat → Int32)} {I : mM} {d : Nat} {Q : mQ} {n0 bc bs pc : Nat} {lv : List (Nat × Value)} {st : List Value} {N : Nat} {sh : mH} {σ : mS} {n ci : Nat} {pc1 : Nat} (hd : decode I.2.1 pc = .ok (.new n, 3)) (hp : pc + 3 = pc1) (hci : ci < 9) (hN1 : N < 1000) (hbc : 1 ≤ bc) (hbs : mCN ci ≤ bs) (hw1 : Cond.classLink I.1.cls n (mCR ci) ∈ mBig) (hw2 : Cond.instantiable (mCR ci) (mCN ci) ∈ mBig) (hw3 : Cond.initialized (mCR ci) ∈ mBig) (k0 : mK Γ I d Q n0 (bc - 1) (bs - mCN ci) (pc1) lv (.ref N :: st) (N + 1) (mNw sh N (ci, 0, fun _ => none)) (mZr σ N)) : mK Γ I d Q n0 bc bs (pc) lv (st) N sh σ := by
  subst hp
  intro p l e R s m args below meth c H locs cells slots ls D cd ad ad0 aC A mc ms hX hY hS hl hag hb hc
  obtain ⟨hP, ⟨tys, hK, hty⟩, hD, hN, hcl⟩ := hY
  refine va_new hX.1.1 hX.1.2.1 (fun w hw => hX.2.1.2 w hw) (mW_in hci) (mTF ci) (mTF_ok hci) hX.2.1.1 (hX.2.1.2 _ hw1) (hX.2.1.2 _ hw2) (hX.2.1.2 _ hw3) hK hP hD hS hX.2.2.2.2.2.2 (mCl_in hci) (fs := (List.range (mCN ci)).map (fun k => defaultValue (mTF ci k))) (fun j hj => by simp [vp_V, hj]) (by omega) (by omega) hd (fun q H1 hP1 hD1 hS1 => ?_)
  have h9 : ci < 100 := by omega
  have hY1 := mY_push (cd := cd) (ad := ad) (aC := aC) (A := A) (σ := σ) (cA := 0) (en := (ci, 0, fun _ => none)) hN1 hcl (fun _ => rfl) (by
    rw [mCl, if_pos (by exact h9)]
    refine congrArg Sum.inr (congrArg (Prod.mk ci) ?_)
    show (List.range (mCN ci)).map _ = _
    apply List.map_congr_left
    intro k hk
    exact mFl_new (mDf_ok hci k (List.mem_range.mp hk))) hty (fun z hz => hz) (fun h => absurd h (by simp; omega)) hK hP1 hD1
  have h := k0 p l e R s m args below meth c H1 locs (cells + 1) (slots + mCN ci) ls D cd (va_up ad N q) ad0 (va_up aC N 0) A mc ms hX hY1 hS1 (by rw [mLv_up hN1 hc.1]; exact hl) ⟨by omega, fun j hj => by rw [← hag.2 j hj]; simp [va_up]; omega⟩ (by omega) (hc.up.push mOk_new)
  rw [List.map_cons, mSt_up hN1 hc.2, show mV cd (va_up ad N q) (.ref N) = .ref q from congrArg Value.ref (by rw [mAd_lo hN1]; simp [va_up])] at h
  exact h
theorem mK_newI {Γ : Nat × (Nat → Int32)} {I : mM} {d : Nat} {Q : mQ} {n0 bc bs pc : Nat} {lv : List (Nat × Value)} {st : List Value} {N : Nat} {sh : mH} {σ : mS} {x : Int32} {n : Nat} {pc1 : Nat} (hd : decode I.2.1 pc = .ok (.newarray .int, 2)) (hp : pc + 2 = pc1) (hx0 : ¬ x < 0) (hx : x.toNatClampNeg = n) (hn : n ≤ 1000000) (hN1 : N < 1000) (hbc : 1 ≤ bc) (hbs : n ≤ bs) (hw1 : Cond.arrayClass .int ∈ mBig) (k0 : mK Γ I d Q n0 (bc - 1) (bs - n) (pc1) lv (.ref N :: st) (N + 1) (mNw sh N (100 + 0, n, fun _ => none)) (mZr σ N)) : mK Γ I d Q n0 bc bs (pc) lv (.int x :: st) N sh σ := by
  subst hp
  intro p l e R s m args below meth c H locs cells slots ls D cd ad ad0 aC A mc ms hX hY hS hl hag hb hc
  obtain ⟨hP, ⟨tys, hK, hty⟩, hD, hN, hcl⟩ := hY
  refine va_newa (atype := .int) (ty := .int) hX.1.1 hX.1.2.1 (hX.2.1.2 _ hw1) rfl hK hP hD hS hX.2.2.2.2.2.2 (N' := n) (a0 := (n, .inl (fun _ => 0))) (fun cA => rfl) hx0 hx (by simp [componentBytes]; omega) (by omega) (by omega) hd (fun q cA H1 hK1 hP1 hD1 hS1 => ?_)
  have hY1 := mY_push (cd := cd) (ad := ad) (aC := aC) (A := A) (σ := σ) (cA := cA) (en := (100 + 0, n, fun _ => none)) hN1 hcl (fun _ => rfl) (by
    rw [mCl_arr (t := 0) rfl]
    simp [mAr, mZr, va_up]) hty (fun z hz => List.mem_append_left _ hz) (fun h => List.mem_append_right _ (List.mem_singleton.mpr rfl)) hK1 hP1 hD1
  have h := k0 p l e R s m args below meth c H1 locs (cells + 1) (slots + n) ls D cd (va_up ad N q) ad0 (va_up aC N cA) A mc ms hX hY1 hS1 (by rw [mLv_up hN1 hc.1]; exact hl) ⟨by omega, fun j hj => by rw [← hag.2 j hj]; simp [va_up]; omega⟩ (by omega) (hc.pop.up.push mOk_new)
  rw [List.map_cons, mSt_up hN1 hc.pop.2, show mV cd (va_up ad N q) (.ref N) = .ref q from congrArg Value.ref (by rw [mAd_lo hN1]; simp [va_up])] at h
  exact h
theorem mK_newB {Γ : Nat × (Nat → Int32)} {I : mM} {d : Nat} {Q : mQ} {n0 bc bs pc : Nat} {lv : List (Nat × Value)} {st : List Value} {N : Nat} {sh : mH} {σ : mS} {x : Int32} {n : Nat} {pc1 : Nat} (hd : decode I.2.1 pc = .ok (.newarray .byte, 2)) (hp : pc + 2 = pc1) (hx0 : ¬ x < 0) (hx : x.toNatClampNeg = n) (hn : n ≤ 1000000) (hN1 : N < 1000) (hbc : 1 ≤ bc) (hbs : n ≤ bs) (hw1 : Cond.arrayClass .byte ∈ mBig) (k0 : mK Γ I d Q n0 (bc - 1) (bs - n) (pc1) lv (.ref N :: st) (N + 1) (mNw sh N (100 + 1, n, fun _ => none)) (mZr σ N)) : mK Γ I d Q n0 bc bs (pc) lv (.int x :: st) N sh σ := by
  subst hp
  intro p l e R s m args below meth c H locs cells slots ls D cd ad ad0 aC A mc ms hX hY hS hl hag hb hc
  obtain ⟨hP, ⟨tys, hK, hty⟩, hD, hN, hcl⟩ := hY
  refine va_newa (atype := .byte) (ty := .byte) hX.1.1 hX.1.2.1 (hX.2.1.2 _ hw1) rfl hK hP hD hS hX.2.2.2.2.2.2 (N' := n) (a0 := (n, .inl (fun _ => 0))) (fun cA => rfl) hx0 hx (by simp [componentBytes]; omega) (by omega) (by omega) hd (fun q cA H1 hK1 hP1 hD1 hS1 => ?_)
  have hY1 := mY_push (cd := cd) (ad := ad) (aC := aC) (A := A) (σ := σ) (cA := cA) (en := (100 + 1, n, fun _ => none)) hN1 hcl (fun _ => rfl) (by
    rw [mCl_arr (t := 1) rfl]
    simp [mAr, mZr, va_up]) hty (fun z hz => List.mem_append_left _ hz) (fun h => List.mem_append_right _ (List.mem_singleton.mpr rfl)) hK1 hP1 hD1
  have h := k0 p l e R s m args below meth c H1 locs (cells + 1) (slots + n) ls D cd (va_up ad N q) ad0 (va_up aC N cA) A mc ms hX hY1 hS1 (by rw [mLv_up hN1 hc.1]; exact hl) ⟨by omega, fun j hj => by rw [← hag.2 j hj]; simp [va_up]; omega⟩ (by omega) (hc.pop.up.push mOk_new)
  rw [List.map_cons, mSt_up hN1 hc.pop.2, show mV cd (va_up ad N q) (.ref N) = .ref q from congrArg Value.ref (by rw [mAd_lo hN1]; simp [va_up])] at h
  exact h
theorem mK_newZ {Γ : Nat × (Nat → Int32)} {I : mM} {d : Nat} {Q : mQ} {n0 bc bs pc : Nat} {lv : List (Nat × Value)} {st : List Value} {N : Nat} {sh : mH} {σ : mS} {x : Int32} {n : Nat} {pc1 : Nat} (hd : decode I.2.1 pc = .ok (.newarray .boolean, 2)) (hp : pc + 2 = pc1) (hx0 : ¬ x < 0) (hx : x.toNatClampNeg = n) (hn : n ≤ 1000000) (hN1 : N < 1000) (hbc : 1 ≤ bc) (hbs : n ≤ bs) (hw1 : Cond.arrayClass .boolean ∈ mBig) (k0 : mK Γ I d Q n0 (bc - 1) (bs - n) (pc1) lv (.ref N :: st) (N + 1) (mNw sh N (100 + 2, n, fun _ => none)) (mZr σ N)) : mK Γ I d Q n0 bc bs (pc) lv (.int x :: st) N sh σ := by
  subst hp
  intro p l e R s m args below meth c H locs cells slots ls D cd ad ad0 aC A mc ms hX hY hS hl hag hb hc
  obtain ⟨hP, ⟨tys, hK, hty⟩, hD, hN, hcl⟩ := hY
  refine va_newa (atype := .boolean) (ty := .boolean) hX.1.1 hX.1.2.1 (hX.2.1.2 _ hw1) rfl hK hP hD hS hX.2.2.2.2.2.2 (N' := n) (a0 := (n, .inl (fun _ => 0))) (fun cA => rfl) hx0 hx (by simp [componentBytes]; omega) (by omega) (by omega) hd (fun q cA H1 hK1 hP1 hD1 hS1 => ?_)
  have hY1 := mY_push (cd := cd) (ad := ad) (aC := aC) (A := A) (σ := σ) (cA := cA) (en := (100 + 2, n, fun _ => none)) hN1 hcl (fun _ => rfl) (by
    rw [mCl_arr (t := 2) rfl]
    simp [mAr, mZr, va_up]) hty (fun z hz => List.mem_append_left _ hz) (fun h => List.mem_append_right _ (List.mem_singleton.mpr rfl)) hK1 hP1 hD1
  have h := k0 p l e R s m args below meth c H1 locs (cells + 1) (slots + n) ls D cd (va_up ad N q) ad0 (va_up aC N cA) A mc ms hX hY1 hS1 (by rw [mLv_up hN1 hc.1]; exact hl) ⟨by omega, fun j hj => by rw [← hag.2 j hj]; simp [va_up]; omega⟩ (by omega) (hc.pop.up.push mOk_new)
  rw [List.map_cons, mSt_up hN1 hc.pop.2, show mV cd (va_up ad N q) (.ref N) = .ref q from congrArg Value.ref (by rw [mAd_lo hN1]; simp [va_up])] at h
  exact h
theorem mK_newL {Γ : Nat × (Nat → Int32)} {I : mM} {d : Nat} {Q : mQ} {n0 bc bs pc : Nat} {lv : List (Nat × Value)} {st : List Value} {N : Nat} {sh : mH} {σ : mS} {x : Int32} {n : Nat} {pc1 : Nat} (hd : decode I.2.1 pc = .ok (.newarray .long, 2)) (hp : pc + 2 = pc1) (hx0 : ¬ x < 0) (hx : x.toNatClampNeg = n) (hn : n ≤ 1000000) (hN1 : N < 1000) (hbc : 1 ≤ bc) (hbs : n ≤ bs) (hw1 : Cond.arrayClass .long ∈ mBig) (k0 : mK Γ I d Q n0 (bc - 1) (bs - n) (pc1) lv (.ref N :: st) (N + 1) (mNw sh N (100 + 3, n, fun _ => none)) (mZr σ N)) : mK Γ I d Q n0 bc bs (pc) lv (.int x :: st) N sh σ := by
  subst hp
  intro p l e R s m args below meth c H locs cells slots ls D cd ad ad0 aC A mc ms hX hY hS hl hag hb hc
  obtain ⟨hP, ⟨tys, hK, hty⟩, hD, hN, hcl⟩ := hY
  refine va_newa (atype := .long) (ty := .long) hX.1.1 hX.1.2.1 (hX.2.1.2 _ hw1) rfl hK hP hD hS hX.2.2.2.2.2.2 (N' := n) (a0 := (n, .inr (.inl (fun _ => 0)))) (fun cA => rfl) hx0 hx (by simp [componentBytes]; omega) (by omega) (by omega) hd (fun q cA H1 hK1 hP1 hD1 hS1 => ?_)
  have hY1 := mY_push (cd := cd) (ad := ad) (aC := aC) (A := A) (σ := σ) (cA := cA) (en := (100 + 3, n, fun _ => none)) hN1 hcl (fun _ => rfl) (by
    rw [mCl_arr (t := 3) rfl]
    simp [mAr, mZr, va_up]) hty (fun z hz => List.mem_append_left _ hz) (fun h => List.mem_append_right _ (List.mem_singleton.mpr rfl)) hK1 hP1 hD1
  have h := k0 p l e R s m args below meth c H1 locs (cells + 1) (slots + n) ls D cd (va_up ad N q) ad0 (va_up aC N cA) A mc ms hX hY1 hS1 (by rw [mLv_up hN1 hc.1]; exact hl) ⟨by omega, fun j hj => by rw [← hag.2 j hj]; simp [va_up]; omega⟩ (by omega) (hc.pop.up.push mOk_new)
  rw [List.map_cons, mSt_up hN1 hc.pop.2, show mV cd (va_up ad N q) (.ref N) = .ref q from congrArg Value.ref (by rw [mAd_lo hN1]; simp [va_up])] at h
  exact h
theorem mK_newQ {Γ : Nat × (Nat → Int32)} {I : mM} {d : Nat} {Q : mQ} {n0 bc bs pc : Nat} {lv : List (Nat × Value)} {st : List Value} {N : Nat} {sh : mH} {σ : mS} {x : Int32} {n ix : Nat} {pc1 : Nat} (hd : decode I.2.1 pc = .ok (.anewarray ix, 3)) (hp : pc + 3 = pc1) (hx0 : ¬ x < 0) (hx : x.toNatClampNeg = n) (hn : n ≤ 1000000) (hN1 : N < 1000) (hbc : 1 ≤ bc) (hbs : n ≤ bs) (hw1 : Cond.classLink I.1.cls ix "DebateHall$Kind" ∈ mBig) (hw2 : Cond.arrayOver (.object "DebateHall$Kind") ∈ mNd) (k0 : mK Γ I d Q n0 (bc - 1) (bs - n) (pc1) lv (.ref N :: st) (N + 1) (mNw sh N (104, n, fun _ => none)) (mZr σ N)) : mK Γ I d Q n0 bc bs (pc) lv (.int x :: st) N sh σ := by
  subst hp
  intro p l e R s m args below meth c H locs cells slots ls D cd ad ad0 aC A mc ms hX hY hS hl hag hb hc
  obtain ⟨hP, ⟨tys, hK, hty⟩, hD, hN, hcl⟩ := hY
  refine va_newq hX.1.1 hX.1.2.1 hX.2.1.1 (hX.2.1.2 _ hw1) (hX.2.2.2.2.2.1.2.2.2.2.2.2.2.2.2.2.2.1 _ hw2) hK hP hD hS hX.2.2.2.2.2.2 (N' := n) hx0 hx (by omega) (by omega) (by omega) hd (fun q cA H1 hK1 hP1 hD1 hS1 => ?_)
  have hY1 := mY_push (cd := cd) (ad := ad) (aC := aC) (A := A) (σ := σ) (cA := cA) (en := (104, n, fun _ => none)) hN1 hcl (fun _ => rfl) (by
    rw [mCl_arr (t := 4) rfl]
    simp [mAr, mZr, va_up]) hty (fun z hz => List.mem_append_left _ hz) (fun h => List.mem_append_right _ (List.mem_singleton.mpr rfl)) hK1 hP1 hD1
  have h := k0 p l e R s m args below meth c H1 locs (cells + 1) (slots + n) ls D cd (va_up ad N q) ad0 (va_up aC N cA) A mc ms hX hY1 hS1 (by rw [mLv_up hN1 hc.1]; exact hl) ⟨by omega, fun j hj => by rw [← hag.2 j hj]; simp [va_up]; omega⟩ (by omega) (hc.pop.up.push mOk_new)
  rw [List.map_cons, mSt_up hN1 hc.pop.2, show mV cd (va_up ad N q) (.ref N) = .ref q from congrArg Value.ref (by rw [mAd_lo hN1]; simp [va_up])] at h
  exact h
