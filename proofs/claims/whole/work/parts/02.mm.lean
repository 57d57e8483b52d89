/-! THE MIDDLE MACHINE: objects by numbers, numbers in functions; one judgement mK over it, above the kit's W -/
abbrev mS : Type := (Nat → Nat → Int32) × (Nat → Nat → Int64) × (Nat → Nat → Option Nat)
abbrev mE : Type := Nat × Nat × (Nat → Option Nat)
abbrev mH : Type := Nat → mE
abbrev mO : Type := Option Value ⊕ String
abbrev mQ : Type := mO → Nat → mH → mS → Prop
/-- element types of arrays -/
def mTy : Nat → FieldType := fun t => match t with
  | 0 => .int
  | 1 => .byte
  | 2 => .boolean
  | 3 => .long
  | _ => .object "DebateHall$Kind"
/-- field types, by the place of the class in vwCl -/
def mTF : Nat → Nat → FieldType := fun ci => match ci with
  | 0 => tyX0
  | 1 => tyX1
  | 2 => tyX3
  | 3 => tyX4
  | 4 => tyX5
  | 5 => tyX6
  | 6 => tyX7
  | 7 => tyX8
  | _ => tyX9
def mCN : Nat → Nat := fun ci => match ci with
  | 0 => 16
  | 1 => 3
  | 2 => 2
  | 3 => 6
  | 4 => 6
  | 5 => 4
  | 6 => 9
  | 7 => 12
  | _ => 24
def mAd (cd ad : Nat → Nat) (a : Nat) : Nat := if a < 1000 then ad a else cd a
def mV (cd ad : Nat → Nat) : Value → Value
  | .ref a => .ref (mAd cd ad a)
  | v => v
def mVq (cd ad : Nat → Nat) (q : Nat × Value) : Nat × Value := (q.1, mV cd ad q.2)
def mFl (cd ad : Nat → Nat) (σ : mS) (rf : Nat → Option Nat) (j k : Nat) (ty : FieldType) : Value := match ty with
  | .long => .long (σ.2.1 j k)
  | .object _ => va_rf ((rf k).map (mAd cd ad))
  | .array _ => va_rf ((rf k).map (mAd cd ad))
  | _ => .int (σ.1 j k)
def mAr (cd : Nat → Nat) (σ : mS) (j t : Nat) : (Nat → Int32) ⊕ (Nat → Int64) ⊕ (Nat → UInt32) ⊕ (Nat → UInt64) ⊕ (Nat → Option Nat) :=
  if t = 3 then .inr (.inl (σ.2.1 j)) else if t = 4 then .inr (.inr (.inr (.inr (fun k => (σ.2.2 j k).map cd)))) else .inl (σ.1 j)
def mFs (cd ad : Nat → Nat) (σ : mS) (e : mE) (j : Nat) : List Value := (List.range (mCN e.1)).map (fun k => mFl cd ad σ e.2.2 j k (mTF e.1 k))
def mCl (cd ad : Nat → Nat) (aC : Nat → ClassId) (σ : mS) (e : mE) (j : Nat) : va_E :=
  if e.1 < 100 then .inr (e.1, mFs cd ad σ e j) else .inl (aC j, e.2.1, mAr cd σ j (e.1 - 100))
def mWs (cd ad : Nat → Nat) (aC : Nat → ClassId) (N : Nat) (sh : mH) (σ : mS) : va_W := (List.range N).map (fun j => (ad j, mCl cd ad aC σ (sh j) j))
theorem mWs_get {cd ad : Nat → Nat} {aC : Nat → ClassId} {N : Nat} {sh : mH} {σ : mS} {j : Nat} (h : j < N) : (mWs cd ad aC N sh σ)[j]? = some (ad j, mCl cd ad aC σ (sh j) j) := by
  simp [mWs, h]
theorem mWs_inv {cd ad : Nat → Nat} {aC : Nat → ClassId} {N : Nat} {sh : mH} {σ : mS} {k : Nat} {q : Nat × va_E} (h : (mWs cd ad aC N sh σ)[k]? = some q) : k < N ∧ q = (ad k, mCl cd ad aC σ (sh k) k) := by
  by_cases hk : k < N
  · rw [mWs_get hk] at h
    exact ⟨hk, (Option.some.inj h).symm⟩
  · have : (mWs cd ad aC N sh σ)[k]? = none := by simp [mWs]; omega
    rw [this] at h; cases h
theorem mWs_set {cd ad : Nat → Nat} {aC : Nat → ClassId} {N : Nat} {sh sh' : mH} {σ σ' : mS} {j : Nat} {e : va_E} (h1 : mCl cd ad aC σ' (sh' j) j = e) (h2 : ∀ k, k ≠ j → mCl cd ad aC σ' (sh' k) k = mCl cd ad aC σ (sh k) k) :
    (mWs cd ad aC N sh σ).set j (ad j, e) = mWs cd ad aC N sh' σ' := by
  apply List.ext_getElem?
  intro k
  rw [List.getElem?_set]
  by_cases hk : k < N
  · by_cases hj : j = k
    · subst hj
      rw [if_pos rfl, if_pos (by simpa [mWs] using hk), mWs_get hk, h1]
    · rw [if_neg hj, mWs_get hk, mWs_get hk, h2 k (fun q => hj q.symm)]
  · have a1 : (mWs cd ad aC N sh' σ')[k]? = none := by simp [mWs]; omega
    have a2 : (mWs cd ad aC N sh σ)[k]? = none := by simp [mWs]; omega
    rw [a1, a2]
    by_cases hj : j = k
    · subst hj
      rw [if_pos rfl, if_neg (by simpa [mWs] using hk)]
    · rw [if_neg hj]
theorem mWs_push {cd ad : Nat → Nat} {aC : Nat → ClassId} {N : Nat} {sh sh' : mH} {σ σ' : mS} {ad' : Nat → Nat} {aC' : Nat → ClassId} {q : Nat} {e : va_E} (hq : ad' N = q) (h1 : mCl cd ad' aC' σ' (sh' N) N = e) (h0 : ∀ k, k < N → ad' k = ad k) (h2 : ∀ k, k < N → mCl cd ad' aC' σ' (sh' k) k = mCl cd ad aC σ (sh k) k) :
    mWs cd ad aC N sh σ ++ [(q, e)] = mWs cd ad' aC' (N + 1) sh' σ' := by
  unfold mWs
  rw [List.range_succ, List.map_append, List.map_singleton, hq, h1]
  congr 1
  apply List.map_congr_left
  intro k hk
  have hk := List.mem_range.mp hk
  rw [h0 k hk, h2 k hk]

def mKn : List String := ["SPEAKER", "TIME", "CLAIM", "BY", "WEIGHT", "ATTACK", "SUPPORT", "FROM", "ON", "FOR", "FORCE", "IF", "CONCEDE", "RECALL", "IN", "OUT", "OPEN", "CONCEDED", "NOT", "AND", "OR", "OPENING", "CLOSING", "SEMICOLON", "NAME", "NUMBER", "END", "WRONG"]
def mKcL : List Int64 := [32493203050161522, 1953066341, 427020085613, 25209, 131277443786868, 107152796640107, 32498748104864372, 1718775661, 28526, 6713202, 439956431717, 26982, 27988542599029861, 125779784592492, 26990, 7304564, 1869636974, 7165066905351644516, 7237492, 6385252, 28530, 91, 93, 59, 0, 0, 0, 0]
def mKc (i : Nat) : Int64 := mKcL.getD i 0
def mKyL : List Int64 := [32493203050161522, 1953066341, 427020085613, 25209, 131277443786868, 107152796640107, 32498748104864372, 1718775661, 28526, 6713202, 439956431717, 26982, 27988542599029861, 125779784592492, 26990, 7304564, 1869636974, 7165066905351644516, 7237492, 6385252, 28530]
def mKy (i : Nat) : Int64 := mKyL.getD i 0
def mScL : List Nat := [187, 196, 200, 202, 203, 205, 214, 207, 209, 216, 222, 224, 218, 220, 245, 247, 249, 251, 239, 237, 232]
def mStL : List String := ["speaker", "time", "claim", "by", "weight", "attack", "support", "from", "on", "for", "force", "if", "concede", "recall", "in", "out", "open", "conceded", "not", "and", "or"]
def mSl : List Nat := [7, 4, 5, 2, 6, 6, 7, 4, 2, 3, 5, 2, 7, 6, 2, 3, 4, 8, 3, 3, 2]
def mSb : List (List Int32) := [[115, 112, 101, 97, 107, 101, 114], [116, 105, 109, 101], [99, 108, 97, 105, 109], [98, 121], [119, 101, 105, 103, 104, 116], [97, 116, 116, 97, 99, 107], [115, 117, 112, 112, 111, 114, 116], [102, 114, 111, 109], [111, 110], [102, 111, 114], [102, 111, 114, 99, 101], [105, 102], [99, 111, 110, 99, 101, 100, 101], [114, 101, 99, 97, 108, 108], [105, 110], [111, 117, 116], [111, 112, 101, 110], [99, 111, 110, 99, 101, 100, 101, 100], [110, 111, 116], [97, 110, 100], [111, 114]]
def mTx : List (Nat × String) := [(75, "the tape is too short for this"), (85, "the tape has not so many bytes"), (147, "no such count"), (166, "no such fact of a speaker"), (205, "no such fact of an item"), (207, "so much time can't be given"), (220, "no attack has this force"), (261, "no such place on the paper"), (289, "no such speaker"), (294, "no such item")]
def mNwK (w : Cond) : Bool := match w with
  | .castable .. => true
  | .declares _ => true
  | .fieldLinkNest .. => true
  | .methodLinkNest .. => true
  | .arrayOver (.object _) => true
  | _ => false
def mNd : List Cond := lw_tbl.filter mNwK
theorem mNw_warm {w : Cond} {s U : State} (hW : s.WarmedH U.vm) (hw : mNwK w = true) (h : va_Nw w s) : va_Nw w U := by
  cases w <;> first | (cases hw; done) | (rename_i t; cases t <;> first | (cases hw; done) | exact va_AO.moved hW.alike h) | exact h.warmC hW | exact h.warmD hW | exact h.warmF hW | exact h.warmM hW
theorem mNw_in {w : Cond} (h : w ∈ lw_tbl) (hg : mNwK w = true) : w ∈ mNd := List.mem_filter.mpr ⟨h, hg⟩
def mC (cd : Nat → Nat) (A : Nat → Prop) (L : Nat) (xs : Nat → Int32) (U : State) (H : Heap) : Prop :=
  (va_Ec "DebateHall$Kind" "DebateHall$Kind" "LDebateHall$Kind;" mKn [] (fun i => cd (1000 + i)) A U H ∧
  va_Ef 28 "DebateHall$Kind" "code" "J" (fun i => .long (mKc i)) (fun i => cd (1000 + i)) A U H) ∧
  (va_Z "DebateHall$Kind" "ALL" "[LDebateHall$Kind;" (.ref (cd 1100)) A U H ∧ va_T (.object "DebateHall$Kind") (cd 1100) 28 (fun i => .ref (cd (1000 + i))) A U H) ∧
  (va_Z "DebateHallModel" "KEYS" "[J" (.ref (cd 1101)) A U H ∧ va_T .long (cd 1101) 21 (fun i => .long (mKy i)) A U H) ∧
  vk_S 21 mSl mSb (fun i => cd (1200 + i)) (fun i => cd (1400 + i)) A U H ∧
  (∀ i, i < 21 → vk_R RX9 (mScL.getD i 0) (mStL.getD i "") (cd (1200 + i)) U) ∧
  (va_Z "java/lang/String" "COMPACT_STRINGS" "Z" (.int 1) A U H ∧ va_Z "jdk/internal/util/Preconditions" "SIOOBE_FORMATTER" "Ljava/util/function/BiFunction;" (va_rf (if cd 1501 = 0 then none else some (cd 1500))) A U H) ∧
  (∀ q ∈ mTx, ∃ a : Nat, vk_R RX7 q.1 q.2 a U) ∧
  vx_Zq Bundle.tN "UNASSIGNED_STACK" Bundle.steD A U H ∧ vx_Zq Bundle.tN "SUPPRESSED_SENTINEL" Bundle.listD A U H ∧
  va_X (cd 1300) L xs U H ∧ ¬ A (cd 1300) ∧ (∀ w ∈ mNd, va_Nw w U) ∧ va_Nc "java/lang/IllegalArgumentException" "java/lang/IndexOutOfBoundsException" U
theorem mC.go {cd : Nat → Nat} {A A' : Nat → Prop} {L : Nat} {xs : Nat → Int32} {s U : State} {H : Heap} {locs : List Loc} (h : mC cd A L xs s s.heap) (hS : va_S A s.heap H locs) (hW : s.WarmedH U.vm) (hU : U.heap = H) (hA : ∀ q, A' q → A q) : mC cd A' L xs U U.heap := by
  obtain ⟨⟨a1, a2⟩, ⟨b1, b2⟩, ⟨c1, c2⟩, d1, d2, ⟨d3, d5⟩, d4, e1, e2, f1, f2, f3, f5⟩ := h
  have hv := hW.alike
  have hk : ∀ a : Nat, a < s.heap.size → ¬ A a → U.heap[a]? = s.heap[a]? := by rw [hU]; exact hS.2.1
  refine ⟨⟨((a1.moved hv).kept hk).narrow hA, fun i hi => (((a2 i hi).moved hv).kept hk).narrow hA⟩, ⟨((b1.moved hv).kept hk).narrow hA, ((b2.moved hv).kept hk).narrow hA⟩, ⟨((c1.moved hv).kept hk).narrow hA, ((c2.moved hv).kept hk).narrow hA⟩, ((d1.moved hv).kept hk).narrow hA, fun i hi => (d2 i hi).warm hW, ⟨((d3.moved hv).kept hk).narrow hA, ((d5.moved hv).kept hk).narrow hA⟩, fun q hq => ?_, ((e1.moved hv).kept hk).narrow hA, ((e2.moved hv).kept hk).narrow hA, ?_, fun q => f2 (hA _ q), fun w hw => mNw_warm hW (List.mem_filter.mp hw).2 (f3 w hw), f5.moved hv⟩
  · obtain ⟨a, ha⟩ := d4 q hq
    exact ⟨a, ha.warm hW⟩
  · have f4 := f1.moved hv
    refine f4.kept (hk _ ?_ f2)
    obtain ⟨scr, h1, -⟩ := f1
    exact (Array.getElem?_eq_some_iff.mp h1).1
theorem vx_widenW {p : Program} {l : Launch} {e : Env} {R : Room} {s : State} {m : MethodId} {args : Array Value} {below : List Frame} {meth : Method} {c : Code} {H : Heap} {locs : List Loc} {cells slots k n : Nat} {Q : State → Prop} {g : JFrame} (h1 : cells ≤ k) (h2 : slots ≤ n) (kk : W p l e R s m args below meth c H locs k n Q g) : W p l e R s m args below meth c H locs cells slots Q g := W.widen h1 h2 kk

abbrev mM : Type := MethodName × ByteArray × Nat × Option FieldType × List (Nat × Nat × Nat × Nat)
def mWd (I : mM) : Cond := if I.2.2.2.2 = [] then .code I.1 I.2.1 I.2.2.1 I.2.2.2.1 else .codeWith I.1 I.2.1 I.2.2.1 I.2.2.2.1 I.2.2.2.2
def mBig : List Cond := lw_tbl.filter goodWord
theorem mBig_good : ∀ ws : List Cond, (∀ w ∈ ws, w ∈ mBig) → GoodIn mBig ws := fun ws h w hw => ⟨h w hw, good_of_word (List.mem_filter.mp (h w hw)).2⟩
theorem mBig_in {w : Cond} (h : w ∈ lw_tbl) (hg : goodWord w = true) : w ∈ mBig := List.mem_filter.mpr ⟨h, hg⟩
def mR (d c s : Nat) : Room := { frames := d + 6, cells := c, slots := s, locals := 60 * d + 200 }
def mCd (N : Nat) (sh : mH) : Prop := ∀ j, j < N → ∀ k a, (sh j).2.2 k = some a → a < N ∨ 1000 ≤ a
/-- the world at a state: the cells, the classes -/
def mY (D : va_G) (cd ad : Nat → Nat) (aC : Nat → ClassId) (A : Nat → Prop) (N : Nat) (sh : mH) (σ : mS) (U : State) (H : Heap) : Prop :=
  va_P D vwCl (mWs cd ad aC N sh σ) H ∧ (∃ tys, va_K D vwCl tys U ∧ ∀ j, j < N → 100 ≤ (sh j).1 → (aC j, mTy ((sh j).1 - 100)) ∈ tys) ∧ va_D A (mWs cd ad aC N sh σ) ∧ N ≤ 1000 ∧ mCd N sh
def mOkP (N : Nat) (v : Value) : Prop := ∀ a, v = .ref a → a < N ∨ 1000 ≤ a
/-- values that a method hands back are of its world -/
def mOkO (N : Nat) (v : Option Value) : Prop := ∀ w, v = some w → mOkP N w
def mQc (Q : mQ) (D : va_G) (cd ad0 : Nat → Nat) (N0 : Nat) (A : Nat → Prop) : Array Value → State → Outcome → State → Prop := fun _ st oc t =>
  ∃ (v : Option Value) (N : Nat) (sh : mH) (σ : mS) (ad : Nat → Nat) (aC : Nat → ClassId), oc = .returned (v.map (mV cd ad)) ∧ (Q (.inl v) N sh σ ∧ mOkO N v) ∧ (N0 ≤ N ∧ ∀ j, j < N0 → ad j = ad0 j) ∧ mY D cd ad aC A N sh σ t t.heap ∧ va_F A st t
def mXc (Q : mQ) (D : va_G) (cd ad0 : Nat → Nat) (N0 : Nat) (A : Nat → Prop) : String → State → State → Prop := fun E st t =>
  ∃ (N : Nat) (sh : mH) (σ : mS) (ad : Nat → Nat) (aC : Nat → ClassId), Q (.inr E) N sh σ ∧ (N0 ≤ N ∧ ∀ j, j < N0 → ad j = ad0 j) ∧ mY D cd ad aC A N sh σ t t.heap ∧ va_F A st t
/-- what a method needs at its entry -/
def mU (D : va_G) (cd ad : Nat → Nat) (aC : Nat → ClassId) (L : Nat) (xs : Nat → Int32) (N : Nat) (sh : mH) (σ : mS) (sz : Nat) (U : State) : Prop :=
  U.heap.size = sz ∧ mY D cd ad aC (fun _ => True) N sh σ U U.heap ∧ mC cd (va_A (mWs cd ad aC N sh σ) sz) L xs U U.heap
/-- A CALL: method I with these arguments, in this store, ends so that Q -/
def mCall (Γ : Nat × (Nat → Int32)) (I : mM) (d c s : Nat) (av : List Value) (N : Nat) (sh : mH) (σ : mS) (Q : mQ) : Prop :=
  ∀ (l : Launch) (D : va_G) (cd ad : Nat → Nat) (aC : Nat → ClassId) (sz : Nat), l.stackTraces = false →
    vx_Met l I.1 (mWd I :: mBig) (mR d c s) (va_Pc (av.map (mV cd ad)) (mU D cd ad aC Γ.1 Γ.2 N sh σ sz))
      (mQc Q D cd ad N (va_A (mWs cd ad aC N sh σ) sz)) (mXc Q D cd ad N (va_A (mWs cd ad aC N sh σ) sz)) c s (va_A (mWs cd ad aC N sh σ) sz)
/-- the context of a frame -/
def mX (I : mM) (d : Nat) (p : Program) (l : Launch) (R : Room) (s : State) (m : MethodId) (args : Array Value) (meth : Method) (c : Code) (cd : Nat → Nat) (A : Nat → Prop) (L : Nat) (xs : Nat → Int32) : Prop :=
  (p.tables.exec = Jvm.exec ∧ c.code = I.2.1 ∧ c.maxLocals = I.2.2.1 ∧ meth.sig.returnType = I.2.2.2.1) ∧ (s.vm.findClass I.1.cls = some m.cls ∧ (∀ w ∈ mBig, w.before args s = true)) ∧ (meth.locks = false ∧ meth.name = I.1.name ∧ l.stackTraces = false) ∧ c.exceptionTable.toList = tableOf I.2.2.2.2 ∧ (d + 6 ≤ R.frames ∧ 60 * d + 200 ≤ R.locals) ∧ mC cd A L xs s s.heap ∧ (∀ q, s.heap.size ≤ q → A q)
def mKo (N : Nat) (lv : List (Nat × Value)) (st : List Value) : Prop := (∀ q ∈ lv, mOkP N q.2) ∧ ∀ v ∈ st, mOkP N v
theorem mOk_i {N : Nat} {x : Int32} : mOkP N (.int x) := fun a h => by cases h
theorem mOk_l {N : Nat} {x : Int64} : mOkP N (.long x) := fun a h => by cases h
theorem mOk_d {N : Nat} {x : UInt64} : mOkP N (.double x) := fun a h => by cases h
theorem mOk_hi {N a : Nat} (h : 1000 ≤ a) : mOkP N (.ref a) := fun b q => by cases q; exact Or.inr h
theorem mKo.pop {N : Nat} {lv : List (Nat × Value)} {st : List Value} {v : Value} (h : mKo N lv (v :: st)) : mKo N lv st := ⟨h.1, fun w hw => h.2 w (List.mem_cons_of_mem _ hw)⟩
theorem mKo.top {N : Nat} {lv : List (Nat × Value)} {st : List Value} {v : Value} (h : mKo N lv (v :: st)) : mOkP N v := h.2 v List.mem_cons_self
theorem mKo.push {N : Nat} {lv : List (Nat × Value)} {st : List Value} {v : Value} (h : mKo N lv st) (hv : mOkP N v) : mKo N lv (v :: st) := ⟨h.1, fun w hw => by
  rcases List.mem_cons.mp hw with q | q
  · subst q; exact hv
  · exact h.2 w q⟩
theorem mKo.loc {N i : Nat} {lv : List (Nat × Value)} {st : List Value} {v : Value} (h : mKo N lv st) (hm : (i, v) ∈ lv) : mOkP N v := h.1 (i, v) hm
theorem mKo.up {N : Nat} {lv : List (Nat × Value)} {st : List Value} (h : mKo N lv st) : mKo (N + 1) lv st := ⟨fun q hq a ha => by
  rcases h.1 q hq a ha with z | z
  · exact Or.inl (Nat.lt_succ_of_lt z)
  · exact Or.inr z, fun v hv a ha => by
  rcases h.2 v hv a ha with z | z
  · exact Or.inl (Nat.lt_succ_of_lt z)
  · exact Or.inr z⟩
theorem mOk_new {N : Nat} : mOkP (N + 1) (.ref N) := fun a h => by cases h; exact Or.inl (Nat.lt_succ_self _)
/-- the judgement: from this point of method I, in this store, the method ends so that Q -/
def mK (Γ : Nat × (Nat → Int32)) (I : mM) (d : Nat) (Q : mQ) (n0 bc bs pc : Nat) (lv : List (Nat × Value)) (st : List Value) (N : Nat) (sh : mH) (σ : mS) : Prop :=
  ∀ (p : Program) (l : Launch) (e : Env) (R : Room) (s : State) (m : MethodId) (args : Array Value) (below : List Frame) (meth : Method) (c : Code) (H : Heap) (locs : List Loc) (cells slots : Nat) (ls : Array Slot) (D : va_G) (cd ad ad0 : Nat → Nat) (aC : Nat → ClassId) (A : Nat → Prop) (mc ms : Nat),
    mX I d p l R s m args meth c cd A Γ.1 Γ.2 → mY D cd ad aC A N sh σ s H → va_S A s.heap H locs → lv_has ls I.2.2.1 (lv.map (mVq cd ad)) → (n0 ≤ N ∧ ∀ j, j < n0 → ad j = ad0 j) → (cells + bc ≤ mc ∧ slots + bs ≤ ms ∧ mc ≤ R.cells ∧ ms ≤ R.slots) → mKo N lv st →
    W p l e R s m args below meth c H locs cells slots (vx_MQ below (mQc Q D cd ad0 n0 A) (mXc Q D cd ad0 n0 A) args s mc ms A) (F0 m pc ls (st.map (mV cd ad)))

theorem mK_iconst {Γ : Nat × (Nat → Int32)} {I : mM} {d : Nat} {Q : mQ} {n0 bc bs pc : Nat} {lv : List (Nat × Value)} {st : List Value} {N : Nat} {sh : mH} {σ : mS} {n : Int} {v : Int32} {pc1 : Nat} (hd : decode I.2.1 pc = .ok (.iconst n, 1)) (hp : pc + 1 = pc1) (hv : Int32.ofInt n = v) (k : mK Γ I d Q n0 bc bs (pc1) lv (.int v :: st) N sh σ) : mK Γ I d Q n0 bc bs (pc) lv (st) N sh σ := by
  subst hp
  intro p l e R s m args below meth c H locs cells slots ls D cd ad ad0 aC A mc ms hX hY hS hl hag hb hc
  exact lv_iconst hX.1.1 hX.1.2.1 hd hv (k p l e R s m args below meth c H locs cells slots ls D cd ad ad0 aC A mc ms hX hY hS hl hag hb (hc.push mOk_i))
theorem mK_bipush {Γ : Nat × (Nat → Int32)} {I : mM} {d : Nat} {Q : mQ} {n0 bc bs pc : Nat} {lv : List (Nat × Value)} {st : List Value} {N : Nat} {sh : mH} {σ : mS} {n : Int} {v : Int32} {pc1 : Nat} (hd : decode I.2.1 pc = .ok (.bipush n, 2)) (hp : pc + 2 = pc1) (hv : (Int8.ofInt n).toInt32 = v) (k : mK Γ I d Q n0 bc bs (pc1) lv (.int v :: st) N sh σ) : mK Γ I d Q n0 bc bs (pc) lv (st) N sh σ := by
  subst hp
  intro p l e R s m args below meth c H locs cells slots ls D cd ad ad0 aC A mc ms hX hY hS hl hag hb hc
  exact lv_bipush hX.1.1 hX.1.2.1 hd hv (k p l e R s m args below meth c H locs cells slots ls D cd ad ad0 aC A mc ms hX hY hS hl hag hb (hc.push mOk_i))
theorem mK_sipush {Γ : Nat × (Nat → Int32)} {I : mM} {d : Nat} {Q : mQ} {n0 bc bs pc : Nat} {lv : List (Nat × Value)} {st : List Value} {N : Nat} {sh : mH} {σ : mS} {n : Int} {v : Int32} {pc1 : Nat} (hd : decode I.2.1 pc = .ok (.sipush n, 3)) (hp : pc + 3 = pc1) (hv : (Int16.ofInt n).toInt32 = v) (k : mK Γ I d Q n0 bc bs (pc1) lv (.int v :: st) N sh σ) : mK Γ I d Q n0 bc bs (pc) lv (st) N sh σ := by
  subst hp
  intro p l e R s m args below meth c H locs cells slots ls D cd ad ad0 aC A mc ms hX hY hS hl hag hb hc
  exact lv_sipush hX.1.1 hX.1.2.1 hd hv (k p l e R s m args below meth c H locs cells slots ls D cd ad ad0 aC A mc ms hX hY hS hl hag hb (hc.push mOk_i))
theorem mK_lconst {Γ : Nat × (Nat → Int32)} {I : mM} {d : Nat} {Q : mQ} {n0 bc bs pc : Nat} {lv : List (Nat × Value)} {st : List Value} {N : Nat} {sh : mH} {σ : mS} {n : Fin 2} {v : Int64} {pc1 : Nat} (hd : decode I.2.1 pc = .ok (.lconst n, 1)) (hp : pc + 1 = pc1) (hv : Int64.ofNat (n : Nat) = v) (k : mK Γ I d Q n0 bc bs (pc1) lv (.long v :: st) N sh σ) : mK Γ I d Q n0 bc bs (pc) lv (st) N sh σ := by
  subst hp
  intro p l e R s m args below meth c H locs cells slots ls D cd ad ad0 aC A mc ms hX hY hS hl hag hb hc
  exact lv_lconst hX.1.1 hX.1.2.1 hd hv (k p l e R s m args below meth c H locs cells slots ls D cd ad ad0 aC A mc ms hX hY hS hl hag hb (hc.push mOk_l))
theorem mK_dconst0 {Γ : Nat × (Nat → Int32)} {I : mM} {d : Nat} {Q : mQ} {n0 bc bs pc : Nat} {lv : List (Nat × Value)} {st : List Value} {N : Nat} {sh : mH} {σ : mS}  {pc1 : Nat} (hd : decode I.2.1 pc = .ok (.dconst 0, 1)) (hp : pc + 1 = pc1)  (k : mK Γ I d Q n0 bc bs (pc1) lv (.double FP.dconst0 :: st) N sh σ) : mK Γ I d Q n0 bc bs (pc) lv (st) N sh σ := by
  subst hp
  intro p l e R s m args below meth c H locs cells slots ls D cd ad ad0 aC A mc ms hX hY hS hl hag hb hc
  exact lv_dconst0 hX.1.1 hX.1.2.1 hd (k p l e R s m args below meth c H locs cells slots ls D cd ad ad0 aC A mc ms hX hY hS hl hag hb (hc.push mOk_d))
theorem mK_ldci {Γ : Nat × (Nat → Int32)} {I : mM} {d : Nat} {Q : mQ} {n0 bc bs pc : Nat} {lv : List (Nat × Value)} {st : List Value} {N : Nat} {sh : mH} {σ : mS} {n : Nat} {v : Int32} {pc1 : Nat} (hd : decode I.2.1 pc = .ok (.ldc n, 2)) (hp : pc + 2 = pc1) (hw : Cond.constant I.1.cls n v ∈ mBig) (k : mK Γ I d Q n0 bc bs (pc1) lv (.int v :: st) N sh σ) : mK Γ I d Q n0 bc bs (pc) lv (st) N sh σ := by
  subst hp
  intro p l e R s m args below meth c H locs cells slots ls D cd ad ad0 aC A mc ms hX hY hS hl hag hb hc
  exact lv_ldc hX.1.1 hX.1.2.1 hX.2.1.1 (hX.2.1.2 _ hw) hd (k p l e R s m args below meth c H locs cells slots ls D cd ad ad0 aC A mc ms hX hY hS hl hag hb (hc.push mOk_i))
theorem mK_ldcwi {Γ : Nat × (Nat → Int32)} {I : mM} {d : Nat} {Q : mQ} {n0 bc bs pc : Nat} {lv : List (Nat × Value)} {st : List Value} {N : Nat} {sh : mH} {σ : mS} {n : Nat} {v : Int32} {pc1 : Nat} (hd : decode I.2.1 pc = .ok (.ldc_w n, 3)) (hp : pc + 3 = pc1) (hw : Cond.constant I.1.cls n v ∈ mBig) (k : mK Γ I d Q n0 bc bs (pc1) lv (.int v :: st) N sh σ) : mK Γ I d Q n0 bc bs (pc) lv (st) N sh σ := by
  subst hp
  intro p l e R s m args below meth c H locs cells slots ls D cd ad ad0 aC A mc ms hX hY hS hl hag hb hc
  exact lv_ldcw hX.1.1 hX.1.2.1 hX.2.1.1 (hX.2.1.2 _ hw) hd (k p l e R s m args below meth c H locs cells slots ls D cd ad ad0 aC A mc ms hX hY hS hl hag hb (hc.push mOk_i))
theorem mK_ldc2 {Γ : Nat × (Nat → Int32)} {I : mM} {d : Nat} {Q : mQ} {n0 bc bs pc : Nat} {lv : List (Nat × Value)} {st : List Value} {N : Nat} {sh : mH} {σ : mS} {n : Nat} {v : Int64} {pc1 : Nat} (hd : decode I.2.1 pc = .ok (.ldc2_w n, 3)) (hp : pc + 3 = pc1) (hw : Cond.constantLong I.1.cls n v ∈ mBig) (k : mK Γ I d Q n0 bc bs (pc1) lv (.long v :: st) N sh σ) : mK Γ I d Q n0 bc bs (pc) lv (st) N sh σ := by
  subst hp
  intro p l e R s m args below meth c H locs cells slots ls D cd ad ad0 aC A mc ms hX hY hS hl hag hb hc
  exact lv_ldc2 hX.1.1 hX.1.2.1 hX.2.1.1 (hX.2.1.2 _ hw) hd (k p l e R s m args below meth c H locs cells slots ls D cd ad ad0 aC A mc ms hX hY hS hl hag hb (hc.push mOk_l))
theorem mL_at {cd ad : Nat → Nat} {ls : Array Slot} {nL : Nat} {lv : List (Nat × Value)} (hl : lv_has ls nL (lv.map (mVq cd ad))) {i : Nat} {v : Value} (h : (i, v) ∈ lv) : ls[i]? = some (.val (mV cd ad v)) := hl.2.2 (i, mV cd ad v) (List.mem_map.mpr ⟨(i, v), h, rfl⟩)
def mF1 (n : Nat) (lv : List (Nat × Value)) : List (Nat × Value) := lv.filter (fun q => !(q.1 == n) && !(q.1 + 1 == n && q.2.category == 2))
def mF2 (n : Nat) (lv : List (Nat × Value)) : List (Nat × Value) := lv.filter (fun q => !(q.1 == n) && (!(q.1 == n + 1) && !(q.1 + 1 == n && q.2.category == 2)))
def mIns (n : Nat) (v : Value) : List (Nat × Value) → List (Nat × Value)
  | [] => [(n, v)]
  | q :: l => bif Nat.ble n q.1 then (n, v) :: q :: l else q :: mIns n v l
theorem mIns_mem {n : Nat} {v : Value} : ∀ {l : List (Nat × Value)} {q : Nat × Value}, q ∈ mIns n v l → q ∈ (n, v) :: l
  | [], q, h => h
  | r :: l, q, h => by
    unfold mIns at h
    cases hb : Nat.ble n r.1
    · rw [hb] at h
      rcases List.mem_cons.mp h with h | h
      · exact List.mem_cons_of_mem _ (h ▸ List.mem_cons_self)
      · rcases List.mem_cons.mp (mIns_mem h) with h | h
        · exact h ▸ List.mem_cons_self
        · exact List.mem_cons_of_mem _ (List.mem_cons_of_mem _ h)
    · rw [hb] at h
      exact h
theorem mV_cat {cd ad : Nat → Nat} (v : Value) : (mV cd ad v).category = v.category := by cases v <;> rfl
theorem mL_sub {cd ad : Nat → Nat} {ls : Array Slot} {nL : Nat} {lv lv' : List (Nat × Value)} (hl : lv_has ls nL (lv.map (mVq cd ad))) (h : ∀ q ∈ lv', q ∈ lv) : lv_has ls nL (lv'.map (mVq cd ad)) :=
  ⟨hl.1, hl.2.1, fun q hq => by
    obtain ⟨r, hr, rfl⟩ := List.mem_map.mp hq
    exact hl.2.2 _ (List.mem_map.mpr ⟨r, h r hr, rfl⟩)⟩
theorem mF1_map {cd ad : Nat → Nat} {n : Nat} {v : Value} {lv : List (Nat × Value)} : (n, mV cd ad v) :: (lv.map (mVq cd ad)).filter (fun q => !(q.1 == n) && !(q.1 + 1 == n && q.2.category == 2)) = ((n, v) :: mF1 n lv).map (mVq cd ad) := by
  rw [List.map_cons, mF1, List.filter_map]
  have : ((fun q : Nat × Value => !(q.1 == n) && !(q.1 + 1 == n && q.2.category == 2)) ∘ mVq cd ad) = (fun q => !(q.1 == n) && !(q.1 + 1 == n && q.2.category == 2)) := by
    funext q
    simp [mVq, mV_cat]
  rw [this]; rfl
theorem mF2_map {cd ad : Nat → Nat} {n : Nat} {v : Value} {lv : List (Nat × Value)} : (n, mV cd ad v) :: (lv.map (mVq cd ad)).filter (fun q => !(q.1 == n) && (!(q.1 == n + 1) && !(q.1 + 1 == n && q.2.category == 2))) = ((n, v) :: mF2 n lv).map (mVq cd ad) := by
  rw [List.map_cons, mF2, List.filter_map]
  have : ((fun q : Nat × Value => !(q.1 == n) && (!(q.1 == n + 1) && !(q.1 + 1 == n && q.2.category == 2))) ∘ mVq cd ad) = (fun q => !(q.1 == n) && (!(q.1 == n + 1) && !(q.1 + 1 == n && q.2.category == 2))) := by
    funext q
    simp [mVq, mV_cat]
  rw [this]; rfl
def mS1 (n : Nat) (v : Value) (lv : List (Nat × Value)) : List (Nat × Value) := mIns n v (mF1 n lv)
def mS2 (n : Nat) (v : Value) (lv : List (Nat × Value)) : List (Nat × Value) := mIns n v (mF2 n lv)
theorem mKo.sto1 {N n : Nat} {lv : List (Nat × Value)} {st : List Value} {v : Value} (h : mKo N lv st) (hv : mOkP N v) : mKo N (mS1 n v lv) st := ⟨fun q hq => by
  rcases List.mem_cons.mp (mIns_mem hq) with z | z
  · subst z; exact hv
  · exact h.1 q (List.mem_filter.mp z).1, h.2⟩
theorem mKo.sto2 {N n : Nat} {lv : List (Nat × Value)} {st : List Value} {v : Value} (h : mKo N lv st) (hv : mOkP N v) : mKo N (mS2 n v lv) st := ⟨fun q hq => by
  rcases List.mem_cons.mp (mIns_mem hq) with z | z
  · subst z; exact hv
  · exact h.1 q (List.mem_filter.mp z).1, h.2⟩

theorem mK_iload_n {Γ : Nat × (Nat → Int32)} {I : mM} {d : Nat} {Q : mQ} {n0 bc bs pc : Nat} {lv : List (Nat × Value)} {st : List Value} {N : Nat} {sh : mH} {σ : mS} {n : Fin 4} {i : Nat} {x : Int32} {pc1 : Nat} (hd : decode I.2.1 pc = .ok (.iload_n n, 1)) (hp : pc + 1 = pc1) (hi : (n : Nat) = i) (hm : (i, Value.int x) ∈ lv) (k : mK Γ I d Q n0 bc bs (pc1) lv (.int x :: st) N sh σ) : mK Γ I d Q n0 bc bs (pc) lv (st) N sh σ := by
  subst hp
  intro p l e R s m args below meth c H locs cells slots ls D cd ad ad0 aC A mc ms hX hY hS hl hag hb hc
  exact lv_iload_n hX.1.1 hX.1.2.1 hd hi (mL_at hl hm) (k p l e R s m args below meth c H locs cells slots ls D cd ad ad0 aC A mc ms hX hY hS hl hag hb (hc.push (hc.loc hm)))
theorem mK_iload {Γ : Nat × (Nat → Int32)} {I : mM} {d : Nat} {Q : mQ} {n0 bc bs pc : Nat} {lv : List (Nat × Value)} {st : List Value} {N : Nat} {sh : mH} {σ : mS} {i : Nat} {x : Int32} {pc1 : Nat} (hd : decode I.2.1 pc = .ok (.iload i, 2)) (hp : pc + 2 = pc1) (hm : (i, Value.int x) ∈ lv) (k : mK Γ I d Q n0 bc bs (pc1) lv (.int x :: st) N sh σ) : mK Γ I d Q n0 bc bs (pc) lv (st) N sh σ := by
  subst hp
  intro p l e R s m args below meth c H locs cells slots ls D cd ad ad0 aC A mc ms hX hY hS hl hag hb hc
  exact lv_iload hX.1.1 hX.1.2.1 hd (mL_at hl hm) (k p l e R s m args below meth c H locs cells slots ls D cd ad ad0 aC A mc ms hX hY hS hl hag hb (hc.push (hc.loc hm)))
theorem mK_istore_n {Γ : Nat × (Nat → Int32)} {I : mM} {d : Nat} {Q : mQ} {n0 bc bs pc : Nat} {lv : List (Nat × Value)} {st : List Value} {N : Nat} {sh : mH} {σ : mS} {n : Fin 4} {i : Nat} {x : Int32} {pc1 : Nat} (hd : decode I.2.1 pc = .ok (.istore_n n, 1)) (hp : pc + 1 = pc1) (hi : (n : Nat) = i) (hn : i < I.2.2.1) (k : mK Γ I d Q n0 bc bs (pc1) (mS1 i (.int x) lv) (st) N sh σ) : mK Γ I d Q n0 bc bs (pc) lv (.int x :: st) N sh σ := by
  subst hp
  intro p l e R s m args below meth c H locs cells slots ls D cd ad ad0 aC A mc ms hX hY hS hl hag hb hc
  exact lv_istore_n hX.1.1 hX.1.2.1 hd hi hl hn (mF1_map (v := .int x)) (fun ls1 hl1 => k p l e R s m args below meth c H locs cells slots ls1 D cd ad ad0 aC A mc ms hX hY hS (mL_sub hl1 (fun q hq => mIns_mem hq)) hag hb (hc.pop.sto1 hc.top))
theorem mK_istore {Γ : Nat × (Nat → Int32)} {I : mM} {d : Nat} {Q : mQ} {n0 bc bs pc : Nat} {lv : List (Nat × Value)} {st : List Value} {N : Nat} {sh : mH} {σ : mS} {i : Nat} {x : Int32} {pc1 : Nat} (hd : decode I.2.1 pc = .ok (.istore i, 2)) (hp : pc + 2 = pc1) (hn : i < I.2.2.1) (k : mK Γ I d Q n0 bc bs (pc1) (mS1 i (.int x) lv) (st) N sh σ) : mK Γ I d Q n0 bc bs (pc) lv (.int x :: st) N sh σ := by
  subst hp
  intro p l e R s m args below meth c H locs cells slots ls D cd ad ad0 aC A mc ms hX hY hS hl hag hb hc
  exact lv_istore hX.1.1 hX.1.2.1 hd hl hn (mF1_map (v := .int x)) (fun ls1 hl1 => k p l e R s m args below meth c H locs cells slots ls1 D cd ad ad0 aC A mc ms hX hY hS (mL_sub hl1 (fun q hq => mIns_mem hq)) hag hb (hc.pop.sto1 hc.top))
theorem mK_lload_n {Γ : Nat × (Nat → Int32)} {I : mM} {d : Nat} {Q : mQ} {n0 bc bs pc : Nat} {lv : List (Nat × Value)} {st : List Value} {N : Nat} {sh : mH} {σ : mS} {n : Fin 4} {i : Nat} {x : Int64} {pc1 : Nat} (hd : decode I.2.1 pc = .ok (.lload_n n, 1)) (hp : pc + 1 = pc1) (hi : (n : Nat) = i) (hm : (i, Value.long x) ∈ lv) (k : mK Γ I d Q n0 bc bs (pc1) lv (.long x :: st) N sh σ) : mK Γ I d Q n0 bc bs (pc) lv (st) N sh σ := by
  subst hp
  intro p l e R s m args below meth c H locs cells slots ls D cd ad ad0 aC A mc ms hX hY hS hl hag hb hc
  exact lv_lload_n hX.1.1 hX.1.2.1 hd hi (mL_at hl hm) (k p l e R s m args below meth c H locs cells slots ls D cd ad ad0 aC A mc ms hX hY hS hl hag hb (hc.push (hc.loc hm)))
theorem mK_lload {Γ : Nat × (Nat → Int32)} {I : mM} {d : Nat} {Q : mQ} {n0 bc bs pc : Nat} {lv : List (Nat × Value)} {st : List Value} {N : Nat} {sh : mH} {σ : mS} {i : Nat} {x : Int64} {pc1 : Nat} (hd : decode I.2.1 pc = .ok (.lload i, 2)) (hp : pc + 2 = pc1) (hm : (i, Value.long x) ∈ lv) (k : mK Γ I d Q n0 bc bs (pc1) lv (.long x :: st) N sh σ) : mK Γ I d Q n0 bc bs (pc) lv (st) N sh σ := by
  subst hp
  intro p l e R s m args below meth c H locs cells slots ls D cd ad ad0 aC A mc ms hX hY hS hl hag hb hc
  exact lv_lload hX.1.1 hX.1.2.1 hd (mL_at hl hm) (k p l e R s m args below meth c H locs cells slots ls D cd ad ad0 aC A mc ms hX hY hS hl hag hb (hc.push (hc.loc hm)))
theorem mK_lstore_n {Γ : Nat × (Nat → Int32)} {I : mM} {d : Nat} {Q : mQ} {n0 bc bs pc : Nat} {lv : List (Nat × Value)} {st : List Value} {N : Nat} {sh : mH} {σ : mS} {n : Fin 4} {i : Nat} {x : Int64} {pc1 : Nat} (hd : decode I.2.1 pc = .ok (.lstore_n n, 1)) (hp : pc + 1 = pc1) (hi : (n : Nat) = i) (hn : i + 1 < I.2.2.1) (k : mK Γ I d Q n0 bc bs (pc1) (mS2 i (.long x) lv) (st) N sh σ) : mK Γ I d Q n0 bc bs (pc) lv (.long x :: st) N sh σ := by
  subst hp
  intro p l e R s m args below meth c H locs cells slots ls D cd ad ad0 aC A mc ms hX hY hS hl hag hb hc
  exact lv_lstore_n hX.1.1 hX.1.2.1 hd hi hl hn (mF2_map (v := .long x)) (fun ls1 hl1 => k p l e R s m args below meth c H locs cells slots ls1 D cd ad ad0 aC A mc ms hX hY hS (mL_sub hl1 (fun q hq => mIns_mem hq)) hag hb (hc.pop.sto2 hc.top))
theorem mK_lstore {Γ : Nat × (Nat → Int32)} {I : mM} {d : Nat} {Q : mQ} {n0 bc bs pc : Nat} {lv : List (Nat × Value)} {st : List Value} {N : Nat} {sh : mH} {σ : mS} {i : Nat} {x : Int64} {pc1 : Nat} (hd : decode I.2.1 pc = .ok (.lstore i, 2)) (hp : pc + 2 = pc1) (hn : i + 1 < I.2.2.1) (k : mK Γ I d Q n0 bc bs (pc1) (mS2 i (.long x) lv) (st) N sh σ) : mK Γ I d Q n0 bc bs (pc) lv (.long x :: st) N sh σ := by
  subst hp
  intro p l e R s m args below meth c H locs cells slots ls D cd ad ad0 aC A mc ms hX hY hS hl hag hb hc
  exact lv_lstore hX.1.1 hX.1.2.1 hd hl hn (mF2_map (v := .long x)) (fun ls1 hl1 => k p l e R s m args below meth c H locs cells slots ls1 D cd ad ad0 aC A mc ms hX hY hS (mL_sub hl1 (fun q hq => mIns_mem hq)) hag hb (hc.pop.sto2 hc.top))
theorem mK_aload_n {Γ : Nat × (Nat → Int32)} {I : mM} {d : Nat} {Q : mQ} {n0 bc bs pc : Nat} {lv : List (Nat × Value)} {st : List Value} {N : Nat} {sh : mH} {σ : mS} {n : Fin 4} {i : Nat} {x : Nat} {pc1 : Nat} (hd : decode I.2.1 pc = .ok (.aload_n n, 1)) (hp : pc + 1 = pc1) (hi : (n : Nat) = i) (hm : (i, Value.ref x) ∈ lv) (k : mK Γ I d Q n0 bc bs (pc1) lv (.ref x :: st) N sh σ) : mK Γ I d Q n0 bc bs (pc) lv (st) N sh σ := by
  subst hp
  intro p l e R s m args below meth c H locs cells slots ls D cd ad ad0 aC A mc ms hX hY hS hl hag hb hc
  exact lv_aload_n hX.1.1 hX.1.2.1 hd hi (mL_at hl hm) (k p l e R s m args below meth c H locs cells slots ls D cd ad ad0 aC A mc ms hX hY hS hl hag hb (hc.push (hc.loc hm)))
theorem mK_aload {Γ : Nat × (Nat → Int32)} {I : mM} {d : Nat} {Q : mQ} {n0 bc bs pc : Nat} {lv : List (Nat × Value)} {st : List Value} {N : Nat} {sh : mH} {σ : mS} {i : Nat} {x : Nat} {pc1 : Nat} (hd : decode I.2.1 pc = .ok (.aload i, 2)) (hp : pc + 2 = pc1) (hm : (i, Value.ref x) ∈ lv) (k : mK Γ I d Q n0 bc bs (pc1) lv (.ref x :: st) N sh σ) : mK Γ I d Q n0 bc bs (pc) lv (st) N sh σ := by
  subst hp
  intro p l e R s m args below meth c H locs cells slots ls D cd ad ad0 aC A mc ms hX hY hS hl hag hb hc
  exact lv_aload hX.1.1 hX.1.2.1 hd (mL_at hl hm) (k p l e R s m args below meth c H locs cells slots ls D cd ad ad0 aC A mc ms hX hY hS hl hag hb (hc.push (hc.loc hm)))
theorem mK_astore_n {Γ : Nat × (Nat → Int32)} {I : mM} {d : Nat} {Q : mQ} {n0 bc bs pc : Nat} {lv : List (Nat × Value)} {st : List Value} {N : Nat} {sh : mH} {σ : mS} {n : Fin 4} {i : Nat} {x : Nat} {pc1 : Nat} (hd : decode I.2.1 pc = .ok (.astore_n n, 1)) (hp : pc + 1 = pc1) (hi : (n : Nat) = i) (hn : i < I.2.2.1) (k : mK Γ I d Q n0 bc bs (pc1) (mS1 i (.ref x) lv) (st) N sh σ) : mK Γ I d Q n0 bc bs (pc) lv (.ref x :: st) N sh σ := by
  subst hp
  intro p l e R s m args below meth c H locs cells slots ls D cd ad ad0 aC A mc ms hX hY hS hl hag hb hc
  exact lv_astore_n hX.1.1 hX.1.2.1 hd hi hl hn (mF1_map (v := .ref x)) (fun ls1 hl1 => k p l e R s m args below meth c H locs cells slots ls1 D cd ad ad0 aC A mc ms hX hY hS (mL_sub hl1 (fun q hq => mIns_mem hq)) hag hb (hc.pop.sto1 hc.top))
theorem mK_astore {Γ : Nat × (Nat → Int32)} {I : mM} {d : Nat} {Q : mQ} {n0 bc bs pc : Nat} {lv : List (Nat × Value)} {st : List Value} {N : Nat} {sh : mH} {σ : mS} {i : Nat} {x : Nat} {pc1 : Nat} (hd : decode I.2.1 pc = .ok (.astore i, 2)) (hp : pc + 2 = pc1) (hn : i < I.2.2.1) (k : mK Γ I d Q n0 bc bs (pc1) (mS1 i (.ref x) lv) (st) N sh σ) : mK Γ I d Q n0 bc bs (pc) lv (.ref x :: st) N sh σ := by
  subst hp
  intro p l e R s m args below meth c H locs cells slots ls D cd ad ad0 aC A mc ms hX hY hS hl hag hb hc
  exact lv_astore hX.1.1 hX.1.2.1 hd hl hn (mF1_map (v := .ref x)) (fun ls1 hl1 => k p l e R s m args below meth c H locs cells slots ls1 D cd ad ad0 aC A mc ms hX hY hS (mL_sub hl1 (fun q hq => mIns_mem hq)) hag hb (hc.pop.sto1 hc.top))
theorem mK_dload_n {Γ : Nat × (Nat → Int32)} {I : mM} {d : Nat} {Q : mQ} {n0 bc bs pc : Nat} {lv : List (Nat × Value)} {st : List Value} {N : Nat} {sh : mH} {σ : mS} {n : Fin 4} {i : Nat} {x : UInt64} {pc1 : Nat} (hd : decode I.2.1 pc = .ok (.dload_n n, 1)) (hp : pc + 1 = pc1) (hi : (n : Nat) = i) (hm : (i, Value.double x) ∈ lv) (k : mK Γ I d Q n0 bc bs (pc1) lv (.double x :: st) N sh σ) : mK Γ I d Q n0 bc bs (pc) lv (st) N sh σ := by
  subst hp
  intro p l e R s m args below meth c H locs cells slots ls D cd ad ad0 aC A mc ms hX hY hS hl hag hb hc
  exact lv_dload_n hX.1.1 hX.1.2.1 hd hi (mL_at hl hm) (k p l e R s m args below meth c H locs cells slots ls D cd ad ad0 aC A mc ms hX hY hS hl hag hb (hc.push (hc.loc hm)))
theorem mK_dload {Γ : Nat × (Nat → Int32)} {I : mM} {d : Nat} {Q : mQ} {n0 bc bs pc : Nat} {lv : List (Nat × Value)} {st : List Value} {N : Nat} {sh : mH} {σ : mS} {i : Nat} {x : UInt64} {pc1 : Nat} (hd : decode I.2.1 pc = .ok (.dload i, 2)) (hp : pc + 2 = pc1) (hm : (i, Value.double x) ∈ lv) (k : mK Γ I d Q n0 bc bs (pc1) lv (.double x :: st) N sh σ) : mK Γ I d Q n0 bc bs (pc) lv (st) N sh σ := by
  subst hp
  intro p l e R s m args below meth c H locs cells slots ls D cd ad ad0 aC A mc ms hX hY hS hl hag hb hc
  exact lv_dload hX.1.1 hX.1.2.1 hd (mL_at hl hm) (k p l e R s m args below meth c H locs cells slots ls D cd ad ad0 aC A mc ms hX hY hS hl hag hb (hc.push (hc.loc hm)))
theorem mK_dstore_n {Γ : Nat × (Nat → Int32)} {I : mM} {d : Nat} {Q : mQ} {n0 bc bs pc : Nat} {lv : List (Nat × Value)} {st : List Value} {N : Nat} {sh : mH} {σ : mS} {n : Fin 4} {i : Nat} {x : UInt64} {pc1 : Nat} (hd : decode I.2.1 pc = .ok (.dstore_n n, 1)) (hp : pc + 1 = pc1) (hi : (n : Nat) = i) (hn : i + 1 < I.2.2.1) (k : mK Γ I d Q n0 bc bs (pc1) (mS2 i (.double x) lv) (st) N sh σ) : mK Γ I d Q n0 bc bs (pc) lv (.double x :: st) N sh σ := by
  subst hp
  intro p l e R s m args below meth c H locs cells slots ls D cd ad ad0 aC A mc ms hX hY hS hl hag hb hc
  exact lv_dstore_n hX.1.1 hX.1.2.1 hd hi hl hn (mF2_map (v := .double x)) (fun ls1 hl1 => k p l e R s m args below meth c H locs cells slots ls1 D cd ad ad0 aC A mc ms hX hY hS (mL_sub hl1 (fun q hq => mIns_mem hq)) hag hb (hc.pop.sto2 hc.top))
theorem mK_dstore {Γ : Nat × (Nat → Int32)} {I : mM} {d : Nat} {Q : mQ} {n0 bc bs pc : Nat} {lv : List (Nat × Value)} {st : List Value} {N : Nat} {sh : mH} {σ : mS} {i : Nat} {x : UInt64} {pc1 : Nat} (hd : decode I.2.1 pc = .ok (.dstore i, 2)) (hp : pc + 2 = pc1) (hn : i + 1 < I.2.2.1) (k : mK Γ I d Q n0 bc bs (pc1) (mS2 i (.double x) lv) (st) N sh σ) : mK Γ I d Q n0 bc bs (pc) lv (.double x :: st) N sh σ := by
  subst hp
  intro p l e R s m args below meth c H locs cells slots ls D cd ad ad0 aC A mc ms hX hY hS hl hag hb hc
  exact lv_dstore hX.1.1 hX.1.2.1 hd hl hn (mF2_map (v := .double x)) (fun ls1 hl1 => k p l e R s m args below meth c H locs cells slots ls1 D cd ad ad0 aC A mc ms hX hY hS (mL_sub hl1 (fun q hq => mIns_mem hq)) hag hb (hc.pop.sto2 hc.top))
theorem mK_iinc {Γ : Nat × (Nat → Int32)} {I : mM} {d : Nat} {Q : mQ} {n0 bc bs pc : Nat} {lv : List (Nat × Value)} {st : List Value} {N : Nat} {sh : mH} {σ : mS} {i : Nat} {n : Int} {x v : Int32} {pc1 : Nat} (hd : decode I.2.1 pc = .ok (.iinc i n, 3)) (hp : pc + 3 = pc1) (hm : (i, Value.int x) ∈ lv) (hv : x + Int32.ofInt n = v) (hn : i < I.2.2.1) (k : mK Γ I d Q n0 bc bs (pc1) (mS1 i (.int v) lv) (st) N sh σ) : mK Γ I d Q n0 bc bs (pc) lv (st) N sh σ := by
  subst hp
  intro p l e R s m args below meth c H locs cells slots ls D cd ad ad0 aC A mc ms hX hY hS hl hag hb hc
  obtain ⟨q, hq⟩ := List.mem_iff_getElem?.mp (List.mem_map.mpr ⟨(i, Value.int x), hm, rfl⟩ : (i, mV cd ad (.int x)) ∈ lv.map (mVq cd ad))
  exact lv_iinc hX.1.1 hX.1.2.1 hd hl hq hv hn (mF1_map (v := .int v)) (fun ls1 hl1 => k p l e R s m args below meth c H locs cells slots ls1 D cd ad ad0 aC A mc ms hX hY hS (mL_sub hl1 (fun q hq => mIns_mem hq)) hag hb (hc.sto1 mOk_i))
theorem mK_iadd {Γ : Nat × (Nat → Int32)} {I : mM} {d : Nat} {Q : mQ} {n0 bc bs pc : Nat} {lv : List (Nat × Value)} {st : List Value} {N : Nat} {sh : mH} {σ : mS} {x y : Int32} {pc1 : Nat} (hd : decode I.2.1 pc = .ok (.iadd, 1)) (hp : pc + 1 = pc1)  (k : mK Γ I d Q n0 bc bs (pc1) lv (.int (x + y) :: st) N sh σ) : mK Γ I d Q n0 bc bs (pc) lv (.int y :: .int x :: st) N sh σ := by
  subst hp
  intro p l e R s m args below meth c H locs cells slots ls D cd ad ad0 aC A mc ms hX hY hS hl hag hb hc
  exact lv_iadd hX.1.1 hX.1.2.1 hd (k p l e R s m args below meth c H locs cells slots ls D cd ad ad0 aC A mc ms hX hY hS hl hag hb (hc.pop.pop.push mOk_i))
theorem mK_isub {Γ : Nat × (Nat → Int32)} {I : mM} {d : Nat} {Q : mQ} {n0 bc bs pc : Nat} {lv : List (Nat × Value)} {st : List Value} {N : Nat} {sh : mH} {σ : mS} {x y : Int32} {pc1 : Nat} (hd : decode I.2.1 pc = .ok (.isub, 1)) (hp : pc + 1 = pc1)  (k : mK Γ I d Q n0 bc bs (pc1) lv (.int (x - y) :: st) N sh σ) : mK Γ I d Q n0 bc bs (pc) lv (.int y :: .int x :: st) N sh σ := by
  subst hp
  intro p l e R s m args below meth c H locs cells slots ls D cd ad ad0 aC A mc ms hX hY hS hl hag hb hc
  exact lv_isub hX.1.1 hX.1.2.1 hd (k p l e R s m args below meth c H locs cells slots ls D cd ad ad0 aC A mc ms hX hY hS hl hag hb (hc.pop.pop.push mOk_i))
theorem mK_imul {Γ : Nat × (Nat → Int32)} {I : mM} {d : Nat} {Q : mQ} {n0 bc bs pc : Nat} {lv : List (Nat × Value)} {st : List Value} {N : Nat} {sh : mH} {σ : mS} {x y : Int32} {pc1 : Nat} (hd : decode I.2.1 pc = .ok (.imul, 1)) (hp : pc + 1 = pc1)  (k : mK Γ I d Q n0 bc bs (pc1) lv (.int (x * y) :: st) N sh σ) : mK Γ I d Q n0 bc bs (pc) lv (.int y :: .int x :: st) N sh σ := by
  subst hp
  intro p l e R s m args below meth c H locs cells slots ls D cd ad ad0 aC A mc ms hX hY hS hl hag hb hc
  exact lv_imul hX.1.1 hX.1.2.1 hd (k p l e R s m args below meth c H locs cells slots ls D cd ad ad0 aC A mc ms hX hY hS hl hag hb (hc.pop.pop.push mOk_i))
theorem mK_iand {Γ : Nat × (Nat → Int32)} {I : mM} {d : Nat} {Q : mQ} {n0 bc bs pc : Nat} {lv : List (Nat × Value)} {st : List Value} {N : Nat} {sh : mH} {σ : mS} {x y : Int32} {pc1 : Nat} (hd : decode I.2.1 pc = .ok (.iand, 1)) (hp : pc + 1 = pc1)  (k : mK Γ I d Q n0 bc bs (pc1) lv (.int (x &&& y) :: st) N sh σ) : mK Γ I d Q n0 bc bs (pc) lv (.int y :: .int x :: st) N sh σ := by
  subst hp
  intro p l e R s m args below meth c H locs cells slots ls D cd ad ad0 aC A mc ms hX hY hS hl hag hb hc
  exact lv_iand hX.1.1 hX.1.2.1 hd (k p l e R s m args below meth c H locs cells slots ls D cd ad ad0 aC A mc ms hX hY hS hl hag hb (hc.pop.pop.push mOk_i))
theorem mK_ior {Γ : Nat × (Nat → Int32)} {I : mM} {d : Nat} {Q : mQ} {n0 bc bs pc : Nat} {lv : List (Nat × Value)} {st : List Value} {N : Nat} {sh : mH} {σ : mS} {x y : Int32} {pc1 : Nat} (hd : decode I.2.1 pc = .ok (.ior, 1)) (hp : pc + 1 = pc1)  (k : mK Γ I d Q n0 bc bs (pc1) lv (.int (x ||| y) :: st) N sh σ) : mK Γ I d Q n0 bc bs (pc) lv (.int y :: .int x :: st) N sh σ := by
  subst hp
  intro p l e R s m args below meth c H locs cells slots ls D cd ad ad0 aC A mc ms hX hY hS hl hag hb hc
  exact lv_ior hX.1.1 hX.1.2.1 hd (k p l e R s m args below meth c H locs cells slots ls D cd ad ad0 aC A mc ms hX hY hS hl hag hb (hc.pop.pop.push mOk_i))
theorem mK_ishl {Γ : Nat × (Nat → Int32)} {I : mM} {d : Nat} {Q : mQ} {n0 bc bs pc : Nat} {lv : List (Nat × Value)} {st : List Value} {N : Nat} {sh : mH} {σ : mS} {x y : Int32} {pc1 : Nat} (hd : decode I.2.1 pc = .ok (.ishl, 1)) (hp : pc + 1 = pc1)  (k : mK Γ I d Q n0 bc bs (pc1) lv (.int (x <<< (y &&& 31)) :: st) N sh σ) : mK Γ I d Q n0 bc bs (pc) lv (.int y :: .int x :: st) N sh σ := by
  subst hp
  intro p l e R s m args below meth c H locs cells slots ls D cd ad ad0 aC A mc ms hX hY hS hl hag hb hc
  exact lv_ishl hX.1.1 hX.1.2.1 hd (k p l e R s m args below meth c H locs cells slots ls D cd ad ad0 aC A mc ms hX hY hS hl hag hb (hc.pop.pop.push mOk_i))
theorem mK_ishr {Γ : Nat × (Nat → Int32)} {I : mM} {d : Nat} {Q : mQ} {n0 bc bs pc : Nat} {lv : List (Nat × Value)} {st : List Value} {N : Nat} {sh : mH} {σ : mS} {x y : Int32} {pc1 : Nat} (hd : decode I.2.1 pc = .ok (.ishr, 1)) (hp : pc + 1 = pc1)  (k : mK Γ I d Q n0 bc bs (pc1) lv (.int (x >>> (y &&& 31)) :: st) N sh σ) : mK Γ I d Q n0 bc bs (pc) lv (.int y :: .int x :: st) N sh σ := by
  subst hp
  intro p l e R s m args below meth c H locs cells slots ls D cd ad ad0 aC A mc ms hX hY hS hl hag hb hc
  exact lv_ishr hX.1.1 hX.1.2.1 hd (k p l e R s m args below meth c H locs cells slots ls D cd ad ad0 aC A mc ms hX hY hS hl hag hb (hc.pop.pop.push mOk_i))
theorem mK_iushr {Γ : Nat × (Nat → Int32)} {I : mM} {d : Nat} {Q : mQ} {n0 bc bs pc : Nat} {lv : List (Nat × Value)} {st : List Value} {N : Nat} {sh : mH} {σ : mS} {x y : Int32} {pc1 : Nat} (hd : decode I.2.1 pc = .ok (.iushr, 1)) (hp : pc + 1 = pc1)  (k : mK Γ I d Q n0 bc bs (pc1) lv (.int (x.toUInt32 >>> (y.toUInt32 &&& Int32.toUInt32 31)).toInt32 :: st) N sh σ) : mK Γ I d Q n0 bc bs (pc) lv (.int y :: .int x :: st) N sh σ := by
  subst hp
  intro p l e R s m args below meth c H locs cells slots ls D cd ad ad0 aC A mc ms hX hY hS hl hag hb hc
  exact lv_iushr hX.1.1 hX.1.2.1 hd rfl (k p l e R s m args below meth c H locs cells slots ls D cd ad ad0 aC A mc ms hX hY hS hl hag hb (hc.pop.pop.push mOk_i))
theorem mK_idiv {Γ : Nat × (Nat → Int32)} {I : mM} {d : Nat} {Q : mQ} {n0 bc bs pc : Nat} {lv : List (Nat × Value)} {st : List Value} {N : Nat} {sh : mH} {σ : mS} {x y : Int32} {pc1 : Nat} (hd : decode I.2.1 pc = .ok (.idiv, 1)) (hp : pc + 1 = pc1) (hne : ¬ y = 0) (k : mK Γ I d Q n0 bc bs (pc1) lv (.int (x / y) :: st) N sh σ) : mK Γ I d Q n0 bc bs (pc) lv (.int y :: .int x :: st) N sh σ := by
  subst hp
  intro p l e R s m args below meth c H locs cells slots ls D cd ad ad0 aC A mc ms hX hY hS hl hag hb hc
  exact lv_idiv hX.1.1 hX.1.2.1 hd hne (k p l e R s m args below meth c H locs cells slots ls D cd ad ad0 aC A mc ms hX hY hS hl hag hb (hc.pop.pop.push mOk_i))
theorem mK_irem {Γ : Nat × (Nat → Int32)} {I : mM} {d : Nat} {Q : mQ} {n0 bc bs pc : Nat} {lv : List (Nat × Value)} {st : List Value} {N : Nat} {sh : mH} {σ : mS} {x y : Int32} {pc1 : Nat} (hd : decode I.2.1 pc = .ok (.irem, 1)) (hp : pc + 1 = pc1) (hne : ¬ y = 0) (k : mK Γ I d Q n0 bc bs (pc1) lv (.int (x - x / y * y) :: st) N sh σ) : mK Γ I d Q n0 bc bs (pc) lv (.int y :: .int x :: st) N sh σ := by
  subst hp
  intro p l e R s m args below meth c H locs cells slots ls D cd ad ad0 aC A mc ms hX hY hS hl hag hb hc
  exact lv_irem hX.1.1 hX.1.2.1 hd hne (k p l e R s m args below meth c H locs cells slots ls D cd ad ad0 aC A mc ms hX hY hS hl hag hb (hc.pop.pop.push mOk_i))
theorem mK_ineg {Γ : Nat × (Nat → Int32)} {I : mM} {d : Nat} {Q : mQ} {n0 bc bs pc : Nat} {lv : List (Nat × Value)} {st : List Value} {N : Nat} {sh : mH} {σ : mS} {x : Int32} {pc1 : Nat} (hd : decode I.2.1 pc = .ok (.ineg, 1)) (hp : pc + 1 = pc1)  (k : mK Γ I d Q n0 bc bs (pc1) lv (.int (-x) :: st) N sh σ) : mK Γ I d Q n0 bc bs (pc) lv (.int x :: st) N sh σ := by
  subst hp
  intro p l e R s m args below meth c H locs cells slots ls D cd ad ad0 aC A mc ms hX hY hS hl hag hb hc
  exact lv_ineg hX.1.1 hX.1.2.1 hd (k p l e R s m args below meth c H locs cells slots ls D cd ad ad0 aC A mc ms hX hY hS hl hag hb (hc.pop.push mOk_i))
theorem mK_ladd {Γ : Nat × (Nat → Int32)} {I : mM} {d : Nat} {Q : mQ} {n0 bc bs pc : Nat} {lv : List (Nat × Value)} {st : List Value} {N : Nat} {sh : mH} {σ : mS} {x y : Int64} {pc1 : Nat} (hd : decode I.2.1 pc = .ok (.ladd, 1)) (hp : pc + 1 = pc1)  (k : mK Γ I d Q n0 bc bs (pc1) lv (.long (x + y) :: st) N sh σ) : mK Γ I d Q n0 bc bs (pc) lv (.long y :: .long x :: st) N sh σ := by
  subst hp
  intro p l e R s m args below meth c H locs cells slots ls D cd ad ad0 aC A mc ms hX hY hS hl hag hb hc
  exact lv_ladd hX.1.1 hX.1.2.1 hd (k p l e R s m args below meth c H locs cells slots ls D cd ad ad0 aC A mc ms hX hY hS hl hag hb (hc.pop.pop.push mOk_l))
theorem mK_lsub {Γ : Nat × (Nat → Int32)} {I : mM} {d : Nat} {Q : mQ} {n0 bc bs pc : Nat} {lv : List (Nat × Value)} {st : List Value} {N : Nat} {sh : mH} {σ : mS} {x y : Int64} {pc1 : Nat} (hd : decode I.2.1 pc = .ok (.lsub, 1)) (hp : pc + 1 = pc1)  (k : mK Γ I d Q n0 bc bs (pc1) lv (.long (x - y) :: st) N sh σ) : mK Γ I d Q n0 bc bs (pc) lv (.long y :: .long x :: st) N sh σ := by
  subst hp
  intro p l e R s m args below meth c H locs cells slots ls D cd ad ad0 aC A mc ms hX hY hS hl hag hb hc
  exact lv_lsub hX.1.1 hX.1.2.1 hd (k p l e R s m args below meth c H locs cells slots ls D cd ad ad0 aC A mc ms hX hY hS hl hag hb (hc.pop.pop.push mOk_l))
theorem mK_lmul {Γ : Nat × (Nat → Int32)} {I : mM} {d : Nat} {Q : mQ} {n0 bc bs pc : Nat} {lv : List (Nat × Value)} {st : List Value} {N : Nat} {sh : mH} {σ : mS} {x y : Int64} {pc1 : Nat} (hd : decode I.2.1 pc = .ok (.lmul, 1)) (hp : pc + 1 = pc1)  (k : mK Γ I d Q n0 bc bs (pc1) lv (.long (x * y) :: st) N sh σ) : mK Γ I d Q n0 bc bs (pc) lv (.long y :: .long x :: st) N sh σ := by
  subst hp
  intro p l e R s m args below meth c H locs cells slots ls D cd ad ad0 aC A mc ms hX hY hS hl hag hb hc
  exact lv_lmul hX.1.1 hX.1.2.1 hd (k p l e R s m args below meth c H locs cells slots ls D cd ad ad0 aC A mc ms hX hY hS hl hag hb (hc.pop.pop.push mOk_l))
theorem mK_land {Γ : Nat × (Nat → Int32)} {I : mM} {d : Nat} {Q : mQ} {n0 bc bs pc : Nat} {lv : List (Nat × Value)} {st : List Value} {N : Nat} {sh : mH} {σ : mS} {x y : Int64} {pc1 : Nat} (hd : decode I.2.1 pc = .ok (.land, 1)) (hp : pc + 1 = pc1)  (k : mK Γ I d Q n0 bc bs (pc1) lv (.long (x &&& y) :: st) N sh σ) : mK Γ I d Q n0 bc bs (pc) lv (.long y :: .long x :: st) N sh σ := by
  subst hp
  intro p l e R s m args below meth c H locs cells slots ls D cd ad ad0 aC A mc ms hX hY hS hl hag hb hc
  exact lv_land hX.1.1 hX.1.2.1 hd (k p l e R s m args below meth c H locs cells slots ls D cd ad ad0 aC A mc ms hX hY hS hl hag hb (hc.pop.pop.push mOk_l))
theorem mK_lor {Γ : Nat × (Nat → Int32)} {I : mM} {d : Nat} {Q : mQ} {n0 bc bs pc : Nat} {lv : List (Nat × Value)} {st : List Value} {N : Nat} {sh : mH} {σ : mS} {x y : Int64} {pc1 : Nat} (hd : decode I.2.1 pc = .ok (.lor, 1)) (hp : pc + 1 = pc1)  (k : mK Γ I d Q n0 bc bs (pc1) lv (.long (x ||| y) :: st) N sh σ) : mK Γ I d Q n0 bc bs (pc) lv (.long y :: .long x :: st) N sh σ := by
  subst hp
  intro p l e R s m args below meth c H locs cells slots ls D cd ad ad0 aC A mc ms hX hY hS hl hag hb hc
  exact lv_lor hX.1.1 hX.1.2.1 hd (k p l e R s m args below meth c H locs cells slots ls D cd ad ad0 aC A mc ms hX hY hS hl hag hb (hc.pop.pop.push mOk_l))
theorem mK_lxor {Γ : Nat × (Nat → Int32)} {I : mM} {d : Nat} {Q : mQ} {n0 bc bs pc : Nat} {lv : List (Nat × Value)} {st : List Value} {N : Nat} {sh : mH} {σ : mS} {x y : Int64} {pc1 : Nat} (hd : decode I.2.1 pc = .ok (.lxor, 1)) (hp : pc + 1 = pc1)  (k : mK Γ I d Q n0 bc bs (pc1) lv (.long (x ^^^ y) :: st) N sh σ) : mK Γ I d Q n0 bc bs (pc) lv (.long y :: .long x :: st) N sh σ := by
  subst hp
  intro p l e R s m args below meth c H locs cells slots ls D cd ad ad0 aC A mc ms hX hY hS hl hag hb hc
  exact lv_lxor hX.1.1 hX.1.2.1 hd (k p l e R s m args below meth c H locs cells slots ls D cd ad ad0 aC A mc ms hX hY hS hl hag hb (hc.pop.pop.push mOk_l))
theorem mK_lshl {Γ : Nat × (Nat → Int32)} {I : mM} {d : Nat} {Q : mQ} {n0 bc bs pc : Nat} {lv : List (Nat × Value)} {st : List Value} {N : Nat} {sh : mH} {σ : mS} {x : Int64} {y : Int32} {pc1 : Nat} (hd : decode I.2.1 pc = .ok (.lshl, 1)) (hp : pc + 1 = pc1)  (k : mK Γ I d Q n0 bc bs (pc1) lv (.long (x <<< (y.toInt64 &&& 63)) :: st) N sh σ) : mK Γ I d Q n0 bc bs (pc) lv (.int y :: .long x :: st) N sh σ := by
  subst hp
  intro p l e R s m args below meth c H locs cells slots ls D cd ad ad0 aC A mc ms hX hY hS hl hag hb hc
  exact lv_lshl hX.1.1 hX.1.2.1 hd rfl (k p l e R s m args below meth c H locs cells slots ls D cd ad ad0 aC A mc ms hX hY hS hl hag hb (hc.pop.pop.push mOk_l))
theorem mK_lshr {Γ : Nat × (Nat → Int32)} {I : mM} {d : Nat} {Q : mQ} {n0 bc bs pc : Nat} {lv : List (Nat × Value)} {st : List Value} {N : Nat} {sh : mH} {σ : mS} {x : Int64} {y : Int32} {pc1 : Nat} (hd : decode I.2.1 pc = .ok (.lshr, 1)) (hp : pc + 1 = pc1)  (k : mK Γ I d Q n0 bc bs (pc1) lv (.long (x >>> (y.toInt64 &&& 63)) :: st) N sh σ) : mK Γ I d Q n0 bc bs (pc) lv (.int y :: .long x :: st) N sh σ := by
  subst hp
  intro p l e R s m args below meth c H locs cells slots ls D cd ad ad0 aC A mc ms hX hY hS hl hag hb hc
  exact lv_lshr hX.1.1 hX.1.2.1 hd rfl (k p l e R s m args below meth c H locs cells slots ls D cd ad ad0 aC A mc ms hX hY hS hl hag hb (hc.pop.pop.push mOk_l))
theorem mK_lcmp {Γ : Nat × (Nat → Int32)} {I : mM} {d : Nat} {Q : mQ} {n0 bc bs pc : Nat} {lv : List (Nat × Value)} {st : List Value} {N : Nat} {sh : mH} {σ : mS} {x y : Int64} {pc1 : Nat} (hd : decode I.2.1 pc = .ok (.lcmp, 1)) (hp : pc + 1 = pc1)  (k : mK Γ I d Q n0 bc bs (pc1) lv (.int (lg_cmp x y) :: st) N sh σ) : mK Γ I d Q n0 bc bs (pc) lv (.long y :: .long x :: st) N sh σ := by
  subst hp
  intro p l e R s m args below meth c H locs cells slots ls D cd ad ad0 aC A mc ms hX hY hS hl hag hb hc
  exact W.lcmp hX.1.1 hX.1.2.1 hd (k p l e R s m args below meth c H locs cells slots ls D cd ad ad0 aC A mc ms hX hY hS hl hag hb (hc.pop.pop.push mOk_i))
theorem mK_i2l {Γ : Nat × (Nat → Int32)} {I : mM} {d : Nat} {Q : mQ} {n0 bc bs pc : Nat} {lv : List (Nat × Value)} {st : List Value} {N : Nat} {sh : mH} {σ : mS} {x : Int32} {pc1 : Nat} (hd : decode I.2.1 pc = .ok (.i2l, 1)) (hp : pc + 1 = pc1)  (k : mK Γ I d Q n0 bc bs (pc1) lv (.long x.toInt64 :: st) N sh σ) : mK Γ I d Q n0 bc bs (pc) lv (.int x :: st) N sh σ := by
  subst hp
  intro p l e R s m args below meth c H locs cells slots ls D cd ad ad0 aC A mc ms hX hY hS hl hag hb hc
  exact lv_i2l hX.1.1 hX.1.2.1 hd rfl (k p l e R s m args below meth c H locs cells slots ls D cd ad ad0 aC A mc ms hX hY hS hl hag hb (hc.pop.push mOk_l))
theorem mK_l2i {Γ : Nat × (Nat → Int32)} {I : mM} {d : Nat} {Q : mQ} {n0 bc bs pc : Nat} {lv : List (Nat × Value)} {st : List Value} {N : Nat} {sh : mH} {σ : mS} {x : Int64} {pc1 : Nat} (hd : decode I.2.1 pc = .ok (.l2i, 1)) (hp : pc + 1 = pc1)  (k : mK Γ I d Q n0 bc bs (pc1) lv (.int x.toInt32 :: st) N sh σ) : mK Γ I d Q n0 bc bs (pc) lv (.long x :: st) N sh σ := by
  subst hp
  intro p l e R s m args below meth c H locs cells slots ls D cd ad ad0 aC A mc ms hX hY hS hl hag hb hc
  exact lv_l2i hX.1.1 hX.1.2.1 hd rfl (k p l e R s m args below meth c H locs cells slots ls D cd ad ad0 aC A mc ms hX hY hS hl hag hb (hc.pop.push mOk_i))
theorem mK_i2b {Γ : Nat × (Nat → Int32)} {I : mM} {d : Nat} {Q : mQ} {n0 bc bs pc : Nat} {lv : List (Nat × Value)} {st : List Value} {N : Nat} {sh : mH} {σ : mS} {x : Int32} {pc1 : Nat} (hd : decode I.2.1 pc = .ok (.i2b, 1)) (hp : pc + 1 = pc1)  (k : mK Γ I d Q n0 bc bs (pc1) lv (.int x.toInt8.toInt32 :: st) N sh σ) : mK Γ I d Q n0 bc bs (pc) lv (.int x :: st) N sh σ := by
  subst hp
  intro p l e R s m args below meth c H locs cells slots ls D cd ad ad0 aC A mc ms hX hY hS hl hag hb hc
  exact lv_i2b hX.1.1 hX.1.2.1 hd rfl (k p l e R s m args below meth c H locs cells slots ls D cd ad ad0 aC A mc ms hX hY hS hl hag hb (hc.pop.push mOk_i))
theorem mK_i2d {Γ : Nat × (Nat → Int32)} {I : mM} {d : Nat} {Q : mQ} {n0 bc bs pc : Nat} {lv : List (Nat × Value)} {st : List Value} {N : Nat} {sh : mH} {σ : mS} {x : Int32} {pc1 : Nat} (hd : decode I.2.1 pc = .ok (.i2d, 1)) (hp : pc + 1 = pc1)  (k : mK Γ I d Q n0 bc bs (pc1) lv (.double (FP.i2d x) :: st) N sh σ) : mK Γ I d Q n0 bc bs (pc) lv (.int x :: st) N sh σ := by
  subst hp
  intro p l e R s m args below meth c H locs cells slots ls D cd ad ad0 aC A mc ms hX hY hS hl hag hb hc
  exact lv_i2d hX.1.1 hX.1.2.1 hd (k p l e R s m args below meth c H locs cells slots ls D cd ad ad0 aC A mc ms hX hY hS hl hag hb (hc.pop.push mOk_d))
theorem mK_ddiv {Γ : Nat × (Nat → Int32)} {I : mM} {d : Nat} {Q : mQ} {n0 bc bs pc : Nat} {lv : List (Nat × Value)} {st : List Value} {N : Nat} {sh : mH} {σ : mS} {x y : UInt64} {pc1 : Nat} (hd : decode I.2.1 pc = .ok (.ddiv, 1)) (hp : pc + 1 = pc1) (hne : vf_n64 (FP.ddiv x y)) (k : mK Γ I d Q n0 bc bs (pc1) lv (.double (FP.ddiv x y) :: st) N sh σ) : mK Γ I d Q n0 bc bs (pc) lv (.double y :: .double x :: st) N sh σ := by
  subst hp
  intro p l e R s m args below meth c H locs cells slots ls D cd ad ad0 aC A mc ms hX hY hS hl hag hb hc
  exact lv_ddiv hX.1.1 hX.1.2.1 hd hne (k p l e R s m args below meth c H locs cells slots ls D cd ad ad0 aC A mc ms hX hY hS hl hag hb (hc.pop.pop.push mOk_d))
theorem mK_dcmp {Γ : Nat × (Nat → Int32)} {I : mM} {d : Nat} {Q : mQ} {n0 bc bs pc : Nat} {lv : List (Nat × Value)} {st : List Value} {N : Nat} {sh : mH} {σ : mS} {x y : UInt64} {op : CmpOp} {pc1 : Nat} (hd : decode I.2.1 pc = .ok (.dcmp op, 1)) (hp : pc + 1 = pc1)  (k : mK Γ I d Q n0 bc bs (pc1) lv (.int (Op.cmpValue (FP.dcmp x y) op) :: st) N sh σ) : mK Γ I d Q n0 bc bs (pc) lv (.double y :: .double x :: st) N sh σ := by
  subst hp
  intro p l e R s m args below meth c H locs cells slots ls D cd ad ad0 aC A mc ms hX hY hS hl hag hb hc
  exact lv_dcmp hX.1.1 hX.1.2.1 hd (k p l e R s m args below meth c H locs cells slots ls D cd ad ad0 aC A mc ms hX hY hS hl hag hb (hc.pop.pop.push mOk_i))
theorem mK_dup {Γ : Nat × (Nat → Int32)} {I : mM} {d : Nat} {Q : mQ} {n0 bc bs pc : Nat} {lv : List (Nat × Value)} {st : List Value} {N : Nat} {sh : mH} {σ : mS} {v : Value} {pc1 : Nat} (hd : decode I.2.1 pc = .ok (.dup, 1)) (hp : pc + 1 = pc1) (hv : v.category = 1) (k : mK Γ I d Q n0 bc bs (pc1) lv (v :: v :: st) N sh σ) : mK Γ I d Q n0 bc bs (pc) lv (v :: st) N sh σ := by
  subst hp
  intro p l e R s m args below meth c H locs cells slots ls D cd ad ad0 aC A mc ms hX hY hS hl hag hb hc
  exact lv_dup hX.1.1 hX.1.2.1 hd ((mV_cat v).trans hv) (k p l e R s m args below meth c H locs cells slots ls D cd ad ad0 aC A mc ms hX hY hS hl hag hb (hc.push hc.top))
theorem mK_dup2 {Γ : Nat × (Nat → Int32)} {I : mM} {d : Nat} {Q : mQ} {n0 bc bs pc : Nat} {lv : List (Nat × Value)} {st : List Value} {N : Nat} {sh : mH} {σ : mS} {v w : Value} {pc1 : Nat} (hd : decode I.2.1 pc = .ok (.dup2, 1)) (hp : pc + 1 = pc1) (hv : v.category = 1) (hw : w.category = 1) (k : mK Γ I d Q n0 bc bs (pc1) lv (v :: w :: v :: w :: st) N sh σ) : mK Γ I d Q n0 bc bs (pc) lv (v :: w :: st) N sh σ := by
  subst hp
  intro p l e R s m args below meth c H locs cells slots ls D cd ad ad0 aC A mc ms hX hY hS hl hag hb hc
  exact lv_dup2_11 hX.1.1 hX.1.2.1 hd ((mV_cat v).trans hv) ((mV_cat w).trans hw) (k p l e R s m args below meth c H locs cells slots ls D cd ad ad0 aC A mc ms hX hY hS hl hag hb ((hc.push hc.pop.top).push hc.top))
theorem mK_pop {Γ : Nat × (Nat → Int32)} {I : mM} {d : Nat} {Q : mQ} {n0 bc bs pc : Nat} {lv : List (Nat × Value)} {st : List Value} {N : Nat} {sh : mH} {σ : mS} {v : Value} {pc1 : Nat} (hd : decode I.2.1 pc = .ok (.pop, 1)) (hp : pc + 1 = pc1) (hv : v.category = 1) (k : mK Γ I d Q n0 bc bs (pc1) lv (st) N sh σ) : mK Γ I d Q n0 bc bs (pc) lv (v :: st) N sh σ := by
  subst hp
  intro p l e R s m args below meth c H locs cells slots ls D cd ad ad0 aC A mc ms hX hY hS hl hag hb hc
  exact lv_pop hX.1.1 hX.1.2.1 hd ((mV_cat v).trans hv) (k p l e R s m args below meth c H locs cells slots ls D cd ad ad0 aC A mc ms hX hY hS hl hag hb hc.pop)
theorem mK_if_eq {Γ : Nat × (Nat → Int32)} {I : mM} {d : Nat} {Q : mQ} {n0 bc bs pc : Nat} {lv : List (Nat × Value)} {st : List Value} {N : Nat} {sh : mH} {σ : mS} {off : Int} {tgt : Nat} {x : Int32} {pc1 : Nat} (hd : decode I.2.1 pc = .ok (.ifCond .eq off, 3)) (hp : pc + 3 = pc1) (ht : (pc : Int) + off = (tgt : Int)) (kt : x = 0 → mK Γ I d Q n0 bc bs (tgt) lv (st) N sh σ) (kf : ¬ (x = 0) → mK Γ I d Q n0 bc bs (pc1) lv (st) N sh σ) : mK Γ I d Q n0 bc bs (pc) lv (.int x :: st) N sh σ := by
  subst hp
  intro p l e R s m args below meth c H locs cells slots ls D cd ad ad0 aC A mc ms hX hY hS hl hag hb hc
  exact lv_if_eq hX.1.1 hX.1.2.1 hd ht (fun q => kt (by simpa using q) p l e R s m args below meth c H locs cells slots ls D cd ad ad0 aC A mc ms hX hY hS hl hag hb hc.pop) (fun q => kf (by simpa using q) p l e R s m args below meth c H locs cells slots ls D cd ad ad0 aC A mc ms hX hY hS hl hag hb hc.pop)
theorem mK_icmp_eq {Γ : Nat × (Nat → Int32)} {I : mM} {d : Nat} {Q : mQ} {n0 bc bs pc : Nat} {lv : List (Nat × Value)} {st : List Value} {N : Nat} {sh : mH} {σ : mS} {off : Int} {tgt : Nat} {x y : Int32} {pc1 : Nat} (hd : decode I.2.1 pc = .ok (.if_icmp .eq off, 3)) (hp : pc + 3 = pc1) (ht : (pc : Int) + off = (tgt : Int)) (kt : x = y → mK Γ I d Q n0 bc bs (tgt) lv (st) N sh σ) (kf : ¬ (x = y) → mK Γ I d Q n0 bc bs (pc1) lv (st) N sh σ) : mK Γ I d Q n0 bc bs (pc) lv (.int y :: .int x :: st) N sh σ := by
  subst hp
  intro p l e R s m args below meth c H locs cells slots ls D cd ad ad0 aC A mc ms hX hY hS hl hag hb hc
  exact lv_icmp_eq hX.1.1 hX.1.2.1 hd ht (fun q => kt (by simpa using q) p l e R s m args below meth c H locs cells slots ls D cd ad ad0 aC A mc ms hX hY hS hl hag hb hc.pop.pop) (fun q => kf (by simpa using q) p l e R s m args below meth c H locs cells slots ls D cd ad ad0 aC A mc ms hX hY hS hl hag hb hc.pop.pop)
theorem mK_if_ne {Γ : Nat × (Nat → Int32)} {I : mM} {d : Nat} {Q : mQ} {n0 bc bs pc : Nat} {lv : List (Nat × Value)} {st : List Value} {N : Nat} {sh : mH} {σ : mS} {off : Int} {tgt : Nat} {x : Int32} {pc1 : Nat} (hd : decode I.2.1 pc = .ok (.ifCond .ne off, 3)) (hp : pc + 3 = pc1) (ht : (pc : Int) + off = (tgt : Int)) (kt : ¬ x = 0 → mK Γ I d Q n0 bc bs (tgt) lv (st) N sh σ) (kf : ¬ (¬ x = 0) → mK Γ I d Q n0 bc bs (pc1) lv (st) N sh σ) : mK Γ I d Q n0 bc bs (pc) lv (.int x :: st) N sh σ := by
  subst hp
  intro p l e R s m args below meth c H locs cells slots ls D cd ad ad0 aC A mc ms hX hY hS hl hag hb hc
  exact lv_if_ne hX.1.1 hX.1.2.1 hd ht (fun q => kt (by simpa using q) p l e R s m args below meth c H locs cells slots ls D cd ad ad0 aC A mc ms hX hY hS hl hag hb hc.pop) (fun q => kf (by simpa using q) p l e R s m args below meth c H locs cells slots ls D cd ad ad0 aC A mc ms hX hY hS hl hag hb hc.pop)
theorem mK_icmp_ne {Γ : Nat × (Nat → Int32)} {I : mM} {d : Nat} {Q : mQ} {n0 bc bs pc : Nat} {lv : List (Nat × Value)} {st : List Value} {N : Nat} {sh : mH} {σ : mS} {off : Int} {tgt : Nat} {x y : Int32} {pc1 : Nat} (hd : decode I.2.1 pc = .ok (.if_icmp .ne off, 3)) (hp : pc + 3 = pc1) (ht : (pc : Int) + off = (tgt : Int)) (kt : ¬ x = y → mK Γ I d Q n0 bc bs (tgt) lv (st) N sh σ) (kf : ¬ (¬ x = y) → mK Γ I d Q n0 bc bs (pc1) lv (st) N sh σ) : mK Γ I d Q n0 bc bs (pc) lv (.int y :: .int x :: st) N sh σ := by
  subst hp
  intro p l e R s m args below meth c H locs cells slots ls D cd ad ad0 aC A mc ms hX hY hS hl hag hb hc
  exact lv_icmp_ne hX.1.1 hX.1.2.1 hd ht (fun q => kt (by simpa using q) p l e R s m args below meth c H locs cells slots ls D cd ad ad0 aC A mc ms hX hY hS hl hag hb hc.pop.pop) (fun q => kf (by simpa using q) p l e R s m args below meth c H locs cells slots ls D cd ad ad0 aC A mc ms hX hY hS hl hag hb hc.pop.pop)
theorem mK_if_lt {Γ : Nat × (Nat → Int32)} {I : mM} {d : Nat} {Q : mQ} {n0 bc bs pc : Nat} {lv : List (Nat × Value)} {st : List Value} {N : Nat} {sh : mH} {σ : mS} {off : Int} {tgt : Nat} {x : Int32} {pc1 : Nat} (hd : decode I.2.1 pc = .ok (.ifCond .lt off, 3)) (hp : pc + 3 = pc1) (ht : (pc : Int) + off = (tgt : Int)) (kt : x < 0 → mK Γ I d Q n0 bc bs (tgt) lv (st) N sh σ) (kf : ¬ (x < 0) → mK Γ I d Q n0 bc bs (pc1) lv (st) N sh σ) : mK Γ I d Q n0 bc bs (pc) lv (.int x :: st) N sh σ := by
  subst hp
  intro p l e R s m args below meth c H locs cells slots ls D cd ad ad0 aC A mc ms hX hY hS hl hag hb hc
  exact lv_if_lt hX.1.1 hX.1.2.1 hd ht (fun q => kt (by simpa using q) p l e R s m args below meth c H locs cells slots ls D cd ad ad0 aC A mc ms hX hY hS hl hag hb hc.pop) (fun q => kf (by simpa using q) p l e R s m args below meth c H locs cells slots ls D cd ad ad0 aC A mc ms hX hY hS hl hag hb hc.pop)
theorem mK_icmp_lt {Γ : Nat × (Nat → Int32)} {I : mM} {d : Nat} {Q : mQ} {n0 bc bs pc : Nat} {lv : List (Nat × Value)} {st : List Value} {N : Nat} {sh : mH} {σ : mS} {off : Int} {tgt : Nat} {x y : Int32} {pc1 : Nat} (hd : decode I.2.1 pc = .ok (.if_icmp .lt off, 3)) (hp : pc + 3 = pc1) (ht : (pc : Int) + off = (tgt : Int)) (kt : x < y → mK Γ I d Q n0 bc bs (tgt) lv (st) N sh σ) (kf : ¬ (x < y) → mK Γ I d Q n0 bc bs (pc1) lv (st) N sh σ) : mK Γ I d Q n0 bc bs (pc) lv (.int y :: .int x :: st) N sh σ := by
  subst hp
  intro p l e R s m args below meth c H locs cells slots ls D cd ad ad0 aC A mc ms hX hY hS hl hag hb hc
  exact lv_icmp_lt hX.1.1 hX.1.2.1 hd ht (fun q => kt (by simpa using q) p l e R s m args below meth c H locs cells slots ls D cd ad ad0 aC A mc ms hX hY hS hl hag hb hc.pop.pop) (fun q => kf (by simpa using q) p l e R s m args below meth c H locs cells slots ls D cd ad ad0 aC A mc ms hX hY hS hl hag hb hc.pop.pop)
theorem mK_if_ge {Γ : Nat × (Nat → Int32)} {I : mM} {d : Nat} {Q : mQ} {n0 bc bs pc : Nat} {lv : List (Nat × Value)} {st : List Value} {N : Nat} {sh : mH} {σ : mS} {off : Int} {tgt : Nat} {x : Int32} {pc1 : Nat} (hd : decode I.2.1 pc = .ok (.ifCond .ge off, 3)) (hp : pc + 3 = pc1) (ht : (pc : Int) + off = (tgt : Int)) (kt : 0 ≤ x → mK Γ I d Q n0 bc bs (tgt) lv (st) N sh σ) (kf : ¬ (0 ≤ x) → mK Γ I d Q n0 bc bs (pc1) lv (st) N sh σ) : mK Γ I d Q n0 bc bs (pc) lv (.int x :: st) N sh σ := by
  subst hp
  intro p l e R s m args below meth c H locs cells slots ls D cd ad ad0 aC A mc ms hX hY hS hl hag hb hc
  exact lv_if_ge hX.1.1 hX.1.2.1 hd ht (fun q => kt (by simpa using q) p l e R s m args below meth c H locs cells slots ls D cd ad ad0 aC A mc ms hX hY hS hl hag hb hc.pop) (fun q => kf (by simpa using q) p l e R s m args below meth c H locs cells slots ls D cd ad ad0 aC A mc ms hX hY hS hl hag hb hc.pop)
theorem mK_icmp_ge {Γ : Nat × (Nat → Int32)} {I : mM} {d : Nat} {Q : mQ} {n0 bc bs pc : Nat} {lv : List (Nat × Value)} {st : List Value} {N : Nat} {sh : mH} {σ : mS} {off : Int} {tgt : Nat} {x y : Int32} {pc1 : Nat} (hd : decode I.2.1 pc = .ok (.if_icmp .ge off, 3)) (hp : pc + 3 = pc1) (ht : (pc : Int) + off = (tgt : Int)) (kt : y ≤ x → mK Γ I d Q n0 bc bs (tgt) lv (st) N sh σ) (kf : ¬ (y ≤ x) → mK Γ I d Q n0 bc bs (pc1) lv (st) N sh σ) : mK Γ I d Q n0 bc bs (pc) lv (.int y :: .int x :: st) N sh σ := by
  subst hp
  intro p l e R s m args below meth c H locs cells slots ls D cd ad ad0 aC A mc ms hX hY hS hl hag hb hc
  exact lv_icmp_ge hX.1.1 hX.1.2.1 hd ht (fun q => kt (by simpa using q) p l e R s m args below meth c H locs cells slots ls D cd ad ad0 aC A mc ms hX hY hS hl hag hb hc.pop.pop) (fun q => kf (by simpa using q) p l e R s m args below meth c H locs cells slots ls D cd ad ad0 aC A mc ms hX hY hS hl hag hb hc.pop.pop)
theorem mK_if_gt {Γ : Nat × (Nat → Int32)} {I : mM} {d : Nat} {Q : mQ} {n0 bc bs pc : Nat} {lv : List (Nat × Value)} {st : List Value} {N : Nat} {sh : mH} {σ : mS} {off : Int} {tgt : Nat} {x : Int32} {pc1 : Nat} (hd : decode I.2.1 pc = .ok (.ifCond .gt off, 3)) (hp : pc + 3 = pc1) (ht : (pc : Int) + off = (tgt : Int)) (kt : 0 < x → mK Γ I d Q n0 bc bs (tgt) lv (st) N sh σ) (kf : ¬ (0 < x) → mK Γ I d Q n0 bc bs (pc1) lv (st) N sh σ) : mK Γ I d Q n0 bc bs (pc) lv (.int x :: st) N sh σ := by
  subst hp
  intro p l e R s m args below meth c H locs cells slots ls D cd ad ad0 aC A mc ms hX hY hS hl hag hb hc
  exact lv_if_gt hX.1.1 hX.1.2.1 hd ht (fun q => kt (by simpa using q) p l e R s m args below meth c H locs cells slots ls D cd ad ad0 aC A mc ms hX hY hS hl hag hb hc.pop) (fun q => kf (by simpa using q) p l e R s m args below meth c H locs cells slots ls D cd ad ad0 aC A mc ms hX hY hS hl hag hb hc.pop)
theorem mK_icmp_gt {Γ : Nat × (Nat → Int32)} {I : mM} {d : Nat} {Q : mQ} {n0 bc bs pc : Nat} {lv : List (Nat × Value)} {st : List Value} {N : Nat} {sh : mH} {σ : mS} {off : Int} {tgt : Nat} {x y : Int32} {pc1 : Nat} (hd : decode I.2.1 pc = .ok (.if_icmp .gt off, 3)) (hp : pc + 3 = pc1) (ht : (pc : Int) + off = (tgt : Int)) (kt : y < x → mK Γ I d Q n0 bc bs (tgt) lv (st) N sh σ) (kf : ¬ (y < x) → mK Γ I d Q n0 bc bs (pc1) lv (st) N sh σ) : mK Γ I d Q n0 bc bs (pc) lv (.int y :: .int x :: st) N sh σ := by
  subst hp
  intro p l e R s m args below meth c H locs cells slots ls D cd ad ad0 aC A mc ms hX hY hS hl hag hb hc
  exact lv_icmp_gt hX.1.1 hX.1.2.1 hd ht (fun q => kt (by simpa using q) p l e R s m args below meth c H locs cells slots ls D cd ad ad0 aC A mc ms hX hY hS hl hag hb hc.pop.pop) (fun q => kf (by simpa using q) p l e R s m args below meth c H locs cells slots ls D cd ad ad0 aC A mc ms hX hY hS hl hag hb hc.pop.pop)
theorem mK_if_le {Γ : Nat × (Nat → Int32)} {I : mM} {d : Nat} {Q : mQ} {n0 bc bs pc : Nat} {lv : List (Nat × Value)} {st : List Value} {N : Nat} {sh : mH} {σ : mS} {off : Int} {tgt : Nat} {x : Int32} {pc1 : Nat} (hd : decode I.2.1 pc = .ok (.ifCond .le off, 3)) (hp : pc + 3 = pc1) (ht : (pc : Int) + off = (tgt : Int)) (kt : x ≤ 0 → mK Γ I d Q n0 bc bs (tgt) lv (st) N sh σ) (kf : ¬ (x ≤ 0) → mK Γ I d Q n0 bc bs (pc1) lv (st) N sh σ) : mK Γ I d Q n0 bc bs (pc) lv (.int x :: st) N sh σ := by
  subst hp
  intro p l e R s m args below meth c H locs cells slots ls D cd ad ad0 aC A mc ms hX hY hS hl hag hb hc
  exact lv_if_le hX.1.1 hX.1.2.1 hd ht (fun q => kt (by simpa using q) p l e R s m args below meth c H locs cells slots ls D cd ad ad0 aC A mc ms hX hY hS hl hag hb hc.pop) (fun q => kf (by simpa using q) p l e R s m args below meth c H locs cells slots ls D cd ad ad0 aC A mc ms hX hY hS hl hag hb hc.pop)
theorem mK_icmp_le {Γ : Nat × (Nat → Int32)} {I : mM} {d : Nat} {Q : mQ} {n0 bc bs pc : Nat} {lv : List (Nat × Value)} {st : List Value} {N : Nat} {sh : mH} {σ : mS} {off : Int} {tgt : Nat} {x y : Int32} {pc1 : Nat} (hd : decode I.2.1 pc = .ok (.if_icmp .le off, 3)) (hp : pc + 3 = pc1) (ht : (pc : Int) + off = (tgt : Int)) (kt : x ≤ y → mK Γ I d Q n0 bc bs (tgt) lv (st) N sh σ) (kf : ¬ (x ≤ y) → mK Γ I d Q n0 bc bs (pc1) lv (st) N sh σ) : mK Γ I d Q n0 bc bs (pc) lv (.int y :: .int x :: st) N sh σ := by
  subst hp
  intro p l e R s m args below meth c H locs cells slots ls D cd ad ad0 aC A mc ms hX hY hS hl hag hb hc
  exact lv_icmp_le hX.1.1 hX.1.2.1 hd ht (fun q => kt (by simpa using q) p l e R s m args below meth c H locs cells slots ls D cd ad ad0 aC A mc ms hX hY hS hl hag hb hc.pop.pop) (fun q => kf (by simpa using q) p l e R s m args below meth c H locs cells slots ls D cd ad ad0 aC A mc ms hX hY hS hl hag hb hc.pop.pop)
theorem mK_goto {Γ : Nat × (Nat → Int32)} {I : mM} {d : Nat} {Q : mQ} {n0 bc bs pc : Nat} {lv : List (Nat × Value)} {st : List Value} {N : Nat} {sh : mH} {σ : mS} {off : Int} {tgt : Nat} (hd : decode I.2.1 pc = .ok (.goto off, 3)) (ht : (pc : Int) + off = (tgt : Int)) (k : mK Γ I d Q n0 bc bs (tgt) lv (st) N sh σ) : mK Γ I d Q n0 bc bs (pc) lv (st) N sh σ := by
  intro p l e R s m args below meth c H locs cells slots ls D cd ad ad0 aC A mc ms hX hY hS hl hag hb hc
  exact lv_goto hX.1.1 hX.1.2.1 hd ht (k p l e R s m args below meth c H locs cells slots ls D cd ad ad0 aC A mc ms hX hY hS hl hag hb hc)
theorem mK_tabIn {Γ : Nat × (Nat → Int32)} {I : mM} {d : Nat} {Q : mQ} {n0 bc bs pc : Nat} {lv : List (Nat × Value)} {st : List Value} {N : Nat} {sh : mH} {σ : mS} {dflt lo hi off : Int} {offs : Array Int} {len tgt : Nat} {x : Int32} (hd : decode I.2.1 pc = .ok (.tableswitch dflt lo hi offs, len)) (h1 : ¬ x.toInt < lo) (h2 : ¬ hi < x.toInt) (ho : offs[(x.toInt - lo).toNat]? = some off) (ht : (pc : Int) + off = (tgt : Int)) (k : mK Γ I d Q n0 bc bs (tgt) lv (st) N sh σ) : mK Γ I d Q n0 bc bs (pc) lv (.int x :: st) N sh σ := by
  intro p l e R s m args below meth c H locs cells slots ls D cd ad ad0 aC A mc ms hX hY hS hl hag hb hc
  exact lv_tableIn hX.1.1 hX.1.2.1 hd h1 h2 ho ht (k p l e R s m args below meth c H locs cells slots ls D cd ad ad0 aC A mc ms hX hY hS hl hag hb hc.pop)
theorem mK_tabOut {Γ : Nat × (Nat → Int32)} {I : mM} {d : Nat} {Q : mQ} {n0 bc bs pc : Nat} {lv : List (Nat × Value)} {st : List Value} {N : Nat} {sh : mH} {σ : mS} {dflt lo hi : Int} {offs : Array Int} {len tgt : Nat} {x : Int32} (hd : decode I.2.1 pc = .ok (.tableswitch dflt lo hi offs, len)) (h : x.toInt < lo ∨ hi < x.toInt) (ht : (pc : Int) + dflt = (tgt : Int)) (k : mK Γ I d Q n0 bc bs (tgt) lv (st) N sh σ) : mK Γ I d Q n0 bc bs (pc) lv (.int x :: st) N sh σ := by
  intro p l e R s m args below meth c H locs cells slots ls D cd ad ad0 aC A mc ms hX hY hS hl hag hb hc
  exact lv_tableOut hX.1.1 hX.1.2.1 hd h ht (k p l e R s m args below meth c H locs cells slots ls D cd ad ad0 aC A mc ms hX hY hS hl hag hb hc.pop)
