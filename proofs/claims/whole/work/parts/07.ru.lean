theorem ru_istore_n {Γ : Nat × (Nat → Int32)} {I : mM} {d : Nat} {Q : mQ} {n0 bc bs pc pc1 : Nat} {lv lv1 : List (Nat × Value)} {st : List Value} {N : Nat} {sh : mH} {σ : mS} {n : Fin 4} {i : Nat} {x : Int32} (hd : decode I.2.1 pc = .ok (.istore_n n, 1)) (hp : pc + 1 = pc1) (hi : (n : Nat) = i) (hn : i < I.2.2.1) (he : mS1 i (.int x) lv = lv1) (k : mK Γ I d Q n0 bc bs (pc1) lv1 (st) N sh σ) : mK Γ I d Q n0 bc bs (pc) lv (.int x :: st) N sh σ := mK_istore_n hd hp hi hn (by rw [he]; exact k)
theorem ru_istore {Γ : Nat × (Nat → Int32)} {I : mM} {d : Nat} {Q : mQ} {n0 bc bs pc pc1 : Nat} {lv lv1 : List (Nat × Value)} {st : List Value} {N : Nat} {sh : mH} {σ : mS} {i : Nat} {x : Int32} (hd : decode I.2.1 pc = .ok (.istore i, 2)) (hp : pc + 2 = pc1) (hn : i < I.2.2.1) (he : mS1 i (.int x) lv = lv1) (k : mK Γ I d Q n0 bc bs (pc1) lv1 (st) N sh σ) : mK Γ I d Q n0 bc bs (pc) lv (.int x :: st) N sh σ := mK_istore hd hp hn (by rw [he]; exact k)
theorem ru_lstore_n {Γ : Nat × (Nat → Int32)} {I : mM} {d : Nat} {Q : mQ} {n0 bc bs pc pc1 : Nat} {lv lv1 : List (Nat × Value)} {st : List Value} {N : Nat} {sh : mH} {σ : mS} {n : Fin 4} {i : Nat} {x : Int64} (hd : decode I.2.1 pc = .ok (.lstore_n n, 1)) (hp : pc + 1 = pc1) (hi : (n : Nat) = i) (hn : i + 1 < I.2.2.1) (he : mS2 i (.long x) lv = lv1) (k : mK Γ I d Q n0 bc bs (pc1) lv1 (st) N sh σ) : mK Γ I d Q n0 bc bs (pc) lv (.long x :: st) N sh σ := mK_lstore_n hd hp hi hn (by rw [he]; exact k)
theorem ru_lstore {Γ : Nat × (Nat → Int32)} {I : mM} {d : Nat} {Q : mQ} {n0 bc bs pc pc1 : Nat} {lv lv1 : List (Nat × Value)} {st : List Value} {N : Nat} {sh : mH} {σ : mS} {i : Nat} {x : Int64} (hd : decode I.2.1 pc = .ok (.lstore i, 2)) (hp : pc + 2 = pc1) (hn : i + 1 < I.2.2.1) (he : mS2 i (.long x) lv = lv1) (k : mK Γ I d Q n0 bc bs (pc1) lv1 (st) N sh σ) : mK Γ I d Q n0 bc bs (pc) lv (.long x :: st) N sh σ := mK_lstore hd hp hn (by rw [he]; exact k)
theorem ru_astore_n {Γ : Nat × (Nat → Int32)} {I : mM} {d : Nat} {Q : mQ} {n0 bc bs pc pc1 : Nat} {lv lv1 : List (Nat × Value)} {st : List Value} {N : Nat} {sh : mH} {σ : mS} {n : Fin 4} {i : Nat} {x : Nat} (hd : decode I.2.1 pc = .ok (.astore_n n, 1)) (hp : pc + 1 = pc1) (hi : (n : Nat) = i) (hn : i < I.2.2.1) (he : mS1 i (.ref x) lv = lv1) (k : mK Γ I d Q n0 bc bs (pc1) lv1 (st) N sh σ) : mK Γ I d Q n0 bc bs (pc) lv (.ref x :: st) N sh σ := mK_astore_n hd hp hi hn (by rw [he]; exact k)
theorem ru_astore {Γ : Nat × (Nat → Int32)} {I : mM} {d : Nat} {Q : mQ} {n0 bc bs pc pc1 : Nat} {lv lv1 : List (Nat × Value)} {st : List Value} {N : Nat} {sh : mH} {σ : mS} {i : Nat} {x : Nat} (hd : decode I.2.1 pc = .ok (.astore i, 2)) (hp : pc + 2 = pc1) (hn : i < I.2.2.1) (he : mS1 i (.ref x) lv = lv1) (k : mK Γ I d Q n0 bc bs (pc1) lv1 (st) N sh σ) : mK Γ I d Q n0 bc bs (pc) lv (.ref x :: st) N sh σ := mK_astore hd hp hn (by rw [he]; exact k)
theorem ru_dstore_n {Γ : Nat × (Nat → Int32)} {I : mM} {d : Nat} {Q : mQ} {n0 bc bs pc pc1 : Nat} {lv lv1 : List (Nat × Value)} {st : List Value} {N : Nat} {sh : mH} {σ : mS} {n : Fin 4} {i : Nat} {x : UInt64} (hd : decode I.2.1 pc = .ok (.dstore_n n, 1)) (hp : pc + 1 = pc1) (hi : (n : Nat) = i) (hn : i + 1 < I.2.2.1) (he : mS2 i (.double x) lv = lv1) (k : mK Γ I d Q n0 bc bs (pc1) lv1 (st) N sh σ) : mK Γ I d Q n0 bc bs (pc) lv (.double x :: st) N sh σ := mK_dstore_n hd hp hi hn (by rw [he]; exact k)
theorem ru_dstore {Γ : Nat × (Nat → Int32)} {I : mM} {d : Nat} {Q : mQ} {n0 bc bs pc pc1 : Nat} {lv lv1 : List (Nat × Value)} {st : List Value} {N : Nat} {sh : mH} {σ : mS} {i : Nat} {x : UInt64} (hd : decode I.2.1 pc = .ok (.dstore i, 2)) (hp : pc + 2 = pc1) (hn : i + 1 < I.2.2.1) (he : mS2 i (.double x) lv = lv1) (k : mK Γ I d Q n0 bc bs (pc1) lv1 (st) N sh σ) : mK Γ I d Q n0 bc bs (pc) lv (.double x :: st) N sh σ := mK_dstore hd hp hn (by rw [he]; exact k)
theorem ru_iinc {Γ : Nat × (Nat → Int32)} {I : mM} {d : Nat} {Q : mQ} {n0 bc bs pc pc1 : Nat} {lv lv1 : List (Nat × Value)} {st : List Value} {N : Nat} {sh : mH} {σ : mS} {i : Nat} {n : Int} {x c : Int32} (hd : decode I.2.1 pc = .ok (.iinc i n, 3)) (hp : pc + 3 = pc1) (hm : (i, Value.int x) ∈ lv) (hv : Int32.ofInt n = c) (hn : i < I.2.2.1) (he : mS1 i (.int (x + c)) lv = lv1) (k : mK Γ I d Q n0 bc bs (pc1) lv1 (st) N sh σ) : mK Γ I d Q n0 bc bs (pc) lv (st) N sh σ := mK_iinc hd hp hm (by rw [hv]) hn (by rw [he]; exact k)
def mTc : FieldType → Nat := fun ty => match ty with
  | .int => 0
  | .long => 1
  | .boolean => 2
  | .object _ => 3
  | .array _ => 3
  | _ => 9
def mGk (N : Nat) (sh : mH) (j ci k tc : Nat) : Bool := Nat.blt j N && (Nat.beq (sh j).1 ci && (Nat.blt ci 9 && (Nat.blt k (mCN ci) && Nat.beq (mTc (mTF ci k)) tc)))
theorem mGk_sp {N : Nat} {sh : mH} {j ci k tc : Nat} (h : mGk N sh j ci k tc = true) : j < N ∧ (sh j).1 = ci ∧ ci < 9 ∧ k < mCN ci ∧ mTc (mTF ci k) = tc := by
  simp only [mGk, Bool.and_eq_true] at h
  exact ⟨Nat.le_of_ble_eq_true h.1, Nat.eq_of_beq_eq_true h.2.1, Nat.le_of_ble_eq_true h.2.2.1, Nat.le_of_ble_eq_true h.2.2.2.1, Nat.eq_of_beq_eq_true h.2.2.2.2⟩
theorem mTc_i {ty : FieldType} (h : mTc ty = 0) : ty = .int := by cases ty <;> first | rfl | (simp [mTc] at h)
theorem mTc_l {ty : FieldType} (h : mTc ty = 1) : ty = .long := by cases ty <;> first | rfl | (simp [mTc] at h)
theorem mTc_z {ty : FieldType} (h : mTc ty = 2) : ty = .boolean := by cases ty <;> first | rfl | (simp [mTc] at h)
theorem mTc_r {ty : FieldType} (h : mTc ty = 3) : mRefTy ty = true := by cases ty <;> first | rfl | (simp [mTc] at h)
def mAk (N : Nat) (sh : mH) (j t n : Nat) : Bool := Nat.blt j N && (Nat.beq (sh j).1 (100 + t) && Nat.beq (sh j).2.1 n)
theorem mAk_sp {N : Nat} {sh : mH} {j t n : Nat} (h : mAk N sh j t n = true) : j < N ∧ (sh j).1 = 100 + t ∧ (sh j).2.1 = n := by
  simp only [mAk, Bool.and_eq_true] at h
  exact ⟨Nat.le_of_ble_eq_true h.1, Nat.eq_of_beq_eq_true h.2.1, Nat.eq_of_beq_eq_true h.2.2⟩
theorem ru_getI {Γ : Nat × (Nat → Int32)} {I : mM} {d : Nat} {Q : mQ} {n0 bc bs pc pc1 : Nat} {lv : List (Nat × Value)} {st : List Value} {N : Nat} {sh : mH} {σ : mS} {n j k ci : Nat} (hd : decode I.2.1 pc = .ok (.getfield n, 3)) (hp : pc + 3 = pc1) (hs : mGk N sh j ci k 0 = true) (hw : Cond.fieldLink I.1.cls n (mCT ci k).1 (mCT ci k).2.1 (mCT ci k).2.2.1 ∈ mBig) (k0 : mK Γ I d Q n0 bc bs (pc1) lv (.int (σ.1 j k) :: st) N sh σ) : mK Γ I d Q n0 bc bs (pc) lv (.ref j :: st) N sh σ := by
  obtain ⟨h1, h2, h3, h4, h5⟩ := mGk_sp hs
  subst h2
  refine mK_get hd hp h1 h3 h4 hw ?_
  rw [mTc_i h5]
  exact k0
theorem ru_getZ {Γ : Nat × (Nat → Int32)} {I : mM} {d : Nat} {Q : mQ} {n0 bc bs pc pc1 : Nat} {lv : List (Nat × Value)} {st : List Value} {N : Nat} {sh : mH} {σ : mS} {n j k ci : Nat} (hd : decode I.2.1 pc = .ok (.getfield n, 3)) (hp : pc + 3 = pc1) (hs : mGk N sh j ci k 2 = true) (hw : Cond.fieldLink I.1.cls n (mCT ci k).1 (mCT ci k).2.1 (mCT ci k).2.2.1 ∈ mBig) (k0 : mK Γ I d Q n0 bc bs (pc1) lv (.int (σ.1 j k) :: st) N sh σ) : mK Γ I d Q n0 bc bs (pc) lv (.ref j :: st) N sh σ := by
  obtain ⟨h1, h2, h3, h4, h5⟩ := mGk_sp hs
  subst h2
  refine mK_get hd hp h1 h3 h4 hw ?_
  rw [mTc_z h5]
  exact k0
theorem ru_getL {Γ : Nat × (Nat → Int32)} {I : mM} {d : Nat} {Q : mQ} {n0 bc bs pc pc1 : Nat} {lv : List (Nat × Value)} {st : List Value} {N : Nat} {sh : mH} {σ : mS} {n j k ci : Nat} (hd : decode I.2.1 pc = .ok (.getfield n, 3)) (hp : pc + 3 = pc1) (hs : mGk N sh j ci k 1 = true) (hw : Cond.fieldLink I.1.cls n (mCT ci k).1 (mCT ci k).2.1 (mCT ci k).2.2.1 ∈ mBig) (k0 : mK Γ I d Q n0 bc bs (pc1) lv (.long (σ.2.1 j k) :: st) N sh σ) : mK Γ I d Q n0 bc bs (pc) lv (.ref j :: st) N sh σ := by
  obtain ⟨h1, h2, h3, h4, h5⟩ := mGk_sp hs
  subst h2
  refine mK_get hd hp h1 h3 h4 hw ?_
  rw [mTc_l h5]
  exact k0
theorem ru_getR {Γ : Nat × (Nat → Int32)} {I : mM} {d : Nat} {Q : mQ} {n0 bc bs pc pc1 : Nat} {lv : List (Nat × Value)} {st : List Value} {N : Nat} {sh : mH} {σ : mS} {n j k ci a : Nat} (hd : decode I.2.1 pc = .ok (.getfield n, 3)) (hp : pc + 3 = pc1) (hs : mGk N sh j ci k 3 = true) (hr : (sh j).2.2 k = some a) (hw : Cond.fieldLink I.1.cls n (mCT ci k).1 (mCT ci k).2.1 (mCT ci k).2.2.1 ∈ mBig) (k0 : mK Γ I d Q n0 bc bs (pc1) lv (.ref a :: st) N sh σ) : mK Γ I d Q n0 bc bs (pc) lv (.ref j :: st) N sh σ := by
  obtain ⟨h1, h2, h3, h4, h5⟩ := mGk_sp hs
  subst h2
  refine mK_get hd hp h1 h3 h4 hw ?_
  have h6 := mTc_r h5
  have h7 : mG σ (sh j) j k (mTF (sh j).1 k) = .ref a := by
    cases q : mTF (sh j).1 k <;> rw [q] at h6 <;> first | (cases h6; done) | simp [mG, hr, va_rf]
  rw [h7]
  exact k0
theorem ru_putI {Γ : Nat × (Nat → Int32)} {I : mM} {d : Nat} {Q : mQ} {n0 bc bs pc pc1 : Nat} {lv : List (Nat × Value)} {st : List Value} {N : Nat} {sh : mH} {σ : mS} {n j k ci : Nat} {x : Int32} (hd : decode I.2.1 pc = .ok (.putfield n, 3)) (hp : pc + 3 = pc1) (hs : mGk N sh j ci k 0 = true) (hf : (mCT ci k).2.2.2 = false) (hw : Cond.fieldLink I.1.cls n (mCT ci k).1 (mCT ci k).2.1 (mCT ci k).2.2.1 ∈ mBig) (k0 : mK Γ I d Q n0 bc bs (pc1) lv (st) N sh (mPI σ j k x)) : mK Γ I d Q n0 bc bs (pc) lv (.int x :: .ref j :: st) N sh σ := by
  obtain ⟨h1, h2, h3, h4, h5⟩ := mGk_sp hs
  subst h2
  exact mK_putI hd hp h1 h3 h4 (mTc_i h5) hf hw k0
theorem ru_putIF {Γ : Nat × (Nat → Int32)} {I : mM} {d : Nat} {Q : mQ} {n0 bc bs pc pc1 : Nat} {lv : List (Nat × Value)} {st : List Value} {N : Nat} {sh : mH} {σ : mS} {n j k ci : Nat} {x : Int32} (hd : decode I.2.1 pc = .ok (.putfield n, 3)) (hp : pc + 3 = pc1) (hs : mGk N sh j ci k 0 = true) (hf : (mCT ci k).2.2.2 = true) (hi : I.1.name = "<init>") (hdc : (mCT ci k).1 = I.1.cls) (hw : Cond.fieldLink I.1.cls n (mCT ci k).1 (mCT ci k).2.1 (mCT ci k).2.2.1 ∈ mBig) (k0 : mK Γ I d Q n0 bc bs (pc1) lv (st) N sh (mPI σ j k x)) : mK Γ I d Q n0 bc bs (pc) lv (.int x :: .ref j :: st) N sh σ := by
  obtain ⟨h1, h2, h3, h4, h5⟩ := mGk_sp hs
  subst h2
  exact mK_putIF hd hp h1 h3 h4 (mTc_i h5) hf hi hdc hw k0
theorem ru_putZ {Γ : Nat × (Nat → Int32)} {I : mM} {d : Nat} {Q : mQ} {n0 bc bs pc pc1 : Nat} {lv : List (Nat × Value)} {st : List Value} {N : Nat} {sh : mH} {σ : mS} {n j k ci : Nat} {x : Int32} (hd : decode I.2.1 pc = .ok (.putfield n, 3)) (hp : pc + 3 = pc1) (hs : mGk N sh j ci k 2 = true) (hx : x = 0 ∨ x = 1) (hf : (mCT ci k).2.2.2 = false) (hw : Cond.fieldLink I.1.cls n (mCT ci k).1 (mCT ci k).2.1 (mCT ci k).2.2.1 ∈ mBig) (k0 : mK Γ I d Q n0 bc bs (pc1) lv (st) N sh (mPI σ j k x)) : mK Γ I d Q n0 bc bs (pc) lv (.int x :: .ref j :: st) N sh σ := by
  obtain ⟨h1, h2, h3, h4, h5⟩ := mGk_sp hs
  subst h2
  exact mK_putZ hd hp h1 h3 h4 (mTc_z h5) hx hf hw k0
theorem ru_putZF {Γ : Nat × (Nat → Int32)} {I : mM} {d : Nat} {Q : mQ} {n0 bc bs pc pc1 : Nat} {lv : List (Nat × Value)} {st : List Value} {N : Nat} {sh : mH} {σ : mS} {n j k ci : Nat} {x : Int32} (hd : decode I.2.1 pc = .ok (.putfield n, 3)) (hp : pc + 3 = pc1) (hs : mGk N sh j ci k 2 = true) (hx : x = 0 ∨ x = 1) (hf : (mCT ci k).2.2.2 = true) (hi : I.1.name = "<init>") (hdc : (mCT ci k).1 = I.1.cls) (hw : Cond.fieldLink I.1.cls n (mCT ci k).1 (mCT ci k).2.1 (mCT ci k).2.2.1 ∈ mBig) (k0 : mK Γ I d Q n0 bc bs (pc1) lv (st) N sh (mPI σ j k x)) : mK Γ I d Q n0 bc bs (pc) lv (.int x :: .ref j :: st) N sh σ := by
  obtain ⟨h1, h2, h3, h4, h5⟩ := mGk_sp hs
  subst h2
  exact mK_putZF hd hp h1 h3 h4 (mTc_z h5) hx hf hi hdc hw k0
theorem ru_putL {Γ : Nat × (Nat → Int32)} {I : mM} {d : Nat} {Q : mQ} {n0 bc bs pc pc1 : Nat} {lv : List (Nat × Value)} {st : List Value} {N : Nat} {sh : mH} {σ : mS} {n j k ci : Nat} {x : Int64} (hd : decode I.2.1 pc = .ok (.putfield n, 3)) (hp : pc + 3 = pc1) (hs : mGk N sh j ci k 1 = true) (hf : (mCT ci k).2.2.2 = false) (hw : Cond.fieldLink I.1.cls n (mCT ci k).1 (mCT ci k).2.1 (mCT ci k).2.2.1 ∈ mBig) (k0 : mK Γ I d Q n0 bc bs (pc1) lv (st) N sh (mPL σ j k x)) : mK Γ I d Q n0 bc bs (pc) lv (.long x :: .ref j :: st) N sh σ := by
  obtain ⟨h1, h2, h3, h4, h5⟩ := mGk_sp hs
  subst h2
  exact mK_putL hd hp h1 h3 h4 (mTc_l h5) hf hw k0
theorem ru_putLF {Γ : Nat × (Nat → Int32)} {I : mM} {d : Nat} {Q : mQ} {n0 bc bs pc pc1 : Nat} {lv : List (Nat × Value)} {st : List Value} {N : Nat} {sh : mH} {σ : mS} {n j k ci : Nat} {x : Int64} (hd : decode I.2.1 pc = .ok (.putfield n, 3)) (hp : pc + 3 = pc1) (hs : mGk N sh j ci k 1 = true) (hf : (mCT ci k).2.2.2 = true) (hi : I.1.name = "<init>") (hdc : (mCT ci k).1 = I.1.cls) (hw : Cond.fieldLink I.1.cls n (mCT ci k).1 (mCT ci k).2.1 (mCT ci k).2.2.1 ∈ mBig) (k0 : mK Γ I d Q n0 bc bs (pc1) lv (st) N sh (mPL σ j k x)) : mK Γ I d Q n0 bc bs (pc) lv (.long x :: .ref j :: st) N sh σ := by
  obtain ⟨h1, h2, h3, h4, h5⟩ := mGk_sp hs
  subst h2
  exact mK_putLF hd hp h1 h3 h4 (mTc_l h5) hf hi hdc hw k0
theorem ru_putR {Γ : Nat × (Nat → Int32)} {I : mM} {d : Nat} {Q : mQ} {n0 bc bs pc pc1 : Nat} {lv : List (Nat × Value)} {st : List Value} {N : Nat} {sh : mH} {σ : mS} {n j k ci v : Nat} (hd : decode I.2.1 pc = .ok (.putfield n, 3)) (hp : pc + 3 = pc1) (hs : mGk N sh j ci k 3 = true) (hf : (mCT ci k).2.2.2 = false) (hw : Cond.fieldLink I.1.cls n (mCT ci k).1 (mCT ci k).2.1 (mCT ci k).2.2.1 ∈ mBig) (k0 : mK Γ I d Q n0 bc bs (pc1) lv (st) N (mPH sh j k (some v)) σ) : mK Γ I d Q n0 bc bs (pc) lv (.ref v :: .ref j :: st) N sh σ := by
  obtain ⟨h1, h2, h3, h4, h5⟩ := mGk_sp hs
  subst h2
  exact mK_putR hd hp h1 h3 h4 (mTc_r h5) hf hw k0
theorem ru_putRF {Γ : Nat × (Nat → Int32)} {I : mM} {d : Nat} {Q : mQ} {n0 bc bs pc pc1 : Nat} {lv : List (Nat × Value)} {st : List Value} {N : Nat} {sh : mH} {σ : mS} {n j k ci v : Nat} (hd : decode I.2.1 pc = .ok (.putfield n, 3)) (hp : pc + 3 = pc1) (hs : mGk N sh j ci k 3 = true) (hf : (mCT ci k).2.2.2 = true) (hi : I.1.name = "<init>") (hdc : (mCT ci k).1 = I.1.cls) (hw : Cond.fieldLink I.1.cls n (mCT ci k).1 (mCT ci k).2.1 (mCT ci k).2.2.1 ∈ mBig) (k0 : mK Γ I d Q n0 bc bs (pc1) lv (st) N (mPH sh j k (some v)) σ) : mK Γ I d Q n0 bc bs (pc) lv (.ref v :: .ref j :: st) N sh σ := by
  obtain ⟨h1, h2, h3, h4, h5⟩ := mGk_sp hs
  subst h2
  exact mK_putRF hd hp h1 h3 h4 (mTc_r h5) hf hi hdc hw k0
theorem ru_getIN {Γ : Nat × (Nat → Int32)} {I : mM} {d : Nat} {Q : mQ} {n0 bc bs pc pc1 : Nat} {lv : List (Nat × Value)} {st : List Value} {N : Nat} {sh : mH} {σ : mS} {n j k ci : Nat} {host : String} (hd : decode I.2.1 pc = .ok (.getfield n, 3)) (hp : pc + 3 = pc1) (hs : mGk N sh j ci k 0 = true) (hw : Cond.fieldLinkNest I.1.cls n (mCT ci k).1 (mCT ci k).2.1 (mCT ci k).2.2.1 host ∈ mNd) (k0 : mK Γ I d Q n0 bc bs (pc1) lv (.int (σ.1 j k) :: st) N sh σ) : mK Γ I d Q n0 bc bs (pc) lv (.ref j :: st) N sh σ := by
  obtain ⟨h1, h2, h3, h4, h5⟩ := mGk_sp hs
  subst h2
  refine mK_getN (host := host) hd hp h1 h3 h4 hw ?_
  rw [mTc_i h5]
  exact k0
theorem ru_getZN {Γ : Nat × (Nat → Int32)} {I : mM} {d : Nat} {Q : mQ} {n0 bc bs pc pc1 : Nat} {lv : List (Nat × Value)} {st : List Value} {N : Nat} {sh : mH} {σ : mS} {n j k ci : Nat} {host : String} (hd : decode I.2.1 pc = .ok (.getfield n, 3)) (hp : pc + 3 = pc1) (hs : mGk N sh j ci k 2 = true) (hw : Cond.fieldLinkNest I.1.cls n (mCT ci k).1 (mCT ci k).2.1 (mCT ci k).2.2.1 host ∈ mNd) (k0 : mK Γ I d Q n0 bc bs (pc1) lv (.int (σ.1 j k) :: st) N sh σ) : mK Γ I d Q n0 bc bs (pc) lv (.ref j :: st) N sh σ := by
  obtain ⟨h1, h2, h3, h4, h5⟩ := mGk_sp hs
  subst h2
  refine mK_getN (host := host) hd hp h1 h3 h4 hw ?_
  rw [mTc_z h5]
  exact k0
theorem ru_getLN {Γ : Nat × (Nat → Int32)} {I : mM} {d : Nat} {Q : mQ} {n0 bc bs pc pc1 : Nat} {lv : List (Nat × Value)} {st : List Value} {N : Nat} {sh : mH} {σ : mS} {n j k ci : Nat} {host : String} (hd : decode I.2.1 pc = .ok (.getfield n, 3)) (hp : pc + 3 = pc1) (hs : mGk N sh j ci k 1 = true) (hw : Cond.fieldLinkNest I.1.cls n (mCT ci k).1 (mCT ci k).2.1 (mCT ci k).2.2.1 host ∈ mNd) (k0 : mK Γ I d Q n0 bc bs (pc1) lv (.long (σ.2.1 j k) :: st) N sh σ) : mK Γ I d Q n0 bc bs (pc) lv (.ref j :: st) N sh σ := by
  obtain ⟨h1, h2, h3, h4, h5⟩ := mGk_sp hs
  subst h2
  refine mK_getN (host := host) hd hp h1 h3 h4 hw ?_
  rw [mTc_l h5]
  exact k0
theorem ru_getRN {Γ : Nat × (Nat → Int32)} {I : mM} {d : Nat} {Q : mQ} {n0 bc bs pc pc1 : Nat} {lv : List (Nat × Value)} {st : List Value} {N : Nat} {sh : mH} {σ : mS} {n j k ci a : Nat} {host : String} (hd : decode I.2.1 pc = .ok (.getfield n, 3)) (hp : pc + 3 = pc1) (hs : mGk N sh j ci k 3 = true) (hr : (sh j).2.2 k = some a) (hw : Cond.fieldLinkNest I.1.cls n (mCT ci k).1 (mCT ci k).2.1 (mCT ci k).2.2.1 host ∈ mNd) (k0 : mK Γ I d Q n0 bc bs (pc1) lv (.ref a :: st) N sh σ) : mK Γ I d Q n0 bc bs (pc) lv (.ref j :: st) N sh σ := by
  obtain ⟨h1, h2, h3, h4, h5⟩ := mGk_sp hs
  subst h2
  refine mK_getN (host := host) hd hp h1 h3 h4 hw ?_
  have h6 := mTc_r h5
  have h7 : mG σ (sh j) j k (mTF (sh j).1 k) = .ref a := by
    cases q : mTF (sh j).1 k <;> rw [q] at h6 <;> first | (cases h6; done) | simp [mG, hr, va_rf]
  rw [h7]
  exact k0
theorem ru_putIN {Γ : Nat × (Nat → Int32)} {I : mM} {d : Nat} {Q : mQ} {n0 bc bs pc pc1 : Nat} {lv : List (Nat × Value)} {st : List Value} {N : Nat} {sh : mH} {σ : mS} {n j k ci : Nat} {x : Int32} {host : String} (hd : decode I.2.1 pc = .ok (.putfield n, 3)) (hp : pc + 3 = pc1) (hs : mGk N sh j ci k 0 = true) (hf : (mCT ci k).2.2.2 = false) (hw : Cond.fieldLinkNest I.1.cls n (mCT ci k).1 (mCT ci k).2.1 (mCT ci k).2.2.1 host ∈ mNd) (k0 : mK Γ I d Q n0 bc bs (pc1) lv (st) N sh (mPI σ j k x)) : mK Γ I d Q n0 bc bs (pc) lv (.int x :: .ref j :: st) N sh σ := by
  obtain ⟨h1, h2, h3, h4, h5⟩ := mGk_sp hs
  subst h2
  exact mK_putIN (host := host) hd hp h1 h3 h4 (mTc_i h5) hf hw k0
theorem ru_putZN {Γ : Nat × (Nat → Int32)} {I : mM} {d : Nat} {Q : mQ} {n0 bc bs pc pc1 : Nat} {lv : List (Nat × Value)} {st : List Value} {N : Nat} {sh : mH} {σ : mS} {n j k ci : Nat} {x : Int32} {host : String} (hd : decode I.2.1 pc = .ok (.putfield n, 3)) (hp : pc + 3 = pc1) (hs : mGk N sh j ci k 2 = true) (hx : x = 0 ∨ x = 1) (hf : (mCT ci k).2.2.2 = false) (hw : Cond.fieldLinkNest I.1.cls n (mCT ci k).1 (mCT ci k).2.1 (mCT ci k).2.2.1 host ∈ mNd) (k0 : mK Γ I d Q n0 bc bs (pc1) lv (st) N sh (mPI σ j k x)) : mK Γ I d Q n0 bc bs (pc) lv (.int x :: .ref j :: st) N sh σ := by
  obtain ⟨h1, h2, h3, h4, h5⟩ := mGk_sp hs
  subst h2
  exact mK_putZN (host := host) hd hp h1 h3 h4 (mTc_z h5) hx hf hw k0
theorem ru_putLN {Γ : Nat × (Nat → Int32)} {I : mM} {d : Nat} {Q : mQ} {n0 bc bs pc pc1 : Nat} {lv : List (Nat × Value)} {st : List Value} {N : Nat} {sh : mH} {σ : mS} {n j k ci : Nat} {x : Int64} {host : String} (hd : decode I.2.1 pc = .ok (.putfield n, 3)) (hp : pc + 3 = pc1) (hs : mGk N sh j ci k 1 = true) (hf : (mCT ci k).2.2.2 = false) (hw : Cond.fieldLinkNest I.1.cls n (mCT ci k).1 (mCT ci k).2.1 (mCT ci k).2.2.1 host ∈ mNd) (k0 : mK Γ I d Q n0 bc bs (pc1) lv (st) N sh (mPL σ j k x)) : mK Γ I d Q n0 bc bs (pc) lv (.long x :: .ref j :: st) N sh σ := by
  obtain ⟨h1, h2, h3, h4, h5⟩ := mGk_sp hs
  subst h2
  exact mK_putLN (host := host) hd hp h1 h3 h4 (mTc_l h5) hf hw k0
theorem ru_iald {Γ : Nat × (Nat → Int32)} {I : mM} {d : Nat} {Q : mQ} {n0 bc bs pc pc1 : Nat} {lv : List (Nat × Value)} {st : List Value} {N : Nat} {sh : mH} {σ : mS} {j n : Nat} {i : Int32} (hd : decode I.2.1 pc = .ok (.iaload, 1)) (hp : pc + 1 = pc1) (hs : mAk N sh j 0 n = true) (hin : vp_in i n) (k0 : mK Γ I d Q n0 bc bs (pc1) lv (.int (σ.1 j i.toNatClampNeg) :: st) N sh σ) : mK Γ I d Q n0 bc bs (pc) lv (.int i :: .ref j :: st) N sh σ := by
  obtain ⟨h1, h2, h3⟩ := mAk_sp hs
  subst h3
  exact mK_iald hd hp h1 h2 hin k0
theorem ru_bald {Γ : Nat × (Nat → Int32)} {I : mM} {d : Nat} {Q : mQ} {n0 bc bs pc pc1 : Nat} {lv : List (Nat × Value)} {st : List Value} {N : Nat} {sh : mH} {σ : mS} {j n : Nat} {i : Int32} (hd : decode I.2.1 pc = .ok (.baload, 1)) (hp : pc + 1 = pc1) (hs : mAk N sh j 1 n = true) (hin : vp_in i n) (k0 : mK Γ I d Q n0 bc bs (pc1) lv (.int (σ.1 j i.toNatClampNeg) :: st) N sh σ) : mK Γ I d Q n0 bc bs (pc) lv (.int i :: .ref j :: st) N sh σ := by
  obtain ⟨h1, h2, h3⟩ := mAk_sp hs
  subst h3
  exact mK_bald hd hp h1 h2 hin k0
theorem ru_zald {Γ : Nat × (Nat → Int32)} {I : mM} {d : Nat} {Q : mQ} {n0 bc bs pc pc1 : Nat} {lv : List (Nat × Value)} {st : List Value} {N : Nat} {sh : mH} {σ : mS} {j n : Nat} {i : Int32} (hd : decode I.2.1 pc = .ok (.baload, 1)) (hp : pc + 1 = pc1) (hs : mAk N sh j 2 n = true) (hin : vp_in i n) (k0 : mK Γ I d Q n0 bc bs (pc1) lv (.int (σ.1 j i.toNatClampNeg) :: st) N sh σ) : mK Γ I d Q n0 bc bs (pc) lv (.int i :: .ref j :: st) N sh σ := by
  obtain ⟨h1, h2, h3⟩ := mAk_sp hs
  subst h3
  exact mK_zald hd hp h1 h2 hin k0
theorem ru_lald {Γ : Nat × (Nat → Int32)} {I : mM} {d : Nat} {Q : mQ} {n0 bc bs pc pc1 : Nat} {lv : List (Nat × Value)} {st : List Value} {N : Nat} {sh : mH} {σ : mS} {j n : Nat} {i : Int32} (hd : decode I.2.1 pc = .ok (.laload, 1)) (hp : pc + 1 = pc1) (hs : mAk N sh j 3 n = true) (hin : vp_in i n) (k0 : mK Γ I d Q n0 bc bs (pc1) lv (.long (σ.2.1 j i.toNatClampNeg) :: st) N sh σ) : mK Γ I d Q n0 bc bs (pc) lv (.int i :: .ref j :: st) N sh σ := by
  obtain ⟨h1, h2, h3⟩ := mAk_sp hs
  subst h3
  exact mK_lald hd hp h1 h2 hin k0
theorem ru_iast {Γ : Nat × (Nat → Int32)} {I : mM} {d : Nat} {Q : mQ} {n0 bc bs pc pc1 : Nat} {lv : List (Nat × Value)} {st : List Value} {N : Nat} {sh : mH} {σ : mS} {j n : Nat} {i : Int32} {x : Int32} (hd : decode I.2.1 pc = .ok (.iastore, 1)) (hp : pc + 1 = pc1) (hs : mAk N sh j 0 n = true) (hin : vp_in i n) (k0 : mK Γ I d Q n0 bc bs (pc1) lv (st) N sh (mPI σ j i.toNatClampNeg x)) : mK Γ I d Q n0 bc bs (pc) lv (.int x :: .int i :: .ref j :: st) N sh σ := by
  obtain ⟨h1, h2, h3⟩ := mAk_sp hs
  subst h3
  exact mK_iast hd hp h1 h2 hin k0
theorem ru_bast {Γ : Nat × (Nat → Int32)} {I : mM} {d : Nat} {Q : mQ} {n0 bc bs pc pc1 : Nat} {lv : List (Nat × Value)} {st : List Value} {N : Nat} {sh : mH} {σ : mS} {j n : Nat} {i : Int32} {x : Int32} (hd : decode I.2.1 pc = .ok (.bastore, 1)) (hp : pc + 1 = pc1) (hs : mAk N sh j 1 n = true) (hin : vp_in i n) (k0 : mK Γ I d Q n0 bc bs (pc1) lv (st) N sh (mPI σ j i.toNatClampNeg (vp_nar .byte x))) : mK Γ I d Q n0 bc bs (pc) lv (.int x :: .int i :: .ref j :: st) N sh σ := by
  obtain ⟨h1, h2, h3⟩ := mAk_sp hs
  subst h3
  exact mK_bast hd hp h1 h2 hin k0
theorem ru_zast {Γ : Nat × (Nat → Int32)} {I : mM} {d : Nat} {Q : mQ} {n0 bc bs pc pc1 : Nat} {lv : List (Nat × Value)} {st : List Value} {N : Nat} {sh : mH} {σ : mS} {j n : Nat} {i : Int32} {x : Int32} (hd : decode I.2.1 pc = .ok (.bastore, 1)) (hp : pc + 1 = pc1) (hs : mAk N sh j 2 n = true) (hin : vp_in i n) (k0 : mK Γ I d Q n0 bc bs (pc1) lv (st) N sh (mPI σ j i.toNatClampNeg (vp_nar .boolean x))) : mK Γ I d Q n0 bc bs (pc) lv (.int x :: .int i :: .ref j :: st) N sh σ := by
  obtain ⟨h1, h2, h3⟩ := mAk_sp hs
  subst h3
  exact mK_zast hd hp h1 h2 hin k0
theorem ru_last {Γ : Nat × (Nat → Int32)} {I : mM} {d : Nat} {Q : mQ} {n0 bc bs pc pc1 : Nat} {lv : List (Nat × Value)} {st : List Value} {N : Nat} {sh : mH} {σ : mS} {j n : Nat} {i : Int32} {x : Int64} (hd : decode I.2.1 pc = .ok (.lastore, 1)) (hp : pc + 1 = pc1) (hs : mAk N sh j 3 n = true) (hin : vp_in i n) (k0 : mK Γ I d Q n0 bc bs (pc1) lv (st) N sh (mPL σ j i.toNatClampNeg x)) : mK Γ I d Q n0 bc bs (pc) lv (.long x :: .int i :: .ref j :: st) N sh σ := by
  obtain ⟨h1, h2, h3⟩ := mAk_sp hs
  subst h3
  exact mK_last hd hp h1 h2 hin k0
theorem ru_aald {Γ : Nat × (Nat → Int32)} {I : mM} {d : Nat} {Q : mQ} {n0 bc bs pc pc1 : Nat} {lv : List (Nat × Value)} {st : List Value} {N : Nat} {sh : mH} {σ : mS} {j n a : Nat} {i : Int32} (hd : decode I.2.1 pc = .ok (.aaload, 1)) (hp : pc + 1 = pc1) (hs : mAk N sh j 4 n = true) (hin : vp_in i n) (hv : σ.2.2 j i.toNatClampNeg = some a) (ha : 1000 ≤ a) (k0 : mK Γ I d Q n0 bc bs (pc1) lv (.ref a :: st) N sh σ) : mK Γ I d Q n0 bc bs (pc) lv (.int i :: .ref j :: st) N sh σ := by
  obtain ⟨h1, h2, h3⟩ := mAk_sp hs
  subst h3
  exact mK_aald hd hp h1 h2 hin hv ha k0
theorem ru_aast {Γ : Nat × (Nat → Int32)} {I : mM} {d : Nat} {Q : mQ} {n0 bc bs pc pc1 : Nat} {lv : List (Nat × Value)} {st : List Value} {N : Nat} {sh : mH} {σ : mS} {j n a : Nat} {i : Int32} (hd : decode I.2.1 pc = .ok (.aastore, 1)) (hp : pc + 1 = pc1) (hs : mAk N sh j 4 n = true) (hin : vp_in i n) (ha : 1000 ≤ a ∧ a < 1028) (hw : Cond.code yX2_code cX2_code 1 (some .long) ∈ mBig) (k0 : mK Γ I d Q n0 bc bs (pc1) lv (st) N sh (mPR σ j i.toNatClampNeg (some a))) : mK Γ I d Q n0 bc bs (pc) lv (.ref a :: .int i :: .ref j :: st) N sh σ := by
  obtain ⟨h1, h2, h3⟩ := mAk_sp hs
  subst h3
  exact mK_aast hd hp h1 h2 hin ha.1 ha.2 hw k0
theorem ru_alen {Γ : Nat × (Nat → Int32)} {I : mM} {d : Nat} {Q : mQ} {n0 bc bs pc pc1 : Nat} {lv : List (Nat × Value)} {st : List Value} {N : Nat} {sh : mH} {σ : mS} {j n t : Nat} (hd : decode I.2.1 pc = .ok (.arraylength, 1)) (hp : pc + 1 = pc1) (hs : mAk N sh j t n = true) (k0 : mK Γ I d Q n0 bc bs (pc1) lv (.int (Int32.ofNat n) :: st) N sh σ) : mK Γ I d Q n0 bc bs (pc) lv (.ref j :: st) N sh σ := by
  obtain ⟨h1, h2, h3⟩ := mAk_sp hs
  subst h3
  exact mK_alen hd hp h1 (by omega) k0
theorem ru_code {Γ : Nat × (Nat → Int32)} {I : mM} {d : Nat} {Q : mQ} {n0 bc bs pc pc1 : Nat} {lv : List (Nat × Value)} {st : List Value} {N : Nat} {sh : mH} {σ : mS} {n a : Nat} (hd : decode I.2.1 pc = .ok (.getfield n, 3)) (hp : pc + 3 = pc1) (ha : 1000 ≤ a ∧ a < 1028) (hw : Cond.fieldLink I.1.cls n "DebateHall$Kind" "code" "J" ∈ mBig) (k : mK Γ I d Q n0 bc bs (pc1) lv (.long (mKc (a - 1000)) :: st) N sh σ) : mK Γ I d Q n0 bc bs (pc) lv (.ref a :: st) N sh σ := by
  obtain ⟨b, rfl⟩ : ∃ b, a = 1000 + b := ⟨a - 1000, by omega⟩
  rw [Nat.add_sub_cancel_left] at k
  exact mK_code hd hp (by omega) hw k
theorem ru_acmp_eq {Γ : Nat × (Nat → Int32)} {I : mM} {d : Nat} {Q : mQ} {n0 bc bs pc pc1 : Nat} {lv : List (Nat × Value)} {st : List Value} {N : Nat} {sh : mH} {σ : mS} {off : Int} {tgt a b : Nat} (hd : decode I.2.1 pc = .ok (.if_acmp .eq off, 3)) (hp : pc + 3 = pc1) (ht : (pc : Int) + off = (tgt : Int)) (ha : 1000 ≤ a ∧ a < 1028) (hb0 : 1000 ≤ b ∧ b < 1028) (kt : a = b → mK Γ I d Q n0 bc bs (tgt) lv (st) N sh σ) (kf : ¬ a = b → mK Γ I d Q n0 bc bs (pc1) lv (st) N sh σ) : mK Γ I d Q n0 bc bs (pc) lv (.ref b :: .ref a :: st) N sh σ := by
  obtain ⟨a1, rfl⟩ : ∃ z, a = 1000 + z := ⟨a - 1000, by omega⟩
  obtain ⟨b1, rfl⟩ : ∃ z, b = 1000 + z := ⟨b - 1000, by omega⟩
  exact mK_acmp_eq hd hp ht (by omega) (by omega) (fun q => kt (by rw [q])) (fun q => kf (fun z => q (by omega)))
theorem ru_acmp_ne {Γ : Nat × (Nat → Int32)} {I : mM} {d : Nat} {Q : mQ} {n0 bc bs pc pc1 : Nat} {lv : List (Nat × Value)} {st : List Value} {N : Nat} {sh : mH} {σ : mS} {off : Int} {tgt a b : Nat} (hd : decode I.2.1 pc = .ok (.if_acmp .ne off, 3)) (hp : pc + 3 = pc1) (ht : (pc : Int) + off = (tgt : Int)) (ha : 1000 ≤ a ∧ a < 1028) (hb0 : 1000 ≤ b ∧ b < 1028) (kt : a = b → mK Γ I d Q n0 bc bs (pc1) lv (st) N sh σ) (kf : ¬ a = b → mK Γ I d Q n0 bc bs (tgt) lv (st) N sh σ) : mK Γ I d Q n0 bc bs (pc) lv (.ref b :: .ref a :: st) N sh σ := by
  obtain ⟨a1, rfl⟩ : ∃ z, a = 1000 + z := ⟨a - 1000, by omega⟩
  obtain ⟨b1, rfl⟩ : ∃ z, b = 1000 + z := ⟨b - 1000, by omega⟩
  exact mK_acmp_ne hd hp ht (by omega) (by omega) (fun q => kt (by rw [q])) (fun q => kf (fun z => q (by omega)))
theorem lg_eq (x y : Int64) : lg_cmp x y = 0 ↔ x = y := by
  unfold lg_cmp
  by_cases h : x = y
  · subst h
    simp
  · simp only [h, iff_false]
    split <;> first | decide | (split <;> first | decide | (rename_i h1 h2; exact absurd (by first | exact h2 | exact Int64.le_antisymm (by simpa using h1) (by simpa using h2)) h))
theorem ru_lif_eq {Γ : Nat × (Nat → Int32)} {I : mM} {d : Nat} {Q : mQ} {n0 bc bs pc pc1 : Nat} {lv : List (Nat × Value)} {st : List Value} {N : Nat} {sh : mH} {σ : mS} {off : Int} {tgt pc2 : Nat} {x y : Int64} (hd : decode I.2.1 pc = .ok (.lcmp, 1)) (hp : pc + 1 = pc1) (hd2 : decode I.2.1 pc1 = .ok (.ifCond .eq off, 3)) (hp2 : pc1 + 3 = pc2) (ht : (pc1 : Int) + off = (tgt : Int)) (kt : x = y → mK Γ I d Q n0 bc bs (tgt) lv (st) N sh σ) (kf : ¬ (x = y) → mK Γ I d Q n0 bc bs (pc2) lv (st) N sh σ) : mK Γ I d Q n0 bc bs (pc) lv (.long y :: .long x :: st) N sh σ := by
  refine mK_lcmp hd hp (mK_if_eq hd2 hp2 ht (fun q => kt ?_) (fun q => kf ?_))
  · simpa [lg_eq] using q
  · simpa [lg_eq] using q
theorem ru_lif_ne {Γ : Nat × (Nat → Int32)} {I : mM} {d : Nat} {Q : mQ} {n0 bc bs pc pc1 : Nat} {lv : List (Nat × Value)} {st : List Value} {N : Nat} {sh : mH} {σ : mS} {off : Int} {tgt pc2 : Nat} {x y : Int64} (hd : decode I.2.1 pc = .ok (.lcmp, 1)) (hp : pc + 1 = pc1) (hd2 : decode I.2.1 pc1 = .ok (.ifCond .ne off, 3)) (hp2 : pc1 + 3 = pc2) (ht : (pc1 : Int) + off = (tgt : Int)) (kt : ¬ x = y → mK Γ I d Q n0 bc bs (tgt) lv (st) N sh σ) (kf : x = y → mK Γ I d Q n0 bc bs (pc2) lv (st) N sh σ) : mK Γ I d Q n0 bc bs (pc) lv (.long y :: .long x :: st) N sh σ := by
  refine mK_lcmp hd hp (mK_if_ne hd2 hp2 ht (fun q => kt ?_) (fun q => kf ?_))
  · simpa [lg_eq] using q
  · simpa [lg_eq] using q
theorem ru_pick {Γ : Nat × (Nat → Int32)} {I : mM} {d : Nat} {Q : mQ} {n0 bc bs pc : Nat} {lv lv1 : List (Nat × Value)} {st : List Value} {N : Nat} {sh : mH} {σ : mS} (ks : List Nat) (he : ks.filterMap (fun k => lv[k]?) = lv1) (k : mK Γ I d Q n0 bc bs (pc) lv1 (st) N sh σ) : mK Γ I d Q n0 bc bs (pc) lv (st) N sh σ := mK_lv (fun q hq => by
  rw [← he] at hq
  obtain ⟨i, -, hi⟩ := List.mem_filterMap.mp hq
  exact List.mem_of_getElem? hi) k
