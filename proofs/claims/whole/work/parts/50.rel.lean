/-! ===== the relation between the class and the model; what a pair of calls must do ===== -/
noncomputable def bF (D : mDeb) : Nat → Int32 := stF D (coD D noS) noS
noncomputable def rF (D : mDeb) : Nat := stR D (coD D noS) noS
noncomputable def nF (D : mDeb) : Nat → Int32 := stN D (coD D noS) noS (rF D)
/-- a byte of a word, the lowest is 0 -/
def wB (w : Int64) (i : Nat) : Int64 := (w >>> (Int32.toInt64 (nI (8 * i)) &&& 63)) &&& 255
/-- a word of 1 to 8 bytes, none of them 0 -/
def wOK (w : Int64) : Prop := ∃ n, n < 8 ∧ (∀ i, i ≤ n → wB w i ≠ 0) ∧ ∀ i, n < i → i < 8 → wB w i = 0
def nmD (D : mDeb) : Prop := (∀ k, k < dn D → wOK (dN D k)) ∧ ∀ k, k < ds D → wOK (dS D k)
def RA (σ : mS) : Prop := cV σ ∧ DC σ = DM σ ∧ nmD (DM σ)
def RS (σ : mS) : Prop := σ.2.1 16 2 = σ.2.1 5 11 ∧ σ.2.1 16 3 = sSet (bF (DM σ)) 1 ∧ σ.2.1 16 4 = sSet (bF (DM σ)) 2 ∧ σ.1 16 5 = nI (rF (DM σ)) ∧ ∀ k, k < 40 → σ.1 17 k = nF (DM σ) k
def RM (σ : mS) : Prop := (∀ k, k < dn (DM σ) → σ.1 52 k = bF (DM σ) k ∧ σ.1 53 k = nF (DM σ) k) ∧ σ.1 26 15 = nI (rF (DM σ)) ∧ hM σ
def RT (σ : mS) : Prop := ∃ n, n ≤ 2000 ∧ σ.1 1 1 = nI n ∧ σ.1 26 2 = nI n ∧ ∀ i, i < n → σ.1 2 i &&& 255 = σ.1 27 i
def RP (σ : mS) : Prop := ∃ n, n ≤ 920 ∧ σ.1 3 1 = nI n ∧ σ.1 26 4 = nI n ∧ ∀ i, i < n → σ.1 4 i &&& 255 = σ.1 28 i
def Rel (σ : mS) : Prop := RA σ ∧ RS σ ∧ RM σ ∧ RT σ ∧ RP σ ∧ σ.1 0 8 = σ.1 26 1
/-- asking the class: the second standing may change, and the law's out -/
def FQ (σ τ : mS) : Prop := (∀ a, a ≠ 18 → a ≠ 19 → τ.1 a = σ.1 a) ∧ (∀ a, a ≠ 18 → a ≠ 59 → τ.2.1 a = σ.2.1 a) ∧ τ.2.2 = σ.2.2
def e59 (σ τ : mS) : Prop := τ.1 = σ.1 ∧ (∀ a, a ≠ 59 → τ.2.1 a = σ.2.1 a) ∧ τ.2.2 = σ.2.2
theorem e59_r (σ : mS) : e59 σ σ := ⟨rfl, fun _ _ => rfl, rfl⟩
theorem e59_p (σ : mS) (x : Int64) : e59 σ (mPL σ 59 0 x) := ⟨rfl, fun a h => mU2_ne h, rfl⟩
theorem FQ_r (σ : mS) : FQ σ σ := ⟨fun _ _ _ => rfl, fun _ _ _ => rfl, rfl⟩
theorem FQ_18 {σ τ : mS} (h : F18 σ τ) : FQ σ τ := ⟨h.1, fun a h1 _ => h.2.1 a h1, h.2.2⟩
theorem FQ_e {σ τ ρ : mS} (h : FQ σ τ) (e : e59 τ ρ) : FQ σ ρ := ⟨fun a h1 h2 => by rw [e.1]; exact h.1 a h1 h2, fun a h1 h2 => by rw [e.2.1 a h2]; exact h.2.1 a h1 h2, by rw [e.2.2]; exact h.2.2⟩
theorem FQ_DM {σ τ : mS} (h : FQ σ τ) : DM τ = DM σ := by
  rw [DM, DM, h.1 32 (by decide) (by decide), h.1 34 (by decide) (by decide), h.1 36 (by decide) (by decide), h.1 37 (by decide) (by decide), h.1 38 (by decide) (by decide), h.1 39 (by decide) (by decide), h.1 40 (by decide) (by decide), h.1 41 (by decide) (by decide), h.2.1 35 (by decide) (by decide), h.2.1 33 (by decide) (by decide)]
theorem FQ_DC {σ τ : mS} (h : FQ σ τ) : DC τ = DC σ := by
  rw [DC, DC, h.1 5 (by decide) (by decide), h.1 9 (by decide) (by decide), h.1 10 (by decide) (by decide), h.1 11 (by decide) (by decide), h.1 12 (by decide) (by decide), h.1 13 (by decide) (by decide), h.1 7 (by decide) (by decide), h.2.1 5 (by decide) (by decide), h.2.1 8 (by decide) (by decide), h.2.1 6 (by decide) (by decide)]
theorem Rel_FQ {σ τ : mS} (h : Rel σ) (f : FQ σ τ) : Rel τ := by
  obtain ⟨⟨a1, a2, a3⟩, ⟨s1, s2, s3, s4, s5⟩, ⟨m1, m2, m3⟩, t, p, e⟩ := h
  have eM := FQ_DM f
  have eC := FQ_DC f
  refine ⟨⟨?_, by rw [eM, eC]; exact a2, by rw [eM]; exact a3⟩, ⟨?_, ?_, ?_, ?_, ?_⟩, ⟨?_, ?_, ?_⟩, ?_, ?_, ?_⟩
  · rw [cV, eC, f.1 14 (by decide) (by decide), f.2.1 5 (by decide) (by decide)]; exact a1
  · rw [f.2.1 16 (by decide) (by decide), f.2.1 5 (by decide) (by decide)]; exact s1
  · rw [f.2.1 16 (by decide) (by decide), eM]; exact s2
  · rw [f.2.1 16 (by decide) (by decide), eM]; exact s3
  · rw [f.1 16 (by decide) (by decide), eM]; exact s4
  · rw [f.1 17 (by decide) (by decide), eM]; exact s5
  · rw [f.1 52 (by decide) (by decide), f.1 53 (by decide) (by decide), eM]; exact m1
  · rw [f.1 26 (by decide) (by decide), eM]; exact m2
  · rw [hM, f.1 26 (by decide) (by decide)]; exact m3
  · rw [RT, f.1 1 (by decide) (by decide), f.1 26 (by decide) (by decide), f.1 2 (by decide) (by decide), f.1 27 (by decide) (by decide)]; exact t
  · rw [RP, f.1 3 (by decide) (by decide), f.1 26 (by decide) (by decide), f.1 4 (by decide) (by decide), f.1 28 (by decide) (by decide)]; exact p
  · rw [f.1 0 (by decide) (by decide), f.1 26 (by decide) (by decide)]; exact e
theorem th_26 (σ : mS) (x : Int32) {k : Nat} (h : k ≠ 0) : (th σ x).1 26 k = σ.1 26 k := by rw [th, mPI_at, if_neg h]
theorem th_0 (σ : mS) (x : Int32) : (th σ x).1 26 0 = x := by rw [th, mPI_at, if_pos rfl]
theorem th_ne (σ : mS) (x : Int32) {a : Nat} (h : a ≠ 26) : (th σ x).1 a = σ.1 a := mPI_ne h
theorem fM_C {σ τ : mS} (h : fM σ τ) : DC τ = DC σ := by
  rw [DC, DC, h.2.2, fM_a h (a := 5) (by omega), fM_a h (a := 9) (by omega), fM_a h (a := 10) (by omega), fM_a h (a := 11) (by omega), fM_a h (a := 12) (by omega), fM_a h (a := 13) (by omega), fM_a h (a := 7) (by omega)]
theorem Rel_fM {σ τ : mS} (h : Rel σ) (f : fM σ τ) (hr : hM τ) : Rel τ := by
  obtain ⟨⟨a1, a2, a3⟩, ⟨s1, s2, s3, s4, s5⟩, ⟨m1, m2, m3⟩, t, p, e⟩ := h
  have eM := fM_D f
  have eC := fM_C f
  refine ⟨⟨?_, by rw [eM, eC]; exact a2, by rw [eM]; exact a3⟩, ⟨?_, ?_, ?_, ?_, ?_⟩, ⟨?_, ?_, hr⟩, ?_, ?_, ?_⟩
  · rw [cV, eC, fM_a f (a := 14) (by omega), f.2.2]; exact a1
  · rw [f.2.2]; exact s1
  · rw [f.2.2, eM]; exact s2
  · rw [f.2.2, eM]; exact s3
  · rw [fM_a f (a := 16) (by omega), eM]; exact s4
  · rw [fM_a f (a := 17) (by omega), eM]; exact s5
  · rw [fM_a f (a := 52) (by omega), fM_a f (a := 53) (by omega), eM]; exact m1
  · rw [f.2.1 15 (by decide) (by decide) (by decide), eM]; exact m2
  · rw [RT, fM_a f (a := 1) (by omega), f.2.1 2 (by decide) (by decide) (by decide), fM_a f (a := 2) (by omega), fM_a f (a := 27) (by omega)]; exact t
  · rw [RP, fM_a f (a := 3) (by omega), f.2.1 4 (by decide) (by decide) (by decide), fM_a f (a := 4) (by omega), fM_a f (a := 28) (by omega)]; exact p
  · rw [fM_a f (a := 0) (by omega), f.2.1 1 (by decide) (by decide) (by decide)]; exact e
theorem Rel_th {σ : mS} (h : Rel σ) (x : Int32) : Rel (th σ x) := by
  obtain ⟨⟨a1, a2, a3⟩, ⟨s1, s2, s3, s4, s5⟩, ⟨m1, m2, m3⟩, t, p, e⟩ := h
  refine ⟨⟨a1, a2, a3⟩, ⟨s1, s2, s3, s4, s5⟩, ⟨m1, ?_, m3⟩, ?_, ?_, ?_⟩
  · rw [th_26 σ x (by decide)]; exact m2
  · rw [RT, th_26 σ x (by decide)]; exact t
  · rw [RP, th_26 σ x (by decide)]; exact p
  · rw [th_26 σ x (by decide)]; exact e
theorem Rel_fth {σ τ : mS} (h : Rel σ) {x : Int32} (f : fM (th σ x) τ) (hr : hM τ) : Rel τ ∧ τ.1 26 0 = x ∧ τ.2.1 59 = σ.2.1 59 := by
  refine ⟨Rel_fM (Rel_th h x) f hr, ?_, ?_⟩
  · rw [f.2.1 0 (by decide) (by decide) (by decide)]; exact th_0 σ x
  · rw [f.2.2]; rfl
theorem Rel_q {σ : mS} (h : Rel σ) (x : Int32) : Rel (th σ x) ∧ (th σ x).1 26 0 = x ∧ (th σ x).2.1 59 = σ.2.1 59 := ⟨Rel_th h x, th_0 σ x, rfl⟩
theorem itemCase (n : Nat) (x : Int32) : (∃ k, k < n ∧ x = nI k) ∨ ∀ k, k < n → x ≠ nI k := by
  by_cases h : ∃ k, k < n ∧ x = nI k
  · exact .inl h
  · exact .inr (fun k hk e => h ⟨k, hk, e⟩)
theorem Rel.V {σ : mS} (h : Rel σ) : cV σ := h.1.1
theorem Rel.D {σ : mS} (h : Rel σ) : DC σ = DM σ := h.1.2.1
theorem Rel.S {σ : mS} (h : Rel σ) : sV σ := by rw [sV, ← h.D]; exact h.V.1
theorem Rel.H {σ : mS} (h : Rel σ) : hM σ := h.2.2.1.2.2
theorem Rel.I {σ : mS} (h : Rel σ) : sI_16 σ (bF (DM σ)) := ⟨h.V, by rw [h.D]; exact stB_ok _ _ _ _, h.2.1.2.1, h.2.1.2.2.1⟩
theorem Rel.C {σ : mS} (h : Rel σ) : bB (σ.2.1 16 2) = coD (DM σ) noS := by
  have e := co_eq h.V 0
  rw [bB_noS, h.D] at e
  rw [h.2.1.1, ← e]
  congr 1
  exact Int64.or_zero.symm
theorem Rel.B {σ : mS} (h : Rel σ) : agr (dn (DM σ)) (σ.1 52) (bF (DM σ)) := fun k hk => (h.2.2.1.1 k hk).1
theorem Rel.O {σ : mS} (h : Rel σ) : agr (dn (DM σ)) (coM σ) (coD (DM σ) noS) := coM_0 h.S h.H.1 h.H.2.1
/-- what the model must do behind the class's call: the same answer (k: what is thrown; v: what is told), and all is related again -/
def PO (Γ : Nat × (Nat → Int32)) (d : Nat) (E1 E2 : String) (JM : mM) (c s : Nat) (as : List Value) (o : mO) (N : Nat) (sh : mH) (τ : mS) : Prop :=
  N = 60 ∧ sh = mSH ∧ ∃ (k v : Int32), ((k = 0 ∧ o = .inl (some (.int v))) ∨ (k = 1 ∧ o = .inr E1) ∨ (k = 2 ∧ E2 ≠ E1 ∧ o = .inr E2)) ∧
    ∀ τ', e59 τ τ' → ∀ Q : mQ, (∀ ρ, Rel ρ ∧ ρ.1 26 0 = k ∧ ρ.2.1 59 = τ'.2.1 59 → Q (.inl (some (.int v))) 60 mSH ρ) → mCall Γ JM d c s as 60 mSH τ' Q
/-- asking: the model is only to be told that all is related -/
theorem PO_q {Γ : Nat × (Nat → Int32)} {d : Nat} {E1 E2 : String} {JM : mM} {c s : Nat} {as : List Value} {o : mO} {σ τ : mS} (h : Rel σ) (f : FQ σ τ) (k v : Int32) (ho : (k = 0 ∧ o = .inl (some (.int v))) ∨ (k = 1 ∧ o = .inr E1) ∨ (k = 2 ∧ E2 ≠ E1 ∧ o = .inr E2))
    (m : ∀ τ', Rel τ' → DM τ' = DM σ → FQ σ τ' → ∀ Q : mQ, (∀ ρ, Rel ρ ∧ ρ.1 26 0 = k ∧ ρ.2.1 59 = τ'.2.1 59 → Q (.inl (some (.int v))) 60 mSH ρ) → mCall Γ JM d c s as 60 mSH τ' Q) : PO Γ d E1 E2 JM c s as o 60 mSH τ :=
  ⟨rfl, rfl, k, v, ho, fun τ' e Q hQ => m τ' (Rel_FQ h (FQ_e f e)) (FQ_DM (FQ_e f e)) (FQ_e f e) Q hQ⟩
def xIO : String := "java/lang/IndexOutOfBoundsException"
def xIA : String := "java/lang/IllegalArgumentException"
def xIS : String := "java/lang/IllegalStateException"
