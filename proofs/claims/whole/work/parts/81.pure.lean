/-! ===== carrying out a line, as numbers ===== -/
abbrev gE : Type := Int32 × Int32
def fl (p : Bool) (n : Int32) (t : Nat) (e : gE) : gE := if p = true ∧ e.1 = 0 then (n, nI t) else e
theorem fl_f {n : Int32} {t : Nat} {e : gE} : fl false n t e = e := by rw [fl, if_neg (fun q => Bool.false_ne_true q.1)]
theorem fl_e {p : Bool} {n : Int32} {t : Nat} {e : gE} (h : e.1 ≠ 0) : fl p n t e = e := by rw [fl, if_neg (fun q => h q.2)]
theorem fl_t {n : Int32} {t : Nat} {e : gE} (h : e.1 = 0) : fl true n t e = (n, nI t) := by rw [fl, if_pos ⟨rfl, h⟩]
def dF (D : mDeb) (c : Int64) : Int32 := mFind (dN D) c 0 (dn D)
def dP (D : mDeb) (c : Int64) : Int32 := mFind (dS D) c 0 (ds D)
theorem mFind_congr {f g : Nat → Int64} {x : Int64} : ∀ m i, (∀ k, i ≤ k → k < i + m → f k = g k) → mFind f x i m = mFind g x i m
  | 0, i, h => rfl
  | m + 1, i, h => by
    have r : ∀ (f : Nat → Int64), mFind f x i (m + 1) = if f i = x then nI i else mFind f x (i + 1) m := fun _ => rfl
    rw [r, r, h i (Nat.le_refl _) (by omega), mFind_congr m (i + 1) (fun k h1 h2 => h k (by omega) (by omega))]
theorem mFind_sp {f : Nat → Int64} {x : Int64} : ∀ m i, mFind f x i m = -1 ∨ ∃ k, i ≤ k ∧ k < i + m ∧ mFind f x i m = nI k
  | 0, i => .inl rfl
  | m + 1, i => by
    have r : mFind f x i (m + 1) = if f i = x then nI i else mFind f x (i + 1) m := rfl
    rw [r]
    by_cases e : f i = x
    · rw [if_pos e]; exact .inr ⟨i, Nat.le_refl _, by omega, rfl⟩
    · rw [if_neg e]
      rcases mFind_sp (f := f) (x := x) m (i + 1) with h | ⟨k, h1, h2, h3⟩
      · exact .inl h
      · exact .inr ⟨k, by omega, by omega, h3⟩
theorem dF_sp (D : mDeb) (c : Int64) : dF D c = -1 ∨ ∃ k, k < dn D ∧ dF D c = nI k := by
  rcases mFind_sp (f := dN D) (x := c) (dn D) 0 with h | ⟨k, _, h2, h3⟩
  · exact .inl h
  · exact .inr ⟨k, by omega, h3⟩
theorem dP_sp (D : mDeb) (c : Int64) : dP D c = -1 ∨ ∃ k, k < ds D ∧ dP D c = nI k := by
  rcases mFind_sp (f := dS D) (x := c) (ds D) 0 with h | ⟨k, _, h2, h3⟩
  · exact .inl h
  · exact .inr ⟨k, by omega, h3⟩
/-- a name that is none of an item -/
def un (D : mDeb) (K : Nat → Nat) (V : Nat → Int64) (k : Nat) : Bool := decide (K k = 24) && decide (dF D (V k) = -1)
def eU (D : mDeb) (K : Nat → Nat) (V : Nat → Int64) : Nat → Nat → gE → gE
  | 0, _, e => e
  | m + 1, a, e => eU D K V m (a + 1) (fl (un D K V a) 3 a e)
theorem eU_add (D : mDeb) (K : Nat → Nat) (V : Nat → Int64) : ∀ m n a e, eU D K V (m + n) a e = eU D K V n (a + m) (eU D K V m a e)
  | 0, n, a, e => by rw [Nat.zero_add]; rfl
  | m + 1, n, a, e => by
    rw [show m + 1 + n = (m + n) + 1 by omega, eU, eU, eU_add D K V m n (a + 1), show a + 1 + m = a + (m + 1) by omega]
def eR (D : mDeb) (K : Nat → Nat) (V : Nat → Int64) (a b : Nat) (e : gE) : gE := eU D K V (b - a) a e
theorem eR_t {D : mDeb} {K : Nat → Nat} {V : Nat → Int64} {a b c : Nat} (h : a ≤ b) (h' : b ≤ c) (e : gE) : eR D K V a c e = eR D K V b c (eR D K V a b e) := by
  rw [eR, eR, eR, show c - a = (b - a) + (c - b) by omega, eU_add, show a + (b - a) = b by omega]
theorem eR_r {D : mDeb} {K : Nat → Nat} {V : Nat → Int64} {a : Nat} (e : gE) : eR D K V a a e = e := by rw [eR, Nat.sub_self]; rfl
theorem eR_1 {D : mDeb} {K : Nat → Nat} {V : Nat → Int64} {a : Nat} (e : gE) : eR D K V a (a + 1) e = fl (un D K V a) 3 a e := by rw [eR, show a + 1 - a = 1 by omega]; rfl
theorem eR_k {D : mDeb} {K : Nat → Nat} {V : Nat → Int64} {a : Nat} (e : gE) (h : K a ≠ 24) : eR D K V a (a + 1) e = e := by
  rw [eR_1, un, decide_eq_false h, Bool.false_and, fl_f]
theorem eR_n {D : mDeb} {K : Nat → Nat} {V : Nat → Int64} {a : Nat} (e : gE) (h : K a = 24) : eR D K V a (a + 1) e = fl (decide (dF D (V a) = -1)) 3 a e := by
  rw [eR_1, un, decide_eq_true h, Bool.true_and]
/-- what a single test says -/
noncomputable def aV (D : mDeb) (K : Nat → Nat) (V : Nat → Int64) (t : Nat) : Bool :=
  if dF D (V (t + 1)) = -1 then decide (K t = 16) else if K t = 17 then decide (dc D (uN (dF D (V (t + 1)))) = 1) else decide (bF D (uN (dF D (V (t + 1)))) = if K t = 14 then 1 else if K t = 15 then 2 else 0)
def hL (K : Nat → Nat) (g : gP → gP) (h : Nat → Bool) : Nat → Bool → Bool → gP → Bool
  | 0, acc, cur, _ => acc || cur
  | m + 1, acc, cur, s => if gT K 19 s = true then hL K g h m acc (cur && h (s.1 + 1)) (g (gA s)) else if gT K 20 s = true then hL K g h m (acc || cur) (h (s.1 + 1)) (g (gA s)) else acc || cur
noncomputable def hS (K : Nat → Nat) (at' : Nat → Bool) : Nat → Nat → Bool
  | 0, t => at' t
  | r + 1, t => if K t = 18 then !hS K at' r (t + 1) else if K t = 21 then hL K (gSg K r) (hS K at' r) 400 false (hS K at' r (t + 1)) (gSg K r (t + 1, true)) else at' t
noncomputable def hT (K : Nat → Nat) (at' : Nat → Bool) (r t : Nat) : Bool := hL K (gSg K r) (hS K at' r) 400 false (hS K at' r t) (gSg K r (t, true))
theorem hL_fix {K : Nat → Nat} {E : Nat} {g : gP → gP} {h : Nat → Bool} (hE : gEnd K E) (hg : ∀ s : gP, s.1 ≤ E → (g s).1 ≤ E) (hm : ∀ s : gP, s.1 ≤ (g s).1) : ∀ m m' acc cur (s : gP), s.1 ≤ E → E ≤ s.1 + m → E ≤ s.1 + m' → hL K g h m acc cur s = hL K g h m' acc cur s
  | 0, 0, _, _, s, _, _, _ => rfl
  | 0, m' + 1, acc, cur, s, hs, h1, _ => by
    have e : s.1 = E := by omega
    rw [hL, hL, if_neg, if_neg]
    · rw [gT, e]; rcases hE with q | q <;> rw [q] <;> simp
    · rw [gT, e]; rcases hE with q | q <;> rw [q] <;> simp
  | m + 1, 0, acc, cur, s, hs, _, h1 => by
    have e : s.1 = E := by omega
    rw [hL, hL, if_neg, if_neg]
    · rw [gT, e]; rcases hE with q | q <;> rw [q] <;> simp
    · rw [gT, e]; rcases hE with q | q <;> rw [q] <;> simp
  | m + 1, m' + 1, acc, cur, s, hs, h1, h2 => by
    have a := hm (gA s)
    have a1 : (gA s).1 = s.1 + 1 := rfl
    rw [hL, hL]
    by_cases q : gT K 19 s = true
    · rw [if_pos q, if_pos q]
      exact hL_fix hE hg hm m m' _ _ _ (hg _ (gA_le hE (by omega) hs q)) (by omega) (by omega)
    rw [if_neg q, if_neg q]
    by_cases q2 : gT K 20 s = true
    · rw [if_pos q2, if_pos q2]
      exact hL_fix hE hg hm m m' _ _ _ (hg _ (gA_le hE (by omega) hs q2)) (by omega) (by omega)
    · rw [if_neg q2, if_neg q2]
theorem hL_and {K : Nat → Nat} {E : Nat} {g : gP → gP} {h : Nat → Bool} (hE : gEnd K E) (hE4 : E ≤ 400) (hg : ∀ s : gP, s.1 ≤ E → (g s).1 ≤ E) (hm : ∀ s : gP, s.1 ≤ (g s).1) {t : Nat} (ht : t ≤ E) (q : K t = 19) (acc cur : Bool) : hL K g h 400 acc cur (t, true) = hL K g h 400 acc (cur && h (t + 1)) (g (t + 1, true)) := by
  have a : t + 1 ≤ (g (t + 1, true)).1 := hm (t + 1, true)
  rw [show (400 : Nat) = 399 + 1 from rfl, hL, if_pos (gT_1.mpr q)]
  exact hL_fix hE hg hm 399 400 _ _ _ (hg _ (lt_E hE q (by decide) ht)) (by simp only [gA_1]; omega) (by simp only [gA_1]; omega)
theorem hL_or {K : Nat → Nat} {E : Nat} {g : gP → gP} {h : Nat → Bool} (hE : gEnd K E) (hE4 : E ≤ 400) (hg : ∀ s : gP, s.1 ≤ E → (g s).1 ≤ E) (hm : ∀ s : gP, s.1 ≤ (g s).1) {t : Nat} (ht : t ≤ E) (q : K t = 20) (acc cur : Bool) : hL K g h 400 acc cur (t, true) = hL K g h 400 (acc || cur) (h (t + 1)) (g (t + 1, true)) := by
  have a : t + 1 ≤ (g (t + 1, true)).1 := hm (t + 1, true)
  rw [show (400 : Nat) = 399 + 1 from rfl, hL, if_neg (fun z => by rw [gT_1] at z; omega), if_pos (gT_1.mpr q)]
  exact hL_fix hE hg hm 399 400 _ _ _ (hg _ (lt_E hE q (by decide) ht)) (by simp only [gA_1]; omega) (by simp only [gA_1]; omega)
theorem hL_stop {K : Nat → Nat} {g : gP → gP} {h : Nat → Bool} {t : Nat} (q : K t ≠ 19) (q2 : K t ≠ 20) (acc cur : Bool) : hL K g h 400 acc cur (t, true) = (acc || cur) := by
  rw [show (400 : Nat) = 399 + 1 from rfl, hL, if_neg (fun z => q (gT_1.mp z)), if_neg (fun z => q2 (gT_1.mp z))]
theorem hL_mv' {K : Nat → Nat} {g : gP → gP} {h : Nat → Bool} {t : Nat} (m : Nat) (q : K t ≠ 19) (acc cur : Bool) : hL K g h (m + 1) acc cur (t, true) = hL K g h (m + 1) false (acc || cur) (t, true) := by
  have u : ∀ a c, hL K g h (m + 1) a c (t, true) = if gT K 19 (t, true) = true then hL K g h m a (c && h (t + 1)) (g (gA (t, true))) else if gT K 20 (t, true) = true then hL K g h m (a || c) (h (t + 1)) (g (gA (t, true))) else a || c := fun _ _ => rfl
  rw [u, u, if_neg (fun z => q (gT_1.mp z)), if_neg (fun z => q (gT_1.mp z)), Bool.false_or]
theorem hL_mv {K : Nat → Nat} {g : gP → gP} {h : Nat → Bool} {t : Nat} (q : K t ≠ 19) (acc cur : Bool) : hL K g h 400 acc cur (t, true) = hL K g h 400 false (acc || cur) (t, true) := hL_mv' 399 q acc cur
theorem LL_and {K : Nat → Nat} {E : Nat} {g : gP → gP} (hE : gEnd K E) (hE4 : E ≤ 400) (hg : ∀ s : gP, s.1 ≤ E → (g s).1 ≤ E) (hm : ∀ s : gP, s.1 ≤ (g s).1) {t : Nat} (ht : t ≤ E) (q : K t = 19 ∨ K t = 20) : gL K g 400 (t, true) = gL K g 400 (g (t + 1, true)) :=
  LL_step (s := (t, true)) hE hE4 hg hm ht (q.elim (fun z => .inl (gT_1.mpr z)) (fun z => .inr (gT_1.mpr z)))
/-- what went wrong stays wrong -/
theorem gL_good {K : Nat → Nat} {g : gP → gP} {s : gP} (h : (gL K g 400 s).2 = true) : s.2 = true := by
  cases z : s.2
  · rw [LL_stop (fun q => q.elim (gT_f z) (gT_f z)), z] at h; exact h
  · rfl
theorem b01_and (a b : Bool) : b01 a &&& b01 b = b01 (a && b) := by cases a <;> cases b <;> decide
theorem b01_or (a b : Bool) : b01 a ||| b01 b = b01 (a || b) := by cases a <;> cases b <;> decide
theorem b01_01 (a : Bool) : b01 a = 0 ∨ b01 a = 1 := by cases a; exact .inl rfl; exact .inr rfl
theorem gSg0_good {K : Nat → Nat} {t : Nat} (h : (gSg K 0 (t, true)).2 = true) : (14 ≤ K t ∧ K t ≤ 17) ∧ K (t + 1) = 24 ∧ gSg K 0 (t, true) = (t + 2, true) := by
  rw [gSg] at h ⊢
  by_cases q : gAt K (t, true)
  · rw [gIf_pos q, gA_1] at h ⊢
    by_cases k : K (t + 1) = 24
    · rw [gN_1 k]
      refine ⟨?_, k, rfl⟩
      rcases q with z | z | z | z <;> have := gT_1.mp z <;> omega
    · rw [gN_0 k] at h; exact absurd h Bool.false_ne_true
  · rw [gIf_neg q] at h; exact absurd h Bool.false_ne_true
theorem gSgS_good {K : Nat → Nat} {r t : Nat} (h : (gSg K (r + 1) (t, true)).2 = true) :
    ((14 ≤ K t ∧ K t ≤ 17) ∧ K (t + 1) = 24 ∧ gSg K (r + 1) (t, true) = (t + 2, true)) ∨ (K t = 18 ∧ gSg K (r + 1) (t, true) = gSg K r (t + 1, true)) ∨ (K t = 21 ∧ (gTst K (gSg K r) (t + 1, true)).2 = true ∧ K (gTst K (gSg K r) (t + 1, true)).1 = 22 ∧ gSg K (r + 1) (t, true) = ((gTst K (gSg K r) (t + 1, true)).1 + 1, true)) := by
  rw [gSg] at h ⊢
  by_cases q : gAt K (t, true)
  · rw [gIf_pos q, gA_1] at h ⊢
    by_cases k : K (t + 1) = 24
    · rw [gN_1 k]
      refine .inl ⟨?_, k, rfl⟩
      rcases q with z | z | z | z <;> have := gT_1.mp z <;> omega
    · rw [gN_0 k] at h; exact absurd h Bool.false_ne_true
  rw [gIf_neg q] at h ⊢
  by_cases k : K t = 18
  · rw [gIf_pos (gT_1.mpr k), gA_1]; exact .inr (.inl ⟨k, rfl⟩)
  rw [gIf_neg (fun z => k (gT_1.mp z))] at h ⊢
  by_cases k2 : K t = 21
  · rw [gPr, gN_1 k2, if_pos rfl] at h ⊢
    have f : (gTst K (gSg K r) (t + 1, true)).2 = true := by
      cases z : (gTst K (gSg K r) (t + 1, true)).2
      · rw [gN_f z, z] at h; exact h
      · rfl
    by_cases k3 : K (gTst K (gSg K r) (t + 1, true)).1 = 22
    · exact .inr (.inr ⟨k2, f, k3, gN_t f k3⟩)
    · rw [gN_n k3] at h; exact absurd h Bool.false_ne_true
  · rw [gPr, gN_0 k2, if_neg (show ¬ (false = true) by decide), gN_ff] at h; exact absurd h Bool.false_ne_true
