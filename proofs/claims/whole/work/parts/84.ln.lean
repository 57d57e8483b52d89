/-! ===== a line, carried out ===== -/
def nu (K : Nat → Nat) (u k : Nat) : Nat := if K u = k then u + 2 else u
def nm (K : Nat → Nat) (V : Nat → Int64) (u k : Nat) (usual : Int32) : Int32 := if K u = k then (V (u + 1)).toInt32 else usual
def ne (K : Nat → Nat) (V : Nat → Int64) (u k : Nat) (lo hi : Int32) (e : gE) : gE := if K u = k then fl (decide (V (u + 1) < lo.toInt64 ∨ ¬ V (u + 1) ≤ hi.toInt64)) 5 (u + 1) e else e
def tkE' (D : mDeb) (sp x : Int32) (u : Nat) (e : gE) : gE := fl (decide (dm D (uN sp) < x)) 7 u e
def tkD (D : mDeb) (sp x : Int32) (u : Nat) (e : gE) : mDeb := if (tkE' D sp x u e).1 = 0 then aT D (uN sp) (dm D (uN sp) - x) else D
def eS (D : mDeb) (K : Nat → Nat) (V : Nat → Int64) (t : Nat) (e : gE) : gE := ne K V (t + 2) 1 0 3600 (fl (decide (6 ≤ ds D)) 4 (t + 1) (fl (decide (dP D (V (t + 1)) ≠ -1)) 2 (t + 1) e))
def lnS (D : mDeb) (K : Nat → Nat) (V : Nat → Int64) (t : Nat) (e : gE) : mDeb × gE := (if (eS D K V t e).1 = 0 then aS D (V (t + 1)) (nm K V (t + 2) 1 300) else D, eS D K V t e)
def eN (D : mDeb) (V : Nat → Int64) (t : Nat) (e : gE) : gE := fl (decide (40 ≤ dn D)) 4 t (fl (decide (dF D (V t) ≠ -1)) 2 t e)
def eCl (D : mDeb) (K : Nat → Nat) (V : Nat → Int64) (t : Nat) (e : gE) : gE := ne K V (t + 4) 4 1 50 (fl (decide (dP D (V (t + 3)) = -1)) 3 (t + 3) (eN D V (t + 1) e))
def eC2 (D : mDeb) (K : Nat → Nat) (V : Nat → Int64) (t : Nat) (e : gE) : gE := tkE' D (dP D (V (t + 3))) (10 + nm K V (t + 4) 4 10) (nu K (t + 4) 4) (eCl D K V t e)
def lnC (D : mDeb) (K : Nat → Nat) (V : Nat → Int64) (t : Nat) (e : gE) : mDeb × gE := (if (eC2 D K V t e).1 = 0 then aI (aT D (uN (dP D (V (t + 3)))) (dm D (uN (dP D (V (t + 3)))) - (10 + nm K V (t + 4) 4 10))) (V (t + 1)) 0 (dP D (V (t + 3))) (nm K V (t + 4) 4 10) (-1) (-1) else D, eC2 D K V t e)
def eM1 (D : mDeb) (V : Nat → Int64) (t : Nat) (e : gE) : gE := fl (decide (dk D (uN (dF D (V (t + 3)))) ≠ 0)) 3 (t + 3) (fl (decide (dF D (V (t + 3)) = -1)) 3 (t + 3) (eN D V (t + 1) e))
def eM2 (D : mDeb) (V : Nat → Int64) (kd : Int32) (t : Nat) (e : gE) : gE := fl (decide (kd = 1 ∧ db D (uN (dF D (V (t + 5)))) = db D (uN (dF D (V (t + 3)))))) 6 (t + 5) (fl (decide (dF D (V (t + 5)) = -1)) 3 (t + 5) (eM1 D V t e))
def eM3 (D : mDeb) (K : Nat → Nat) (V : Nat → Int64) (kd : Int32) (t : Nat) (e : gE) : gE := ne K V (t + 6) 10 1 50 (eM2 D V kd t e)
noncomputable def vM' (K : Nat → Nat) (t : Nat) : Nat := if K (nu K (t + 6) 10) = 11 then (gTst K (gSg K 6) (nu K (t + 6) 10 + 1, true)).1 else nu K (t + 6) 10
noncomputable def eM4 (D : mDeb) (K : Nat → Nat) (V : Nat → Int64) (kd : Int32) (t : Nat) (e : gE) : gE := if K (nu K (t + 6) 10) = 11 then eR D K V (nu K (t + 6) 10 + 1) (vM' K t) (eM3 D K V kd t e) else eM3 D K V kd t e
noncomputable def hM' (D : mDeb) (K : Nat → Nat) (V : Nat → Int64) (t : Nat) : Bool := if K (nu K (t + 6) 10) = 11 then hT K (aV D K V) 6 (nu K (t + 6) 10 + 1) else true
noncomputable def eM5 (D : mDeb) (K : Nat → Nat) (V : Nat → Int64) (kd : Int32) (t : Nat) (e : gE) : gE := tkE' D (db D (uN (dF D (V (t + 3))))) (5 + nm K V (t + 6) 10 5) (vM' K t) (eM4 D K V kd t e)
noncomputable def lnM (D : mDeb) (K : Nat → Nat) (V : Nat → Int64) (kd : Int32) (t : Nat) (e : gE) : mDeb × gE :=
  (if (eM5 D K V kd t e).1 = 0 then
     (if hM' D K V t = true then aI (aT D (uN (db D (uN (dF D (V (t + 3)))))) (dm D (uN (db D (uN (dF D (V (t + 3)))))) - (5 + nm K V (t + 6) 10 5))) (V (t + 1)) kd (db D (uN (dF D (V (t + 3))))) (nm K V (t + 6) 10 5) (dF D (V (t + 3))) (dF D (V (t + 5)))
      else aT D (uN (db D (uN (dF D (V (t + 3)))))) (dm D (uN (db D (uN (dF D (V (t + 3)))))) - (5 + nm K V (t + 6) 10 5)))
   else D, eM5 D K V kd t e)
def eK1 (D : mDeb) (V : Nat → Int64) (b : Int32) (t : Nat) (e : gE) : gE := fl (decide (dc D (uN (dF D (V (t + 1)))) = b)) 6 (t + 1) (fl (decide (dF D (V (t + 1)) = -1)) 3 (t + 1) e)
def eK2 (D : mDeb) (V : Nat → Int64) (b : Int32) (t : Nat) (e : gE) : gE := tkE' D (db D (uN (dF D (V (t + 1))))) 2 (t + 2) (eK1 D V b t e)
def lnK (D : mDeb) (V : Nat → Int64) (b : Int32) (t : Nat) (e : gE) : mDeb × gE := (if (eK2 D V b t e).1 = 0 then aC (aT D (uN (db D (uN (dF D (V (t + 1)))))) (dm D (uN (db D (uN (dF D (V (t + 1)))))) - 2)) (uN (dF D (V (t + 1)))) b else D, eK2 D V b t e)
noncomputable def ln (D : mDeb) (K : Nat → Nat) (V : Nat → Int64) (t : Nat) (e : gE) : mDeb × gE :=
  if K t = 0 then lnS D K V t e else if K t = 2 then lnC D K V t e else if K t = 5 then lnM D K V 1 t e else if K t = 6 then lnM D K V 2 t e else lnK D V (if K t = 12 then 1 else 0) t e
noncomputable def CO (K : Nat → Nat) (V : Nat → Int64) : Nat → Nat → mDeb → gE → mDeb × gE
  | 0, _, D, e => (D, e)
  | m + 1, t, D, e => if e.1 = 0 ∧ K t ≠ 26 then CO K V m ((gLi K (t, true)).1 + 1) (ln D K V t e).1 (ln D K V t e).2 else (D, e)
theorem fl_0 {p : Bool} {n : Int32} {t : Nat} {e : gE} (h : (fl p n t e).1 = 0) (hn : n ≠ 0) : p = false ∧ e.1 = 0 := by
  rw [fl] at h
  by_cases q : p = true ∧ e.1 = 0
  · rw [if_pos q] at h; exact absurd h hn
  · rw [if_neg q] at h
    exact ⟨bTF (fun z => q ⟨z, h⟩), h⟩
theorem fl_c {p q : Bool} {n : Int32} {t : Nat} {e : gE} (h : e.1 = 0 → p = q) : fl p n t e = fl q n t e := by
  by_cases z : e.1 = 0
  · rw [h z]
  · rw [fl_e z, fl_e z]
theorem flD {p : Prop} [Decidable p] {n : Int32} {t : Nat} {e : gE} (h : (fl (decide p) n t e).1 = 0) (hn : n ≠ 0) : ¬ p ∧ e.1 = 0 := by
  obtain ⟨a, b⟩ := fl_0 h hn
  exact ⟨of_decide_eq_false a, b⟩
theorem ne_0 {K : Nat → Nat} {V : Nat → Int64} {u k : Nat} {lo hi : Int32} {e : gE} (h : (ne K V u k lo hi e).1 = 0) : e.1 = 0 ∧ (K u = k → ¬ V (u + 1) < lo.toInt64 ∧ V (u + 1) ≤ hi.toInt64) := by
  rw [ne] at h
  by_cases q : K u = k
  · rw [if_pos q] at h
    obtain ⟨a, b⟩ := flD h (by decide)
    exact ⟨b, fun _ => ⟨fun z => a (.inl z), Classical.not_not.mp fun z => a (.inr z)⟩⟩
  · rw [if_neg q] at h; exact ⟨h, fun z => absurd z q⟩
theorem l2i_in {v : Int64} (h1 : ¬ v < Int32.toInt64 1) (h2 : v ≤ Int32.toInt64 50) : ∃ y, 1 ≤ y ∧ y ≤ 50 ∧ v.toInt32 = nI y := by
  have a : ¬ v.toInt < 1 := fun q => h1 (by rw [Int64.lt_iff_toInt_lt]; exact q)
  have b : v.toInt ≤ 50 := by rw [Int64.le_iff_toInt_le] at h2; exact h2
  refine ⟨v.toInt.toNat, by omega, by omega, ?_⟩
  apply Int32.toInt_inj.mp
  rw [nI_toInt (by omega), Int64.toInt_toInt32]
  have : ((v.toInt.toNat : Nat) : Int) = v.toInt := by omega
  rw [this]
  simp only [Int.bmod]
  omega
theorem nm_in {K : Nat → Nat} {V : Nat → Int64} {u k : Nat} {usual : Int32} {e : gE} (h : (ne K V u k 1 50 e).1 = 0) (hu : ∃ y, 1 ≤ y ∧ y ≤ 50 ∧ usual = nI y) : ∃ y, 1 ≤ y ∧ y ≤ 50 ∧ nm K V u k usual = nI y := by
  rw [nm]
  by_cases q : K u = k
  · rw [if_pos q]
    have := (ne_0 h).2 q
    exact l2i_in this.1 this.2
  · rw [if_neg q]; exact hu
/-! the grammar says where the tokens are -/
theorem gN_g {K : Nat → Nat} {k : Nat} {s : gP} (h : (gN K k s).2 = true) : s.2 = true ∧ K s.1 = k ∧ gN K k s = (s.1 + 1, true) := by
  have f : s.2 = true := by
    cases z : s.2
    · rw [gN_f z, z] at h; exact h
    · rfl
  by_cases q : K s.1 = k
  · exact ⟨f, q, gN_t f q⟩
  · rw [gN_n q] at h; exact absurd h Bool.false_ne_true
theorem gB_g {K : Nat → Nat} {k : Nat} {s : gP} (h : (gB K k s).2 = true) : s.2 = true ∧ K s.1 = k ∧ K (s.1 + 1) = 24 ∧ gB K k s = (s.1 + 2, true) := by
  obtain ⟨a, b, c⟩ := gN_g h
  obtain ⟨a2, b2, c2⟩ := gN_g a
  rw [c2] at b
  exact ⟨a2, b2, b, by rw [gB, c2, gN_1 b]⟩
theorem gO_g {K : Nat → Nat} {k : Nat} {s : gP} (h : (gO K k s).2 = true) : s.2 = true ∧ (K s.1 = k → K (s.1 + 1) = 25) ∧ gO K k s = (nu K s.1 k, true) := by
  have f : s.2 = true := by
    cases z : s.2
    · rw [gO_f z, z] at h; exact h
    · rfl
  by_cases q : K s.1 = k
  · rw [gO_t f q] at h
    obtain ⟨a, b, c⟩ := gN_g h
    exact ⟨f, fun _ => b, by rw [gO_t f q, c, nu, if_pos q]; rfl⟩
  · exact ⟨f, fun z => absurd z q, by rw [gO_n q, nu, if_neg q]; exact gP_t f⟩
theorem gR_g {K : Nat → Nat} {s : gP} (h : (gR K s).2 = true) : s.2 = true ∧ (K s.1 = 10 → K (s.1 + 1) = 25) ∧ (K (nu K s.1 10) = 11 → (gTst K (gSg K 6) (nu K s.1 10 + 1, true)).2 = true) ∧ gR K s = (if K (nu K s.1 10) = 11 then (gTst K (gSg K 6) (nu K s.1 10 + 1, true)).1 else nu K s.1 10, true) := by
  have f : (gO K 10 s).2 = true := by
    cases z : (gO K 10 s).2
    · rw [gR, gIf_neg (gT_f z), z] at h; exact h
    · rfl
  obtain ⟨a, b, c⟩ := gO_g f
  rw [gR, c] at h ⊢
  by_cases q : K (nu K s.1 10) = 11
  · rw [gIf_pos (gT_1.mpr q), gA_1] at h ⊢
    exact ⟨a, b, fun _ => h, by rw [if_pos q]; exact gP_t h⟩
  · rw [gIf_neg (fun z => q (gT_1.mp z))] at h ⊢
    exact ⟨a, b, fun z => absurd z q, by rw [if_neg q]⟩
theorem gLi_0 {K : Nat → Nat} {t : Nat} (k : K t = 0) (h : (gLi K (t, true)).2 = true) : K (t + 1) = 24 ∧ (K (t + 2) = 1 → K (t + 3) = 25) ∧ (gLi K (t, true)).1 = nu K (t + 2) 1 := by
  rw [gLi, gIf_pos (gT_1.mpr k), gA_1] at h ⊢
  obtain ⟨a, b, c⟩ := gO_g h
  obtain ⟨a2, b2, c2⟩ := gN_g a
  rw [c2] at b c ⊢
  rw [c]
  exact ⟨b2, b, rfl⟩
theorem gLi_2 {K : Nat → Nat} {t : Nat} (k : K t = 2) (h : (gLi K (t, true)).2 = true) : K (t + 1) = 24 ∧ K (t + 2) = 3 ∧ K (t + 3) = 24 ∧ (K (t + 4) = 4 → K (t + 5) = 25) ∧ (gLi K (t, true)).1 = nu K (t + 4) 4 := by
  rw [gLi, gIf_neg (fun z => by rw [gT_1] at z; omega), gIf_pos (gT_1.mpr k), gA_1] at h ⊢
  obtain ⟨a, b, c⟩ := gO_g h
  obtain ⟨a3, b3, d3, c3⟩ := gB_g a
  obtain ⟨a2, b2, c2⟩ := gN_g a3
  rw [c2] at b3 d3 c3 b c ⊢
  rw [c3] at b c ⊢
  rw [c]
  exact ⟨b2, b3, d3, b, rfl⟩
theorem gMv_g {K : Nat → Nat} {t k : Nat} (h : (gMv K k (t + 1, true)).2 = true) : K (t + 1) = 24 ∧ K (t + 3) = 24 ∧ K (t + 5) = 24 ∧ K (t + 2) = 7 ∧ K (t + 4) = k ∧ (K (t + 6) = 10 → K (t + 7) = 25) ∧ (K (nu K (t + 6) 10) = 11 → (gTst K (gSg K 6) (nu K (t + 6) 10 + 1, true)).2 = true) ∧ (gMv K k (t + 1, true)).1 = vM' K t := by
  rw [gMv_R] at h ⊢
  obtain ⟨a, b, c, e⟩ := gR_g h
  obtain ⟨a4, b4, d4, c4⟩ := gB_g a
  obtain ⟨a3, b3, d3, c3⟩ := gB_g a4
  obtain ⟨a2, b2, c2⟩ := gN_g a3
  rw [c2] at b3 d3 c3 b4 d4 c4 b c e ⊢
  rw [c3] at b4 d4 c4 b c e ⊢
  rw [c4] at b c e ⊢
  rw [e]
  exact ⟨b2, d3, d4, b3, b4, b, c, rfl⟩
theorem gLi_5 {K : Nat → Nat} {t : Nat} (k : K t = 5) (h : (gLi K (t, true)).2 = true) : (gMv K 8 (t + 1, true)).2 = true ∧ (gLi K (t, true)).1 = (gMv K 8 (t + 1, true)).1 := by
  rw [gLi, gIf_neg (fun z => by rw [gT_1] at z; omega), gIf_neg (fun z => by rw [gT_1] at z; omega), gIf_pos (gT_1.mpr k), gA_1] at h ⊢
  exact ⟨h, rfl⟩
theorem gLi_6 {K : Nat → Nat} {t : Nat} (k : K t = 6) (h : (gLi K (t, true)).2 = true) : (gMv K 9 (t + 1, true)).2 = true ∧ (gLi K (t, true)).1 = (gMv K 9 (t + 1, true)).1 := by
  rw [gLi, gIf_neg (fun z => by rw [gT_1] at z; omega), gIf_neg (fun z => by rw [gT_1] at z; omega), gIf_neg (fun z => by rw [gT_1] at z; omega), gIf_pos (gT_1.mpr k), gA_1] at h ⊢
  exact ⟨h, rfl⟩
theorem gLi_k {K : Nat → Nat} {t : Nat} (k0 : K t ≠ 0) (k2 : K t ≠ 2) (k5 : K t ≠ 5) (k6 : K t ≠ 6) (h : (gLi K (t, true)).2 = true) : (K t = 12 ∨ K t = 13) ∧ K (t + 1) = 24 ∧ (gLi K (t, true)).1 = t + 2 := by
  rw [gLi, gIf_neg (fun z => k0 (gT_1.mp z)), gIf_neg (fun z => k2 (gT_1.mp z)), gIf_neg (fun z => k5 (gT_1.mp z)), gIf_neg (fun z => k6 (gT_1.mp z))] at h ⊢
  by_cases q : K t = 12 ∨ K t = 13
  · rw [gIf_pos (q.elim (fun z => .inl (gT_1.mpr z)) (fun z => .inr (gT_1.mpr z))), gA_1] at h ⊢
    obtain ⟨a, b, c⟩ := gN_g h
    rw [c]
    exact ⟨q, b, rfl⟩
  · rw [gIf_neg (fun z => q (z.elim (fun y => .inl (gT_1.mp y)) (fun y => .inr (gT_1.mp y))))] at h
    exact absurd h Bool.false_ne_true
