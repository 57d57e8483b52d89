/-! ===== the class's teller: its steps, its tests ===== -/
def fK (σ τ : mS) : Prop := (∀ a, (a < 5 ∨ 14 < a) → a ≠ 16 → a ≠ 17 → a ≠ 25 → τ.1 a = σ.1 a) ∧ (∀ k, k ≠ 2 → k ≠ 10 → τ.1 5 k = σ.1 5 k) ∧ (∀ a, (a < 5 ∨ 14 < a) → a ≠ 16 → τ.2.1 a = σ.2.1 a) ∧ (∀ k, k ≠ 11 → τ.2.1 5 k = σ.2.1 5 k) ∧ τ.2.2 = σ.2.2
theorem fK_r (σ : mS) : fK σ σ := ⟨fun _ _ _ _ _ => rfl, fun _ _ _ => rfl, fun _ _ _ => rfl, fun _ _ => rfl, rfl⟩
theorem fK_t {σ τ ρ : mS} (h : fK σ τ) (g : fK τ ρ) : fK σ ρ := ⟨fun a x y z w => (g.1 a x y z w).trans (h.1 a x y z w), fun k x y => (g.2.1 k x y).trans (h.2.1 k x y), fun a x y => (g.2.2.1 a x y).trans (h.2.2.1 a x y), fun k x => (g.2.2.2.1 k x).trans (h.2.2.2.1 k x), g.2.2.2.2.trans h.2.2.2.2⟩
theorem fK_B {σ τ : mS} (f : fB σ τ) : fK σ τ := ⟨fun a x y z _ => f.1 a x y z, f.2⟩
theorem fK_25 (σ : mS) (k : Nat) (x : Int32) : fK σ (mPI σ 25 k x) := ⟨fun a _ _ _ w => mPI_ne w, fun k _ _ => congrFun (mPI_ne (by decide)) k, fun _ _ _ => rfl, fun _ _ => rfl, rfl⟩
theorem fK_tC {σ τ : mS} (f : fK σ τ) {K P : Nat → Nat} {V : Nat → Int64} {M : Nat} (h : tC σ K P V M) : tC τ K P V M := by
  rw [tC, f.1 20 (by decide) (by decide) (by decide) (by decide), f.1 22 (by decide) (by decide) (by decide) (by decide), f.2.2.1 23 (by decide) (by decide), f.2.2.2.2]; exact h
/-- the teller at a token, with its error -/
def tI (σ τ : mS) (D : mDeb) (t : Nat) (e : gE) : Prop := fK σ τ ∧ cD τ D ∧ τ.1 25 3 = nI t ∧ τ.1 25 4 = e.1 ∧ τ.1 25 5 = e.2
theorem tI_mv {σ τ : mS} {D : mDeb} {t : Nat} {e : gE} (h : tI σ τ D t e) (t' : Nat) : tI σ (mPI τ 25 3 (nI t')) D t' e :=
  ⟨fK_t h.1 (fK_25 _ _ _), h.2.1, by rw [mPI_at, if_pos rfl], by rw [mPI_at, if_neg (by decide)]; exact h.2.2.2.1, by rw [mPI_at, if_neg (by decide)]; exact h.2.2.2.2⟩
/-- a debate's change -/
theorem tI_ch {σ τ ρ : mS} {D D' : mDeb} {t : Nat} {e : gE} (h : tI σ τ D t e) (g : cD ρ D' ∧ fB τ ρ) : tI σ ρ D' t e := by
  have e25 : ρ.1 25 = τ.1 25 := g.2.1 25 (by decide) (by decide) (by decide)
  exact ⟨fK_t h.1 (fK_B g.2), g.1, by rw [e25]; exact h.2.2.1, by rw [e25]; exact h.2.2.2.1, by rw [e25]; exact h.2.2.2.2⟩
theorem tI_fl {σ τ : mS} {D : mDeb} {t : Nat} {e : gE} (h : tI σ τ D t e) (p : Bool) (n : Int32) : tI σ (g_X5_failIf_25 τ (b01 p) n) D t (fl p n t e) ∧ (g_X5_failIf_25 τ (b01 p) n).2 = τ.2 := by
  rw [g_X5_failIf_25, h.2.2.2.1, h.2.2.1]
  cases p
  · rw [if_pos (show b01 false = 0 from rfl), fl_f]; exact ⟨h, rfl⟩
  · rw [if_neg (show ¬ b01 true = 0 by decide)]
    by_cases z : e.1 = 0
    · rw [if_pos z, fl_t z]
      exact ⟨⟨fK_t h.1 (fK_t (fK_25 _ _ _) (fK_25 _ _ _)), h.2.1, by rw [mPI_at, if_neg (by decide), mPI_at, if_neg (by decide)]; exact h.2.2.1, by rw [mPI_at, if_neg (by decide), mPI_at, if_pos rfl], by rw [mPI_at, if_pos rfl]⟩, rfl⟩
    · rw [if_neg z, fl_e z]; exact ⟨h, rfl⟩
theorem S_fail {Γ : Nat × (Nat → Int32)} {d : Nat} {Q : mQ} {σ τ : mS} {D : mDeb} {t : Nat} {e : gE} (p : Bool) {x : Int32} (n : Int32) (h : tI σ τ D t e) (hx : x = b01 p) (hQ : ∀ τ', tI σ τ' D t (fl p n t e) → τ'.2 = τ.2 → Q (.inl none) 60 mSH τ') : mCall Γ M_X5_failIf (d + 1) 0 0 [.ref 25, .int x, .int n] 60 mSH τ Q := by
  subst hx
  obtain ⟨a, b⟩ := tI_fl h p n
  exact S_X5_failIf_25 _ _ (hQ _ a b)
theorem cnt_nI {n m : Nat} (h : n ≤ m) : cnt (nI n) m := ⟨n, h, rfl⟩
theorem tC_val {σ : mS} {K P : Nat → Nat} {V : Nat → Int64} {M i : Nat} (h : tC σ K P V M) (hi : i < M) : f_X6_valueAt_20 σ (nI i) = V i := by
  have := h.1.2
  rw [f_X6_valueAt_20, if_neg (nI_pos (by omega)), h.1.1, if_neg (nI_ge hi (by omega)), if_neg (by rw [i400]; exact nI_nlt (by omega) (by omega)), nI_clamp (by omega), (h.2.2.2 i hi).2.2]
theorem cD_fi {τ : mS} {D : mDeb} (h : cD τ D) (c : Int64) : mFind (τ.2.1 8) c 0 (τ.1 5 10).toNatClampNeg = dF D c := by
  have h40 := (cD_V h).2.1
  rw [cD_n h, nI_clamp (by omega)]
  exact mFind_congr _ _ (fun k _ hk => (cD_i h (by omega)).2.2.2.2.2.2)
theorem cD_fs {τ : mS} {D : mDeb} (h : cD τ D) (c : Int64) : mFind (τ.2.1 6) c 0 (τ.1 5 2).toNatClampNeg = dP D c := by
  have h6 := (cD_V h).2.2.2.1
  rw [cD_s h, nI_clamp (by omega)]
  exact mFind_congr _ _ (fun k _ hk => (cD_p h (by omega)).2)
theorem S_kindT {Γ : Nat × (Nat → Int32)} {d : Nat} {Q : mQ} {σ τ : mS} {K P : Nat → Nat} {V : Nat → Int64} {M : Nat} {D : mDeb} {t : Nat} {e : gE} (hC : tC σ K P V M) (h : tI σ τ D t e) (ht : t < M) (hQ : Q (.inl (some (.ref (1000 + K t)))) 60 mSH τ) : mCall Γ M_X6_kindAt (d + 1) 0 0 [.ref 20, .int (τ.1 25 3)] 60 mSH τ Q := by
  have hC := fK_tC h.1 hC
  obtain ⟨i1, i2, i3⟩ := tC_in hC ht
  rw [h.2.2.1]
  refine S_X6_kindAt_20 _ (fun _ _ _ => i1) (fun _ _ _ => i2) ?_
  rw [tC_kind hC ht]; exact hQ
theorem S_valT {Γ : Nat × (Nat → Int32)} {d : Nat} {Q : mQ} {σ τ : mS} {K P : Nat → Nat} {V : Nat → Int64} {M : Nat} {D : mDeb} {t : Nat} {e : gE} (hC : tC σ K P V M) (h : tI σ τ D t e) (ht : t < M) (hQ : Q (.inl (some (.long (V t)))) 60 mSH τ) : mCall Γ M_X6_valueAt (d + 1) 0 0 [.ref 20, .int (nI t)] 60 mSH τ Q := by
  have hC := fK_tC h.1 hC
  obtain ⟨i1, i2, i3⟩ := tC_in hC ht
  refine S_X6_valueAt_20 _ (fun _ _ _ => i1) ?_
  rw [tC_val hC ht]; exact hQ
theorem S_seesT {Γ : Nat × (Nat → Int32)} {d : Nat} {Q : mQ} {σ τ : mS} {K P : Nat → Nat} {V : Nat → Int64} {M : Nat} {D : mDeb} {t : Nat} {e : gE} (k : Nat) (hC : tC σ K P V M) (h : tI σ τ D t e) (ht : t < M) (hk : k < 28)
    (h1 : K t = k → Q (.inl (some (.int 1))) 60 mSH τ) (h0 : K t ≠ k → Q (.inl (some (.int 0))) 60 mSH τ) : mCall Γ M_X5_sees (d + 2) 0 0 [.ref 25, .ref (1000 + k)] 60 mSH τ Q := by
  have hC := fK_tC h.1 hC
  obtain ⟨i1, i2, i3⟩ := tC_in hC ht
  rw [← h.2.2.1] at i1 i2 i3
  refine S_X5_sees_25 (1000 + k) (by omega) (fun _ _ _ => i1) (fun _ _ _ => i2) i3 ?_
  rw [f_X5_sees_25, h.2.2.1, tC_kind hC ht]
  by_cases q : K t = k
  · rw [if_pos (by omega)]; exact h1 q
  · rw [if_neg (by omega)]; exact h0 q
theorem S_seeT {Γ : Nat × (Nat → Int32)} {d : Nat} {Q : mQ} {σ τ : mS} {K P : Nat → Nat} {V : Nat → Int64} {M : Nat} {D : mDeb} {t : Nat} {e : gE} (hC : tC σ K P V M) (h : tI σ τ D t e) (ht : t < M)
    (hQ : ∀ τ', tI σ τ' D t (fl (decide (dF D (V t) = -1)) 3 t e) → τ'.2 = τ.2 → Q (.inl (some (.int (dF D (V t))))) 60 mSH τ') : mCall Γ M_X5_seeItem (d + 2) 0 0 [.ref 25] 60 mSH τ Q := by
  have hC := fK_tC h.1 hC
  obtain ⟨i1, i2, i3⟩ := tC_in hC ht
  have h40 := (cD_V h.2.1).2.1
  rw [← h.2.2.1] at i1
  refine S_X5_seeItem_25 (fun _ _ _ => i1) (by rw [cD_n h.2.1]; exact cnt_nI h40) ?_
  rw [h_X5_seeItem_25, h.2.2.1, tC_val hC ht, cD_fi h.2.1]
  obtain ⟨a, b⟩ := tI_fl h (decide (dF D (V t) = -1)) 3
  by_cases q : dF D (V t) = -1
  · rw [if_pos q]; rw [decide_eq_true q] at a b
    exact hQ _ (by rw [decide_eq_true q]; exact a) b
  · rw [if_neg q]; rw [decide_eq_false q] at a b
    exact hQ _ (by rw [decide_eq_false q]; exact a) b
theorem S_newT {Γ : Nat × (Nat → Int32)} {d : Nat} {Q : mQ} {σ τ : mS} {K P : Nat → Nat} {V : Nat → Int64} {M : Nat} {D : mDeb} {t : Nat} {e : gE} (hC : tC σ K P V M) (h : tI σ τ D t e) (ht : t < M)
    (hQ : ∀ τ', tI σ τ' D (t + 1) (fl (decide (40 ≤ dn D)) 4 t (fl (decide (dF D (V t) ≠ -1)) 2 t e)) → τ'.2 = τ.2 → Q (.inl (some (.long (V t)))) 60 mSH τ') : mCall Γ M_X5_takeNewItem (d + 2) 0 0 [.ref 25] 60 mSH τ Q := by
  have hC := fK_tC h.1 hC
  obtain ⟨i1, i2, i3⟩ := tC_in hC ht
  have h40 := (cD_V h.2.1).2.1
  rw [← h.2.2.1] at i1
  refine S_X5_takeNewItem_25 (fun _ _ _ => i1) (by rw [cD_n h.2.1]; exact cnt_nI h40) ?_
  rw [h_X5_takeNewItem_25, h.2.2.1, tC_val hC ht, cD_fi h.2.1]
  have fin : ∀ (p q : Bool), tI σ (mPI (g_X5_failIf_25 (g_X5_failIf_25 τ (b01 p) 2) (b01 q) 4) 25 3 (((g_X5_failIf_25 (g_X5_failIf_25 τ (b01 p) 2) (b01 q) 4).1 25 3) + 1)) D (t + 1) (fl q 4 t (fl p 2 t e)) ∧ (g_X5_failIf_25 (g_X5_failIf_25 τ (b01 p) 2) (b01 q) 4).2 = τ.2 ∧ f_X0_items_5 (g_X5_failIf_25 τ (b01 p) 2) = nI (dn D) := by
    intro p q
    obtain ⟨a, b⟩ := tI_fl h p 2
    obtain ⟨a2, b2⟩ := tI_fl a q 4
    rw [a2.2.2.1, nI_1]
    exact ⟨tI_mv a2 (t + 1), b2.trans b, cD_n a.2.1⟩
  have lt : nI (dn D) < 40 ↔ ¬ 40 ≤ dn D := by rw [i40, nI_ltI (by omega) (by omega)]; omega
  by_cases q : dF D (V t) = -1
  · obtain ⟨f1, f2, f3⟩ := fin false (decide (40 ≤ dn D))
    rw [if_pos q]
    rw [show decide (dF D (V t) ≠ -1) = false from decide_eq_false (fun z => z q)] at hQ
    by_cases w : 40 ≤ dn D
    · rw [decide_eq_true w] at f1 f2 hQ
      rw [if_neg (by rw [show f_X0_items_5 (g_X5_failIf_25 τ 0 2) = nI (dn D) from f3, lt]; exact fun z => z w)]
      exact hQ _ f1 f2
    · rw [decide_eq_false w] at f1 f2 hQ
      rw [if_pos (by rw [show f_X0_items_5 (g_X5_failIf_25 τ 0 2) = nI (dn D) from f3, lt]; exact w)]
      exact hQ _ f1 f2
  · obtain ⟨f1, f2, f3⟩ := fin true (decide (40 ≤ dn D))
    rw [if_neg q]
    rw [show decide (dF D (V t) ≠ -1) = true from decide_eq_true q] at hQ
    by_cases w : 40 ≤ dn D
    · rw [decide_eq_true w] at f1 f2 hQ
      rw [if_neg (by rw [show f_X0_items_5 (g_X5_failIf_25 τ 1 2) = nI (dn D) from f3, lt]; exact fun z => z w)]
      exact hQ _ f1 f2
    · rw [decide_eq_false w] at f1 f2 hQ
      rw [if_pos (by rw [show f_X0_items_5 (g_X5_failIf_25 τ 1 2) = nI (dn D) from f3, lt]; exact w)]
      exact hQ _ f1 f2
/-- what stands is known -/
def tW (D : mDeb) (τ : mS) : Prop := τ.2.1 16 3 = sSet (bF D) 1 ∧ τ.2.1 16 4 = sSet (bF D) 2
theorem tW_2 {D : mDeb} {τ ρ : mS} (h : tW D τ) (e : ρ.2 = τ.2) : tW D ρ := by rw [tW, e]; exact h
theorem bit_m1 (τ : mS) : f_X7_bit τ (-1) = f_X7_bit τ (nI 63) := by rw [f_X7_bit, f_X7_bit]; decide
theorem isIn_m1 (τ : mS) : f_X4_isIn_16 τ (-1) = f_X4_isIn_16 τ (nI 63) := by rw [f_X4_isIn_16, f_X4_isIn_16, show (Int32.toInt64 (-1) &&& 63) = (Int32.toInt64 (nI 63) &&& 63) by decide]
theorem isOut_m1 (τ : mS) : f_X4_isOut_16 τ (-1) = f_X4_isOut_16 τ (nI 63) := by rw [f_X4_isOut_16, f_X4_isOut_16, show (Int32.toInt64 (-1) &&& 63) = (Int32.toInt64 (nI 63) &&& 63) by decide]
theorem t_conc {τ : mS} {D : mDeb} (h : cD τ D) {x : Int32} (hx : x = -1 ∨ ∃ k, k < dn D ∧ x = nI k) : f_X0_isConceded_5 τ x = b01 (if x = -1 then false else decide (dc D (uN x) = 1)) := by
  have h40 := (cD_V h).2.1
  rcases hx with q | ⟨k, hk, q⟩
  · rw [q, if_pos rfl, f_X0_isConceded_5, bit_m1, if_pos ((bB_isSet τ _ (show 63 < 64 by decide)).mpr ((cD_st h).2 63 (by omega)))]; rfl
  · subst q
    have := c_conc h.1 (k := k) (by rw [h.2]; exact hk)
    rw [h.2] at this
    rw [this, if_neg (nI_m1 (by omega)), uN_nI (by omega)]
    by_cases z : dc D k = 1
    · rw [if_pos z, decide_eq_true z]; rfl
    · rw [if_neg z, decide_eq_false z]; rfl
theorem t_word {τ : mS} {D : mDeb} (h : cD τ D) (w : tW D τ) {x : Int32} (hx : x = -1 ∨ ∃ k, k < dn D ∧ x = nI k) {j : Nat} (hj : 14 ≤ j) (hj2 : j ≤ 16) : f_X4_wordFor_16 τ x = 1000 + j ↔ (if x = -1 then decide (j = 16) else decide (bF D (uN x) = if j = 14 then 1 else if j = 15 then 2 else 0)) = true := by
  have h40 := (cD_V h).2.1
  have hb : sOk (dn D) (bF D) := stB_ok _ _ _ _
  have main : ∀ k, k < 64 → (f_X4_wordFor_16 τ (nI k) = 1000 + j ↔ bF D k = if j = 14 then 1 else if j = 15 then 2 else 0) := by
    intro k hk
    have a := c_isIn0_16 h40 hb w.1 hk
    have b := c_isOut0_16 h40 hb w.2 hk
    rw [f_X4_wordFor_16]
    rcases hb.1 k with z | z | z
    · rw [if_pos (a.mpr (by rw [z]; decide)), if_pos (b.mpr (by rw [z]; decide)), z]
      by_cases j4 : j = 14
      · subst j4; decide
      by_cases j5 : j = 15
      · subst j5; decide
      have : j = 16 := by omega
      subst this; decide
    · rw [if_neg (fun y => a.mp y z), z]
      by_cases j4 : j = 14
      · subst j4; decide
      by_cases j5 : j = 15
      · subst j5; decide
      have : j = 16 := by omega
      subst this; decide
    · rw [if_pos (a.mpr (by rw [z]; decide)), if_neg (fun y => b.mp y z), z]
      by_cases j4 : j = 14
      · subst j4; decide
      by_cases j5 : j = 15
      · subst j5; decide
      have : j = 16 := by omega
      subst this; decide
  rcases hx with q | ⟨k, hk, q⟩
  · have : f_X4_wordFor_16 τ (-1) = f_X4_wordFor_16 τ (nI 63) := by rw [f_X4_wordFor_16, f_X4_wordFor_16, isIn_m1, isOut_m1]
    rw [q, this, main 63 (by decide), if_pos rfl, hb.2 63 (by omega)]
    by_cases j4 : j = 14
    · subst j4; decide
    by_cases j5 : j = 15
    · subst j5; decide
    have : j = 16 := by omega
    subst this; decide
  · subst q
    rw [main k (by omega), if_neg (nI_m1 (by omega)), uN_nI (by omega), decide_eq_true_eq]
/-- a single test's word and name -/
theorem S_atomT {Γ : Nat × (Nat → Int32)} {d n0 bc bs : Nat} {Q : mQ} {σ τ : mS} {K P : Nat → Nat} {V : Nat → Int64} {M : Nat} {D : mDeb} {t : Nat} {x : Int32} {e : gE} (hC : tC σ K P V M) (h : tI σ τ D t e) (w : tW D τ) (ht : t + 1 < M) (hk : 14 ≤ K t ∧ K t ≤ 17) (hn : K (t + 1) = 24)
    (hQ : ∀ τ', tI σ τ' D (t + 2) (eR D K V t (t + 2) e) → τ'.2 = τ.2 → Q (.inl (some (.int (b01 (aV D K V t))))) 60 mSH τ') :
    mCall Γ M_X5_seeItem (d + 3) 0 0 [.ref 25] 60 mSH (mPI τ 25 3 ((τ.1 25 3) + 1)) (mRt Γ M_X5_takeSingle (d + 4) Q n0 bc bs 88 [(0, .ref 25), (1, .int x), (2, .ref (1000 + K t))] []) := by
  rw [h.2.2.1, nI_1]
  have hs := dF_sp D (V (t + 1))
  have ee : eR D K V t (t + 2) e = fl (decide (dF D (V (t + 1)) = -1)) 3 (t + 1) e := by rw [eR_t (b := t + 1) (by omega) (by omega), eR_k e (by omega), eR_n e hn]
  rw [ee] at hQ
  refine S_seeT hC (tI_mv h (t + 1)) ht (fun τ1 h1 e1 => T_X5_takeSingle_25_88a _ _ _ (by omega) ?_)
  rw [h1.2.2.1, nI_1]
  have h2 := tI_mv h1 (t + 2)
  have w2 : tW D (mPI τ1 25 3 (nI (t + 2))) := tW_2 w e1
  refine ⟨fun c => ?_, fun c => ?_⟩
  · refine S_X0_isConceded_5 _ (T_X5_takeSingle_25_114a _ _ _ _ (by omega) ?_)
    rw [t_conc h2.2.1 hs]
    refine ⟨b01_01 _, ?_⟩
    have : aV D K V t = (if dF D (V (t + 1)) = -1 then false else decide (dc D (uN (dF D (V (t + 1)))) = 1)) := by
      rw [aV, if_pos (show K t = 17 by omega), decide_eq_false (show ¬ K t = 16 by omega)]
    rw [← this]
    exact hQ _ h2 e1
  · have ex : 1000 ≤ f_X4_wordFor_16 (mPI τ1 25 3 (nI (t + 2))) (dF D (V (t + 1))) ∧ f_X4_wordFor_16 (mPI τ1 25 3 (nI (t + 2))) (dF D (V (t + 1))) < 1028 := by
      rw [f_X4_wordFor_16]; repeat' split
      all_goals omega
    have tw := t_word h2.2.1 w2 hs (j := K t) (by omega) (by omega)
    have av : aV D K V t = (if dF D (V (t + 1)) = -1 then decide (K t = 16) else decide (bF D (uN (dF D (V (t + 1)))) = if K t = 14 then 1 else if K t = 15 then 2 else 0)) := by
      rw [aV, if_neg (show ¬ K t = 17 by omega)]
    rw [← av] at tw
    refine S_X4_wordFor_16 _ (T_X5_takeSingle_25_125a _ _ _ _ (by omega) ex ⟨fun z => ?_, fun z => ?_⟩)
    · rw [tw.mp z] at hQ; exact hQ _ h2 e1
    · rw [show aV D K V t = false from bTF (fun y => z (tw.mpr y))] at hQ; exact hQ _ h2 e1
