/-! ===== the model's standing, round by round ===== -/
theorem sFinds_congr {D : mDeb} (h : dV D) {co hi : Nat → Bool} {b b' : Nat → Int32} (hb : ∀ k, k < dn D → b k = b' k) {k : Nat} (hk : k < dn D) : sFinds D co hi b k = sFinds D co hi b' k := by
  have h40 := h.2.1
  have e1 : (dr D k ≠ -1 ∧ b (uN (dr D k)) = 2) ↔ (dr D k ≠ -1 ∧ b' (uN (dr D k)) = 2) := by
    rcases dV_r h hk with e | ⟨j, hj, e⟩
    · rw [e]; simp
    · rw [e, uN_nI (by omega), hb j (by omega)]
  have e2 : (dr D k = -1 ∨ b (uN (dr D k)) = 1) ↔ (dr D k = -1 ∨ b' (uN (dr D k)) = 1) := by
    rcases dV_r h hk with e | ⟨j, hj, e⟩
    · rw [e]; simp
    · rw [e, uN_nI (by omega), hb j (by omega)]
  have e3 : (∃ a, a < dn D ∧ dst D a = true ∧ dt D a = nI k ∧ b a = 1) ↔ (∃ a, a < dn D ∧ dst D a = true ∧ dt D a = nI k ∧ b' a = 1) := by
    constructor
    · rintro ⟨a, h1, h2, h3, h4⟩; exact ⟨a, h1, h2, h3, by rw [← hb a h1]; exact h4⟩
    · rintro ⟨a, h1, h2, h3, h4⟩; exact ⟨a, h1, h2, h3, by rw [hb a h1]; exact h4⟩
  have e4 : (∀ a, a < dn D → dst D a = true → dt D a = nI k → b a = 2) ↔ (∀ a, a < dn D → dst D a = true → dt D a = nI k → b' a = 2) := by
    constructor
    · intro q a h1 h2 h3; rw [← hb a h1]; exact q a h1 h2 h3
    · intro q a h1 h2 h3; rw [hb a h1]; exact q a h1 h2 h3
  have eH : sHit D co hi b k = sHit D co hi b' k := by rw [sHit, sHit, propext e1, propext e3]
  have eF : sFree D b k = sFree D b' k := by rw [sFree, sFree, propext e2, propext e4]
  rw [sFinds, sFinds, eH, eF]
theorem mCnt_mono {p q : Nat → Bool} : ∀ n, (∀ k, k < n → p k = true → q k = true) → mCnt p n ≤ mCnt q n
  | 0, _ => Nat.le_refl 0
  | n + 1, h => by
    have ih := mCnt_mono (p := p) (q := q) n (fun k hk => h k (by omega))
    rw [mCnt, mCnt]
    by_cases c : p n = true
    · rw [if_pos c, if_pos (h n (by omega) c)]; omega
    · rw [if_neg c]; omega
theorem mCnt_more {p q : Nat → Bool} : ∀ n, (∀ k, k < n → p k = true → q k = true) → (∃ k, k < n ∧ p k = false ∧ q k = true) → mCnt p n + 1 ≤ mCnt q n
  | 0, _, h => by obtain ⟨k, hk, _⟩ := h; omega
  | n + 1, h, hx => by
    rw [mCnt, mCnt]
    by_cases e : p n = false ∧ q n = true
    · have ih := mCnt_mono (p := p) (q := q) n (fun k hk => h k (by omega))
      rw [e.1, if_pos e.2, if_neg (by decide)]; omega
    · have ih := mCnt_more (p := p) (q := q) n (fun k hk => h k (by omega)) (by
        obtain ⟨k, hk, w⟩ := hx
        by_cases z : k = n
        · subst z; exact absurd w e
        · exact ⟨k, by omega, w⟩)
      by_cases c : p n = true
      · rw [if_pos c, if_pos (h n (by omega) c)]; omega
      · rw [if_neg c]; omega
theorem stB_keep {D : mDeb} {co hi : Nat → Bool} {j k : Nat} (hk : k < dn D) (h : stB D co hi j k ≠ 0) : stB D co hi (j + 1) k = stB D co hi j k := by
  rw [stB_s, sStep, if_pos hk, if_neg h]
theorem st_cnt (D : mDeb) (co hi : Nat → Bool) : ∀ j, (∀ i, i < j → ¬ stQ D co hi i) → j ≤ mCnt (fun k => decide (stB D co hi j k ≠ 0)) (dn D)
  | 0, _ => Nat.zero_le _
  | j + 1, h => by
    have ih := st_cnt D co hi j (fun i hi' => h i (by omega))
    have hq := h j (by omega)
    have : mCnt (fun k => decide (stB D co hi j k ≠ 0)) (dn D) + 1 ≤ mCnt (fun k => decide (stB D co hi (j + 1) k ≠ 0)) (dn D) := by
      refine mCnt_more (dn D) (fun k hk w => ?_) ?_
      · have w := of_decide_eq_true w
        exact decide_eq_true (by rw [stB_keep hk w]; exact w)
      · apply Classical.byContradiction
        intro q
        refine hq (fun k hk => ?_)
        by_cases z : k < dn D
        · apply Classical.byContradiction
          intro w
          exact q ⟨k, z, decide_eq_false (fun y => y hk), decide_eq_true w⟩
        · exact (stB_ok D co hi (j + 1)).2 k (by omega)
    omega
theorem st_40 {D : mDeb} {co hi : Nat → Bool} {j : Nat} (hj : dn D ≤ j) (h : ∀ i, i < j → ¬ stQ D co hi i) : stQ D co hi j := by
  apply Classical.byContradiction
  intro q
  have := st_cnt D co hi (j + 1) (fun i hi' => by
    by_cases e : i = j
    · subst e; exact q
    · exact h i (by omega))
  have := mCnt_le (fun k => decide (stB D co hi (j + 1) k ≠ 0)) (dn D)
  omega
