/-! ===== a debate as numbers; what stands in it ===== -/
def mDeb : Type := (Nat → Nat → Int32) × (Nat → Nat → Int64)
def uN (x : Int32) : Nat := x.toNatClampNeg
def mkI (n : Nat) (f : Nat → Int32) : Nat → Int32 := fun k => if k < n then f k else 0
def mkL (n : Nat) (f : Nat → Int64) : Nat → Int64 := fun k => if k < n then f k else 0
def mDebOf (n s : Int32) (kd bt sz sr tg cd tm : Nat → Int32) (nm sn : Nat → Int64) : mDeb :=
  (fun f => match f with
    | 0 => fun _ => n
    | 1 => fun _ => s
    | 2 => mkI (uN n) kd
    | 3 => mkI (uN n) bt
    | 4 => mkI (uN n) sz
    | 5 => mkI (uN n) sr
    | 6 => mkI (uN n) tg
    | 7 => mkI (uN n) cd
    | _ => mkI (uN s) tm,
   fun f => match f with
    | 0 => mkL (uN n) nm
    | _ => mkL (uN s) sn)
def DC (σ : mS) : mDeb := mDebOf (σ.1 5 10) (σ.1 5 2) (σ.1 9) (σ.1 10) (σ.1 11) (σ.1 12) (σ.1 13) (fun k => if bB (σ.2.1 5 11) k = true then 1 else 0) (σ.1 7) (σ.2.1 8) (σ.2.1 6)
def DM (σ : mS) : mDeb := mDebOf (σ.1 32 3) (σ.1 32 0) (σ.1 36) (σ.1 37) (σ.1 38) (σ.1 39) (σ.1 40) (σ.1 41) (σ.1 34) (σ.2.1 35) (σ.2.1 33)
def dn (D : mDeb) : Nat := uN (D.1 0 0)
def ds (D : mDeb) : Nat := uN (D.1 1 0)
def dk (D : mDeb) (k : Nat) : Int32 := D.1 2 k
def db (D : mDeb) (k : Nat) : Int32 := D.1 3 k
def dz (D : mDeb) (k : Nat) : Int32 := D.1 4 k
def dr (D : mDeb) (k : Nat) : Int32 := D.1 5 k
def dt (D : mDeb) (k : Nat) : Int32 := D.1 6 k
def dc (D : mDeb) (k : Nat) : Int32 := D.1 7 k
def dm (D : mDeb) (k : Nat) : Int32 := D.1 8 k
def dN (D : mDeb) (k : Nat) : Int64 := D.2 0 k
def dS (D : mDeb) (k : Nat) : Int64 := D.2 1 k
def dLeast (D : mDeb) (k : Nat) : Int32 := if dk D k = 0 then (dz D k + 1) / 2 else dz D k
def dst (D : mDeb) (k : Nat) : Bool := decide (dk D k = 1 ∧ dLeast D (uN (dt D k)) ≤ dz D k)
def dI (D : mDeb) (k : Nat) : Prop :=
  (∃ j, j < ds D ∧ db D k = nI j) ∧ (∃ z, 1 ≤ z ∧ z ≤ 50 ∧ dz D k = nI z) ∧ (dc D k = 0 ∨ dc D k = 1) ∧
  ((dk D k = 0 ∧ dr D k = -1 ∧ dt D k = -1) ∨ ((dk D k = 1 ∨ dk D k = 2) ∧ (∃ i, i < k ∧ dr D k = nI i ∧ dk D i = 0) ∧ ∃ j, j < k ∧ dt D k = nI j))
def dV (D : mDeb) : Prop := D.1 0 0 = nI (dn D) ∧ dn D ≤ 40 ∧ D.1 1 0 = nI (ds D) ∧ ds D ≤ 6 ∧ ∀ k, k < dn D → dI D k
theorem dV_r {D : mDeb} (h : dV D) {k : Nat} (hk : k < dn D) : dr D k = -1 ∨ ∃ i, i < k ∧ dr D k = nI i := by
  rcases (h.2.2.2.2 k hk).2.2.2 with q | q
  · exact .inl q.2.1
  · obtain ⟨i, hi, e, _⟩ := q.2.1
    exact .inr ⟨i, hi, e⟩
theorem dV_t {D : mDeb} (h : dV D) {k : Nat} (hk : k < dn D) : dt D k = -1 ∨ ∃ i, i < k ∧ dt D k = nI i := by
  rcases (h.2.2.2.2 k hk).2.2.2 with q | q
  · exact .inl q.2.2
  · exact .inr q.2.2
theorem dV_st {D : mDeb} (h : dV D) {k : Nat} (hk : k < dn D) (hs : dst D k = true) : ∃ i, i < k ∧ dt D k = nI i := by
  rcases (h.2.2.2.2 k hk).2.2.2 with q | q
  · rw [dst, decide_eq_true_eq, q.1] at hs
    exact absurd hs.1 (by decide)
  · exact q.2.2
theorem nI_m1 {k : Nat} (h : k < 2 ^ 31) : nI k ≠ -1 := by
  intro e
  have := nI_toInt h
  rw [e, show (-1 : Int32).toInt = -1 by decide] at this
  omega
/-- the class's own debate -/
def cV (σ : mS) : Prop := dV (DC σ) ∧ (∀ k, k < dn (DC σ) → (σ.1 14 k = 0 ↔ dst (DC σ) k = false)) ∧ ∀ k, dn (DC σ) ≤ k → bB (σ.2.1 5 11) k = false
theorem cV_n {σ : mS} (h : cV σ) : σ.1 5 10 = nI (dn (DC σ)) := h.1.1
theorem cV_s {σ : mS} (h : cV σ) : σ.1 5 2 = nI (ds (DC σ)) := h.1.2.2.1
theorem c_hasItem {σ : mS} (h : cV σ) {k : Nat} (hk : k < dn (DC σ)) : f_X0_hasItem_5 σ (nI k) = 1 := by
  have h40 := h.1.2.1
  rw [f_X0_hasItem_5, cV_n h, if_neg (nI_pos (by omega)), if_neg (nI_ge hk (by omega)), if_neg (by rw [i40]; exact nI_ge (by omega) (by omega))]
theorem c_hasItem_m (σ : mS) : f_X0_hasItem_5 σ (-1) = 0 := by rw [f_X0_hasItem_5, if_pos (by decide)]
theorem c_hasItem_0 {σ : mS} (h : cV σ) {x : Int32} (hx : ∀ k, k < dn (DC σ) → x ≠ nI k) : f_X0_hasItem_5 σ x = 0 := by
  have h40 := h.1.2.1
  rw [f_X0_hasItem_5]
  by_cases a : x < 0
  · rw [if_pos a]
  · obtain ⟨j, hj, rfl⟩ := nI_of a
    rw [if_neg a, cV_n h]
    by_cases b : nI (dn (DC σ)) ≤ nI j
    · rw [if_pos b]
    · exact absurd rfl (hx j (by rw [nI_leI (by omega) hj] at b; omega))
theorem c_kind {σ : mS} (h : cV σ) {k : Nat} (hk : k < dn (DC σ)) : f_X0_kindOf_5 σ (nI k) = dk (DC σ) k := by
  have h40 := h.1.2.1
  rw [f_X0_kindOf_5, c_hasItem h hk, nI_clamp (by omega), if_neg (by decide)]
  show σ.1 9 k = mkI (dn (DC σ)) (σ.1 9) k
  rw [mkI, if_pos hk]
theorem c_kind_m (σ : mS) : f_X0_kindOf_5 σ (-1) = -1 := by rw [f_X0_kindOf_5, c_hasItem_m, if_pos rfl]
theorem c_owner {σ : mS} (h : cV σ) {k : Nat} (hk : k < dn (DC σ)) : f_X0_speakerOf_5 σ (nI k) = db (DC σ) k := by
  have h40 := h.1.2.1
  rw [f_X0_speakerOf_5, c_hasItem h hk, nI_clamp (by omega), if_neg (by decide)]
  show σ.1 10 k = mkI (dn (DC σ)) (σ.1 10) k
  rw [mkI, if_pos hk]
theorem c_owner_m (σ : mS) : f_X0_speakerOf_5 σ (-1) = -1 := by rw [f_X0_speakerOf_5, c_hasItem_m, if_pos rfl]
theorem c_size {σ : mS} (h : cV σ) {k : Nat} (hk : k < dn (DC σ)) : f_X0_strengthOf_5 σ (nI k) = dz (DC σ) k := by
  have h40 := h.1.2.1
  rw [f_X0_strengthOf_5, c_hasItem h hk, nI_clamp (by omega), if_neg (by decide)]
  show σ.1 11 k = mkI (dn (DC σ)) (σ.1 11) k
  rw [mkI, if_pos hk]
theorem c_size_m (σ : mS) : f_X0_strengthOf_5 σ (-1) = 0 := by rw [f_X0_strengthOf_5, c_hasItem_m, if_pos rfl]
theorem c_source {σ : mS} (h : cV σ) {k : Nat} (hk : k < dn (DC σ)) : f_X0_sourceOf_5 σ (nI k) = dr (DC σ) k := by
  have h40 := h.1.2.1
  rw [f_X0_sourceOf_5, c_hasItem h hk, nI_clamp (by omega), if_neg (by decide)]
  show σ.1 12 k = mkI (dn (DC σ)) (σ.1 12) k
  rw [mkI, if_pos hk]
theorem c_source_m (σ : mS) : f_X0_sourceOf_5 σ (-1) = -1 := by rw [f_X0_sourceOf_5, c_hasItem_m, if_pos rfl]
theorem c_target {σ : mS} (h : cV σ) {k : Nat} (hk : k < dn (DC σ)) : f_X0_targetOf_5 σ (nI k) = dt (DC σ) k := by
  have h40 := h.1.2.1
  rw [f_X0_targetOf_5, c_hasItem h hk, nI_clamp (by omega), if_neg (by decide)]
  show σ.1 13 k = mkI (dn (DC σ)) (σ.1 13) k
  rw [mkI, if_pos hk]
theorem c_target_m (σ : mS) : f_X0_targetOf_5 σ (-1) = -1 := by rw [f_X0_targetOf_5, c_hasItem_m, if_pos rfl]
theorem c_least {σ : mS} (h : cV σ) {k : Nat} (hk : k < dn (DC σ)) : f_X0_leastForceOn_5 σ (nI k) = dLeast (DC σ) k := by rw [f_X0_leastForceOn_5, c_kind h hk, c_size h hk, dLeast]
theorem c_strong {σ : mS} (h : cV σ) {k : Nat} (hk : k < dn (DC σ)) : f_X0_isStrongAttack_5 σ (nI k) = if dst (DC σ) k = true then 1 else 0 := by
  have h40 := h.1.2.1
  rw [f_X0_isStrongAttack_5, c_hasItem h hk, nI_clamp (by omega), if_neg (by decide)]
  have := h.2.1 k hk
  by_cases e : σ.1 14 k = 0
  · rw [if_pos e, if_neg (by rw [this.mp e]; decide)]
  · rw [if_neg e, if_pos (by rw [← Bool.not_eq_false]; exact fun q => e (this.mpr q))]
theorem c_strong_m (σ : mS) : f_X0_isStrongAttack_5 σ (-1) = 0 := by rw [f_X0_isStrongAttack_5, c_hasItem_m, if_pos rfl]
theorem c_strong0 {σ : mS} (h : cV σ) {k : Nat} (hk : k < dn (DC σ)) : f_X0_isStrongAttack_5 σ (nI k) = 0 ↔ dst (DC σ) k = false := by
  rw [c_strong h hk]
  cases dst (DC σ) k <;> decide
noncomputable def iteP (P : Prop) (a b : Int32) : Int32 := @ite Int32 P (Classical.propDecidable P) a b
theorem iteP_pos {P : Prop} {a b : Int32} (h : P) : iteP P a b = a := by rw [iteP, if_pos h]
theorem iteP_neg {P : Prop} {a b : Int32} (h : ¬ P) : iteP P a b = b := by rw [iteP, if_neg h]
def sHit (D : mDeb) (co hi : Nat → Bool) (b : Nat → Int32) (k : Nat) : Prop :=
  co k = true ∨ hi k = true ∨ (dr D k ≠ -1 ∧ b (uN (dr D k)) = 2) ∨ ∃ a, a < dn D ∧ dst D a = true ∧ dt D a = nI k ∧ b a = 1
def sFree (D : mDeb) (b : Nat → Int32) (k : Nat) : Prop :=
  (∀ a, a < dn D → dst D a = true → dt D a = nI k → b a = 2) ∧ (dr D k = -1 ∨ b (uN (dr D k)) = 1)
noncomputable def sFinds (D : mDeb) (co hi : Nat → Bool) (b : Nat → Int32) (k : Nat) : Int32 := iteP (sHit D co hi b k) 2 (iteP (sFree D b k) 1 0)
noncomputable def sStep (D : mDeb) (co hi : Nat → Bool) (b : Nat → Int32) (k : Nat) : Int32 := if k < dn D then (if b k = 0 then sFinds D co hi b k else b k) else 0
theorem sFinds_v (D : mDeb) (co hi : Nat → Bool) (b : Nat → Int32) (k : Nat) : sFinds D co hi b k = 0 ∨ sFinds D co hi b k = 1 ∨ sFinds D co hi b k = 2 := by
  rw [sFinds]
  by_cases h : sHit D co hi b k
  · rw [iteP_pos h]; exact .inr (.inr rfl)
  · rw [iteP_neg h]
    by_cases w : sFree D b k
    · rw [iteP_pos w]; exact .inr (.inl rfl)
    · rw [iteP_neg w]; exact .inl rfl
theorem sFinds_2 {D : mDeb} {co hi : Nat → Bool} {b : Nat → Int32} {k : Nat} : sFinds D co hi b k = 2 ↔ sHit D co hi b k := by
  rw [sFinds]
  by_cases h : sHit D co hi b k
  · rw [iteP_pos h]; simp [h]
  · rw [iteP_neg h]
    by_cases w : sFree D b k
    · rw [iteP_pos w]; simp [h]
    · rw [iteP_neg w]; simp [h]
theorem sFinds_1 {D : mDeb} {co hi : Nat → Bool} {b : Nat → Int32} {k : Nat} : sFinds D co hi b k = 1 ↔ ¬ sHit D co hi b k ∧ sFree D b k := by
  rw [sFinds]
  by_cases h : sHit D co hi b k
  · rw [iteP_pos h]; simp [h]
  · rw [iteP_neg h]
    by_cases w : sFree D b k
    · rw [iteP_pos w]; simp [h, w]
    · rw [iteP_neg w]; simp [h, w]
def sOk (n : Nat) (b : Nat → Int32) : Prop := (∀ k, b k = 0 ∨ b k = 1 ∨ b k = 2) ∧ ∀ k, n ≤ k → b k = 0
theorem sStep_ok {D : mDeb} {co hi : Nat → Bool} {b : Nat → Int32} (h : sOk (dn D) b) : sOk (dn D) (sStep D co hi b) := by
  constructor
  · intro k
    rw [sStep]
    by_cases e : k < dn D
    · rw [if_pos e]
      by_cases w : b k = 0
      · rw [if_pos w]; exact sFinds_v ..
      · rw [if_neg w]; exact h.1 k
    · rw [if_neg e]; exact .inl rfl
  · intro k hk
    rw [sStep, if_neg (by omega)]
def sSet (b : Nat → Int32) (v : Int32) : Int64 := mSetP (fun k => decide (b k = v)) 40
theorem bB_sSet {b : Nat → Int32} {v : Int32} {n : Nat} (hn : n ≤ 40) (hv : v ≠ 0) (h : sOk n b) (k : Nat) : bB (sSet b v) k = decide (b k = v) := by
  rw [sSet, bB_setP _ 40 (by omega)]
  by_cases e : k < 40
  · simp [e]
  · simp [e, h.2 k (by omega)]
    exact fun q => hv q.symm
