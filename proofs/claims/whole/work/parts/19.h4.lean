/-! ===== what stands, round by round ===== -/
noncomputable def stB (D : mDeb) (co hi : Nat → Bool) : Nat → Nat → Int32
  | 0 => fun _ => 0
  | j + 1 => sStep D co hi (stB D co hi j)
noncomputable def stN (D : mDeb) (co hi : Nat → Bool) : Nat → Nat → Int32
  | 0 => fun _ => 0
  | j + 1 => fun k => if stB D co hi j k = 0 ∧ stB D co hi (j + 1) k ≠ 0 then nI (j + 1) else stN D co hi j k
def stQ (D : mDeb) (co hi : Nat → Bool) (j : Nat) : Prop := ∀ k, stB D co hi j k = 0 → stB D co hi (j + 1) k = 0
noncomputable def stRf (D : mDeb) (co hi : Nat → Bool) : Nat → Nat → Nat
  | 0, j => j
  | f + 1, j => @ite Nat (stQ D co hi j) (Classical.propDecidable _) j (stRf D co hi f (j + 1))
noncomputable def stR (D : mDeb) (co hi : Nat → Bool) : Nat := stRf D co hi 40 0
noncomputable def stF (D : mDeb) (co hi : Nat → Bool) : Nat → Int32 := stB D co hi (stR D co hi)
theorem stB_s (D : mDeb) (co hi : Nat → Bool) (j : Nat) : stB D co hi (j + 1) = sStep D co hi (stB D co hi j) := rfl
theorem stN_s (D : mDeb) (co hi : Nat → Bool) (j k : Nat) : stN D co hi (j + 1) k = if stB D co hi j k = 0 ∧ stB D co hi (j + 1) k ≠ 0 then nI (j + 1) else stN D co hi j k := rfl
theorem stB_ok (D : mDeb) (co hi : Nat → Bool) : ∀ j, sOk (dn D) (stB D co hi j)
  | 0 => ⟨fun _ => .inl rfl, fun _ _ => rfl⟩
  | j + 1 => sStep_ok (stB_ok D co hi j)
theorem stQ_eq {D : mDeb} {co hi : Nat → Bool} {j : Nat} (h : stQ D co hi j) : stB D co hi (j + 1) = stB D co hi j := by
  funext k
  by_cases e : stB D co hi j k = 0
  · rw [h k e, e]
  · rw [stB_s, sStep]
    by_cases w : k < dn D
    · rw [if_pos w, if_neg e]
    · exact absurd ((stB_ok D co hi j).2 k (by omega)) e
theorem stN_q {D : mDeb} {co hi : Nat → Bool} {j : Nat} (h : stQ D co hi j) : stN D co hi (j + 1) = stN D co hi j := by
  funext k
  show (if _ then _ else _) = _
  rw [if_neg (fun q => q.2 (h k q.1))]
def sSt_16 (σ : mS) (C i o : Int64) (r : Int32) (row : Nat → Int32) : mS :=
  (fun a => if a = 17 then row else if a = 16 then (fun k => if k = 5 then r else σ.1 16 k) else σ.1 a,
   fun a => if a = 16 then (fun k => if k = 2 then C else if k = 3 then i else if k = 4 then o else σ.2.1 16 k) else σ.2.1 a, σ.2.2)
theorem sSt_0_16 (σ : mS) (C : Int64) : mPI (mPL (mPL (mPL σ 16 2 C) 16 3 0) 16 4 0) 16 5 0 = sSt_16 σ C 0 0 0 (σ.1 17) := by
  simp only [sSt_16, mPI, mPL, mU2, Prod.mk.injEq, and_true]
  constructor
  · funext a
    by_cases e : a = 17
    · subst e; simp [mU2]
    · by_cases e2 : a = 16
      · subst e2; simp [mU2]
      · simp [mU2, e, e2]
  · funext a
    by_cases e2 : a = 16
    · subst e2
      funext k
      by_cases k2 : k = 2
      · subst k2; simp [mU2]
      · by_cases k3 : k = 3
        · subst k3; simp [mU2]
        · by_cases k4 : k = 4
          · subst k4; simp [mU2]
          · simp [mU2, k2, k3, k4]
    · simp [mU2, e2]
theorem sSt_row_16 (σ : mS) (C i o : Int64) (r : Int32) (row f : Nat → Int32) (i' o' : Int64) : mRw (mPL (mPL (sSt_16 σ C i o r row) 16 4 o') 16 3 i') 17 f = sSt_16 σ C i' o' r f := by
  simp only [sSt_16, mRw, mPL, mU2, Prod.mk.injEq, and_true]
  constructor
  · funext a
    by_cases e : a = 17 <;> simp [mU2, e]
  · funext a
    by_cases e2 : a = 16
    · subst e2
      funext k
      by_cases k2 : k = 2
      · subst k2; simp [mU2]
      · by_cases k3 : k = 3
        · subst k3; simp [mU2]
        · by_cases k4 : k = 4
          · subst k4; simp [mU2]
          · simp [mU2, k2, k3, k4]
    · simp [mU2, e2]
theorem sSt_p_16 (σ : mS) (C i o : Int64) (r : Int32) (row : Nat → Int32) (n : Nat) (x : Int32) : mPI (sSt_16 σ C i o r row) 17 n x = sSt_16 σ C i o r (fun k => if k = n then x else row k) := by
  simp only [sSt_16, mPI, mU2, Prod.mk.injEq, and_true]
  funext a
  by_cases e : a = 17 <;> simp [mU2, e]
theorem sSt_r_16 (σ : mS) (C i o : Int64) (r : Int32) (row : Nat → Int32) (x : Int32) : mPI (sSt_16 σ C i o r row) 16 5 x = sSt_16 σ C i o x row := by
  simp only [sSt_16, mPI, mU2, Prod.mk.injEq, and_true]
  funext a
  by_cases e : a = 17
  · subst e; simp [mU2]
  · by_cases e2 : a = 16
    · subst e2; funext k; by_cases k5 : k = 5 <;> simp [mU2, k5]
    · simp [mU2, e, e2]
theorem sSt_V_16 (σ : mS) (C i o : Int64) (r : Int32) (row : Nat → Int32) : cV (sSt_16 σ C i o r row) = cV σ := rfl
theorem sSt_D_16 (σ : mS) (C i o : Int64) (r : Int32) (row : Nat → Int32) : DC (sSt_16 σ C i o r row) = DC σ := rfl
theorem L_settle0_16 {Γ : Nat × (Nat → Int32)} {d n0 bc bs : Nat} {Q : mQ} {σ : mS} {C i o s : Int64} {r : Int32} {row : Nat → Int32} (hX : mK Γ M_X4_settle (d + 5) Q n0 bc bs 55 [(0, .ref 16), (3, .long s), (5, .int 1)] [] 60 mSH (sSt_16 σ C i o r (fun k => if k < 40 then 0 else row k))) :
    ∀ m j, j + m = 40 → mK Γ M_X4_settle (d + 5) Q n0 bc bs 31 [(0, .ref 16), (3, .long s), (5, .int (nI j))] [] 60 mSH (sSt_16 σ C i o r (fun k => if k < j then 0 else row k))
  | 0, j, hj => by
    rw [show j = 40 by omega]
    exact T_X4_settle_16_31 _ _ ⟨fun _ => hX, fun c => absurd (by rw [i40]; exact nI_le (by omega) (by omega)) c⟩
  | m + 1, j, hj => by
    have ih := L_settle0_16 hX m (j + 1) (by omega)
    refine T_X4_settle_16_31 _ _ ⟨fun c => absurd c (by rw [i40]; exact nI_ge (by omega) (by omega)), fun _ => ⟨vp_in_nI (by omega) (by omega), ?_⟩⟩
    rw [nI_1, nI_clamp (by omega), sSt_p_16]
    have : (fun k => if k = j then (0 : Int32) else if k < j then 0 else row k) = (fun k => if k < j + 1 then 0 else row k) := by
      funext k
      by_cases e : k = j
      · simp [e]
      · simp [e, show k < j + 1 ↔ k < j by omega]
    rw [this]
    exact ih
noncomputable def sT_16 (σ : mS) (C s : Int64) (j : Nat) : mS := sSt_16 σ C (sSet (stB (DC σ) (bB C) (bB s) j) 1) (sSet (stB (DC σ) (bB C) (bB s) j) 2) (nI j) (fun k => if k < 40 then stN (DC σ) (bB C) (bB s) j k else σ.1 17 k)
theorem L_settle_16 {Γ : Nat × (Nat → Int32)} {d n0 bc bs : Nat} {Q : mQ} {σ : mS} {C s : Int64} (hV : cV σ) : ∀ f j, f + j = 40 → Q (.inl none) 60 mSH (sT_16 σ C s (stRf (DC σ) (bB C) (bB s) f j)) →
    mK Γ M_X4_settle (d + 5) Q n0 bc bs 55 [(0, .ref 16), (3, .long s), (5, .int (nI (j + 1)))] [] 60 mSH (sT_16 σ C s j)
  | 0, j, hj, hQ => T_X4_settle_16_55 _ _ ⟨fun _ => hQ, fun c => absurd (by rw [i40]; exact nI_lt (by omega) (by omega)) c⟩
  | f + 1, j, hj, hQ => by
    rw [stRf] at hQ
    have hb := stB_ok (DC σ) (bB C) (bB s) j
    refine T_X4_settle_16_55 _ _ ⟨fun c => absurd c (by rw [i40]; exact nI_nlt (by omega) (by omega)), fun _ => ?_⟩
    refine S_findMore_16 (σ := sT_16 σ C s j) (b := stB (DC σ) (bB C) (bB s) j) (nI (j + 1)) s hV hb rfl rfl (fun h => ?_) (fun h => ?_)
    · refine T_X4_settle_16_69a _ _ _ ⟨fun _ => ?_, fun c => absurd rfl c⟩
      have hq : stQ (DC σ) (bB C) (bB s) j := h
      rw [if_pos hq] at hQ
      have e : fmG_16 (sT_16 σ C s j) s (stB (DC σ) (bB C) (bB s) j) (nI (j + 1)) = sT_16 σ C s j := by
        rw [fmG_16, sT_16, sSt_row_16]
        have e1 : sStep (DC σ) (bB C) (bB s) (stB (DC σ) (bB C) (bB s) j) = stB (DC σ) (bB C) (bB s) j := stQ_eq hq
        show sSt_16 σ C (sSet (sStep (DC σ) (bB C) (bB s) (stB (DC σ) (bB C) (bB s) j)) 1) (sSet (sStep (DC σ) (bB C) (bB s) (stB (DC σ) (bB C) (bB s) j)) 2) _ _ = _
        rw [e1]
        congr 1
        funext k
        by_cases w : k < 40
        · rw [if_neg (fun q => ?_)]
          · rfl
          · have := (fm_new_16 (σ := sT_16 σ C s j) (s := s) hV hb rfl rfl (k := k) (by omega)).mp q.2
            exact this.2 (h k this.1)
        · rw [if_neg (fun q => w q.1)]
          rfl
      rw [e]; exact hQ
    · refine T_X4_settle_16_69a _ _ _ ⟨fun c => absurd c (by decide), fun _ => ?_⟩
      have hq : ¬ stQ (DC σ) (bB C) (bB s) j := fun q => by obtain ⟨k, h1, h2⟩ := h; exact h2 (q k h1)
      rw [if_neg hq] at hQ
      have ih := L_settle_16 (d := d) (n0 := n0) (bc := bc) (bs := bs) (Γ := Γ) hV f (j + 1) (by omega) hQ
      have e : mPI (fmG_16 (sT_16 σ C s j) s (stB (DC σ) (bB C) (bB s) j) (nI (j + 1))) 16 5 (nI (j + 1)) = sT_16 σ C s (j + 1) := by
        rw [fmG_16, sT_16, sSt_row_16, sSt_r_16]
        show sSt_16 σ C (sSet (stB (DC σ) (bB C) (bB s) (j + 1)) 1) (sSet (stB (DC σ) (bB C) (bB s) (j + 1)) 2) _ _ = _
        rw [sT_16]
        congr 1
        funext k
        by_cases w : k < 40
        · have hw := fm_new_16 (σ := sT_16 σ C s j) (s := s) hV hb rfl rfl (k := k) (by omega)
          have hw' : _ ↔ stB (DC σ) (bB C) (bB s) j k = 0 ∧ stB (DC σ) (bB C) (bB s) (j + 1) k ≠ 0 := hw
          rw [if_pos w, stN_s]
          by_cases z : stB (DC σ) (bB C) (bB s) j k = 0 ∧ stB (DC σ) (bB C) (bB s) (j + 1) k ≠ 0
          · rw [if_pos z, if_pos ⟨w, hw'.mpr z⟩]
          · rw [if_neg z, if_neg (fun q => z (hw'.mp q.2))]
            show (if k < 40 then _ else _) = _
            exact if_pos w
        · rw [if_neg (fun q => w q.1), if_neg w]
          show (if k < 40 then _ else _) = _
          exact if_neg w
      rw [e, nI_1]
      exact ih
theorem S_settle_16 {Γ : Nat × (Nat → Int32)} {d : Nat} {Q : mQ} {σ : mS} (a1 a2 : Int64) (hV : cV σ) (hQ : Q (.inl none) 60 mSH (sT_16 σ (σ.2.1 5 11 ||| a1) a2 (stR (DC σ) (bB (σ.2.1 5 11 ||| a1)) (bB a2)))) :
    mCall Γ M_X4_settle (d + 5) 0 0 [.ref 16, .long a1, .long a2] 60 mSH σ Q := by
  refine E_X4_settle_16 a1 a2 ?_
  rw [show f_X0_concededItems_5 σ = σ.2.1 5 11 from rfl, sSt_0_16]
  have h1 := L_settle_16 (d := d) (n0 := 60) (bc := 0) (bs := 0) (Γ := Γ) (C := σ.2.1 5 11 ||| a1) (s := a2) hV 40 0 rfl hQ
  have h0 := L_settle0_16 (σ := σ) (C := σ.2.1 5 11 ||| a1) (i := 0) (o := 0) (s := a2) (r := 0) (row := σ.1 17) (d := d) (n0 := 60) (bc := 0) (bs := 0) (Γ := Γ) (Q := Q) ?_ 40 0 rfl
  · exact h0
  · have e : sT_16 σ (σ.2.1 5 11 ||| a1) a2 0 = sSt_16 σ (σ.2.1 5 11 ||| a1) 0 0 0 (fun k => if k < 40 then 0 else σ.1 17 k) := by
      rw [sT_16]
      have z1 : sSet (stB (DC σ) (bB (σ.2.1 5 11 ||| a1)) (bB a2) 0) 1 = 0 := by
        refine bB_ext (fun k _ => ?_)
        rw [bB_sSet (dn (DC σ) |> fun _ => hV.1.2.1) (by decide) (stB_ok (DC σ) _ _ 0), bB_0]
        exact decide_eq_false (fun q : (0 : Int32) = 1 => absurd q (by decide))
      have z2 : sSet (stB (DC σ) (bB (σ.2.1 5 11 ||| a1)) (bB a2) 0) 2 = 0 := by
        refine bB_ext (fun k _ => ?_)
        rw [bB_sSet (dn (DC σ) |> fun _ => hV.1.2.1) (by decide) (stB_ok (DC σ) _ _ 0), bB_0]
        exact decide_eq_false (fun q : (0 : Int32) = 2 => absurd q (by decide))
      rw [z1, z2]
      rfl
    rw [e] at h1
    exact h1
def sSt_18 (σ : mS) (C i o : Int64) (r : Int32) (row : Nat → Int32) : mS :=
  (fun a => if a = 19 then row else if a = 18 then (fun k => if k = 5 then r else σ.1 18 k) else σ.1 a,
   fun a => if a = 18 then (fun k => if k = 2 then C else if k = 3 then i else if k = 4 then o else σ.2.1 18 k) else σ.2.1 a, σ.2.2)
theorem sSt_0_18 (σ : mS) (C : Int64) : mPI (mPL (mPL (mPL σ 18 2 C) 18 3 0) 18 4 0) 18 5 0 = sSt_18 σ C 0 0 0 (σ.1 19) := by
  simp only [sSt_18, mPI, mPL, mU2, Prod.mk.injEq, and_true]
  constructor
  · funext a
    by_cases e : a = 19
    · subst e; simp [mU2]
    · by_cases e2 : a = 18
      · subst e2; simp [mU2]
      · simp [mU2, e, e2]
  · funext a
    by_cases e2 : a = 18
    · subst e2
      funext k
      by_cases k2 : k = 2
      · subst k2; simp [mU2]
      · by_cases k3 : k = 3
        · subst k3; simp [mU2]
        · by_cases k4 : k = 4
          · subst k4; simp [mU2]
          · simp [mU2, k2, k3, k4]
    · simp [mU2, e2]
theorem sSt_row_18 (σ : mS) (C i o : Int64) (r : Int32) (row f : Nat → Int32) (i' o' : Int64) : mRw (mPL (mPL (sSt_18 σ C i o r row) 18 4 o') 18 3 i') 19 f = sSt_18 σ C i' o' r f := by
  simp only [sSt_18, mRw, mPL, mU2, Prod.mk.injEq, and_true]
  constructor
  · funext a
    by_cases e : a = 19 <;> simp [mU2, e]
  · funext a
    by_cases e2 : a = 18
    · subst e2
      funext k
      by_cases k2 : k = 2
      · subst k2; simp [mU2]
      · by_cases k3 : k = 3
        · subst k3; simp [mU2]
        · by_cases k4 : k = 4
          · subst k4; simp [mU2]
          · simp [mU2, k2, k3, k4]
    · simp [mU2, e2]
theorem sSt_p_18 (σ : mS) (C i o : Int64) (r : Int32) (row : Nat → Int32) (n : Nat) (x : Int32) : mPI (sSt_18 σ C i o r row) 19 n x = sSt_18 σ C i o r (fun k => if k = n then x else row k) := by
  simp only [sSt_18, mPI, mU2, Prod.mk.injEq, and_true]
  funext a
  by_cases e : a = 19 <;> simp [mU2, e]
theorem sSt_r_18 (σ : mS) (C i o : Int64) (r : Int32) (row : Nat → Int32) (x : Int32) : mPI (sSt_18 σ C i o r row) 18 5 x = sSt_18 σ C i o x row := by
  simp only [sSt_18, mPI, mU2, Prod.mk.injEq, and_true]
  funext a
  by_cases e : a = 19
  · subst e; simp [mU2]
  · by_cases e2 : a = 18
    · subst e2; funext k; by_cases k5 : k = 5 <;> simp [mU2, k5]
    · simp [mU2, e, e2]
theorem sSt_V_18 (σ : mS) (C i o : Int64) (r : Int32) (row : Nat → Int32) : cV (sSt_18 σ C i o r row) = cV σ := rfl
theorem sSt_D_18 (σ : mS) (C i o : Int64) (r : Int32) (row : Nat → Int32) : DC (sSt_18 σ C i o r row) = DC σ := rfl
theorem L_settle0_18 {Γ : Nat × (Nat → Int32)} {d n0 bc bs : Nat} {Q : mQ} {σ : mS} {C i o s : Int64} {r : Int32} {row : Nat → Int32} (hX : mK Γ M_X4_settle (d + 5) Q n0 bc bs 55 [(0, .ref 18), (3, .long s), (5, .int 1)] [] 60 mSH (sSt_18 σ C i o r (fun k => if k < 40 then 0 else row k))) :
    ∀ m j, j + m = 40 → mK Γ M_X4_settle (d + 5) Q n0 bc bs 31 [(0, .ref 18), (3, .long s), (5, .int (nI j))] [] 60 mSH (sSt_18 σ C i o r (fun k => if k < j then 0 else row k))
  | 0, j, hj => by
    rw [show j = 40 by omega]
    exact T_X4_settle_18_31 _ _ ⟨fun _ => hX, fun c => absurd (by rw [i40]; exact nI_le (by omega) (by omega)) c⟩
  | m + 1, j, hj => by
    have ih := L_settle0_18 hX m (j + 1) (by omega)
    refine T_X4_settle_18_31 _ _ ⟨fun c => absurd c (by rw [i40]; exact nI_ge (by omega) (by omega)), fun _ => ⟨vp_in_nI (by omega) (by omega), ?_⟩⟩
    rw [nI_1, nI_clamp (by omega), sSt_p_18]
    have : (fun k => if k = j then (0 : Int32) else if k < j then 0 else row k) = (fun k => if k < j + 1 then 0 else row k) := by
      funext k
      by_cases e : k = j
      · simp [e]
      · simp [e, show k < j + 1 ↔ k < j by omega]
    rw [this]
    exact ih
noncomputable def sT_18 (σ : mS) (C s : Int64) (j : Nat) : mS := sSt_18 σ C (sSet (stB (DC σ) (bB C) (bB s) j) 1) (sSet (stB (DC σ) (bB C) (bB s) j) 2) (nI j) (fun k => if k < 40 then stN (DC σ) (bB C) (bB s) j k else σ.1 19 k)
theorem L_settle_18 {Γ : Nat × (Nat → Int32)} {d n0 bc bs : Nat} {Q : mQ} {σ : mS} {C s : Int64} (hV : cV σ) : ∀ f j, f + j = 40 → Q (.inl none) 60 mSH (sT_18 σ C s (stRf (DC σ) (bB C) (bB s) f j)) →
    mK Γ M_X4_settle (d + 5) Q n0 bc bs 55 [(0, .ref 18), (3, .long s), (5, .int (nI (j + 1)))] [] 60 mSH (sT_18 σ C s j)
  | 0, j, hj, hQ => T_X4_settle_18_55 _ _ ⟨fun _ => hQ, fun c => absurd (by rw [i40]; exact nI_lt (by omega) (by omega)) c⟩
  | f + 1, j, hj, hQ => by
    rw [stRf] at hQ
    have hb := stB_ok (DC σ) (bB C) (bB s) j
    refine T_X4_settle_18_55 _ _ ⟨fun c => absurd c (by rw [i40]; exact nI_nlt (by omega) (by omega)), fun _ => ?_⟩
    refine S_findMore_18 (σ := sT_18 σ C s j) (b := stB (DC σ) (bB C) (bB s) j) (nI (j + 1)) s hV hb rfl rfl (fun h => ?_) (fun h => ?_)
    · refine T_X4_settle_18_69a _ _ _ ⟨fun _ => ?_, fun c => absurd rfl c⟩
      have hq : stQ (DC σ) (bB C) (bB s) j := h
      rw [if_pos hq] at hQ
      have e : fmG_18 (sT_18 σ C s j) s (stB (DC σ) (bB C) (bB s) j) (nI (j + 1)) = sT_18 σ C s j := by
        rw [fmG_18, sT_18, sSt_row_18]
        have e1 : sStep (DC σ) (bB C) (bB s) (stB (DC σ) (bB C) (bB s) j) = stB (DC σ) (bB C) (bB s) j := stQ_eq hq
        show sSt_18 σ C (sSet (sStep (DC σ) (bB C) (bB s) (stB (DC σ) (bB C) (bB s) j)) 1) (sSet (sStep (DC σ) (bB C) (bB s) (stB (DC σ) (bB C) (bB s) j)) 2) _ _ = _
        rw [e1]
        congr 1
        funext k
        by_cases w : k < 40
        · rw [if_neg (fun q => ?_)]
          · rfl
          · have := (fm_new_18 (σ := sT_18 σ C s j) (s := s) hV hb rfl rfl (k := k) (by omega)).mp q.2
            exact this.2 (h k this.1)
        · rw [if_neg (fun q => w q.1)]
          rfl
      rw [e]; exact hQ
    · refine T_X4_settle_18_69a _ _ _ ⟨fun c => absurd c (by decide), fun _ => ?_⟩
      have hq : ¬ stQ (DC σ) (bB C) (bB s) j := fun q => by obtain ⟨k, h1, h2⟩ := h; exact h2 (q k h1)
      rw [if_neg hq] at hQ
      have ih := L_settle_18 (d := d) (n0 := n0) (bc := bc) (bs := bs) (Γ := Γ) hV f (j + 1) (by omega) hQ
      have e : mPI (fmG_18 (sT_18 σ C s j) s (stB (DC σ) (bB C) (bB s) j) (nI (j + 1))) 18 5 (nI (j + 1)) = sT_18 σ C s (j + 1) := by
        rw [fmG_18, sT_18, sSt_row_18, sSt_r_18]
        show sSt_18 σ C (sSet (stB (DC σ) (bB C) (bB s) (j + 1)) 1) (sSet (stB (DC σ) (bB C) (bB s) (j + 1)) 2) _ _ = _
        rw [sT_18]
        congr 1
        funext k
        by_cases w : k < 40
        · have hw := fm_new_18 (σ := sT_18 σ C s j) (s := s) hV hb rfl rfl (k := k) (by omega)
          have hw' : _ ↔ stB (DC σ) (bB C) (bB s) j k = 0 ∧ stB (DC σ) (bB C) (bB s) (j + 1) k ≠ 0 := hw
          rw [if_pos w, stN_s]
          by_cases z : stB (DC σ) (bB C) (bB s) j k = 0 ∧ stB (DC σ) (bB C) (bB s) (j + 1) k ≠ 0
          · rw [if_pos z, if_pos ⟨w, hw'.mpr z⟩]
          · rw [if_neg z, if_neg (fun q => z (hw'.mp q.2))]
            show (if k < 40 then _ else _) = _
            exact if_pos w
        · rw [if_neg (fun q => w q.1), if_neg w]
          show (if k < 40 then _ else _) = _
          exact if_neg w
      rw [e, nI_1]
      exact ih
theorem S_settle_18 {Γ : Nat × (Nat → Int32)} {d : Nat} {Q : mQ} {σ : mS} (a1 a2 : Int64) (hV : cV σ) (hQ : Q (.inl none) 60 mSH (sT_18 σ (σ.2.1 5 11 ||| a1) a2 (stR (DC σ) (bB (σ.2.1 5 11 ||| a1)) (bB a2)))) :
    mCall Γ M_X4_settle (d + 5) 0 0 [.ref 18, .long a1, .long a2] 60 mSH σ Q := by
  refine E_X4_settle_18 a1 a2 ?_
  rw [show f_X0_concededItems_5 σ = σ.2.1 5 11 from rfl, sSt_0_18]
  have h1 := L_settle_18 (d := d) (n0 := 60) (bc := 0) (bs := 0) (Γ := Γ) (C := σ.2.1 5 11 ||| a1) (s := a2) hV 40 0 rfl hQ
  have h0 := L_settle0_18 (σ := σ) (C := σ.2.1 5 11 ||| a1) (i := 0) (o := 0) (s := a2) (r := 0) (row := σ.1 19) (d := d) (n0 := 60) (bc := 0) (bs := 0) (Γ := Γ) (Q := Q) ?_ 40 0 rfl
  · exact h0
  · have e : sT_18 σ (σ.2.1 5 11 ||| a1) a2 0 = sSt_18 σ (σ.2.1 5 11 ||| a1) 0 0 0 (fun k => if k < 40 then 0 else σ.1 19 k) := by
      rw [sT_18]
      have z1 : sSet (stB (DC σ) (bB (σ.2.1 5 11 ||| a1)) (bB a2) 0) 1 = 0 := by
        refine bB_ext (fun k _ => ?_)
        rw [bB_sSet (dn (DC σ) |> fun _ => hV.1.2.1) (by decide) (stB_ok (DC σ) _ _ 0), bB_0]
        exact decide_eq_false (fun q : (0 : Int32) = 1 => absurd q (by decide))
      have z2 : sSet (stB (DC σ) (bB (σ.2.1 5 11 ||| a1)) (bB a2) 0) 2 = 0 := by
        refine bB_ext (fun k _ => ?_)
        rw [bB_sSet (dn (DC σ) |> fun _ => hV.1.2.1) (by decide) (stB_ok (DC σ) _ _ 0), bB_0]
        exact decide_eq_false (fun q : (0 : Int32) = 2 => absurd q (by decide))
      rw [z1, z2]
      rfl
    rw [e] at h1
    exact h1
