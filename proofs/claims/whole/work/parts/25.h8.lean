/-! ===== what would be ===== -/
def F18 (σ σ' : mS) : Prop := (∀ a, a ≠ 18 → a ≠ 19 → σ'.1 a = σ.1 a) ∧ (∀ a, a ≠ 18 → σ'.2.1 a = σ.2.1 a) ∧ σ'.2.2 = σ.2.2
theorem F18_r (σ : mS) : F18 σ σ := ⟨fun _ _ _ => rfl, fun _ _ => rfl, rfl⟩
theorem F18_D {σ σ' : mS} (h : F18 σ σ') : DC σ' = DC σ := by
  rw [DC, DC, h.1 5 (by decide) (by decide), h.1 9 (by decide) (by decide), h.1 10 (by decide) (by decide), h.1 11 (by decide) (by decide), h.1 12 (by decide) (by decide), h.1 13 (by decide) (by decide), h.1 7 (by decide) (by decide), h.2.1 5 (by decide), h.2.1 8 (by decide), h.2.1 6 (by decide)]
theorem F18_V {σ σ' : mS} (h : F18 σ σ') (hV : cV σ) : cV σ' := by
  rw [cV, F18_D h, h.1 14 (by decide) (by decide), h.2.1 5 (by decide)]
  exact hV
theorem F18_s {σ σ' : mS} (h : F18 σ σ') (C i o : Int64) (r : Int32) (row : Nat → Int32) : F18 σ (sSt_18 σ' C i o r row) := by
  refine ⟨fun a h1 h2 => ?_, fun a h1 => ?_, h.2.2⟩
  · show (if a = 19 then row else if a = 18 then _ else σ'.1 a) = _
    rw [if_neg h2, if_neg h1]; exact h.1 a h1 h2
  · show (if a = 18 then _ else σ'.2.1 a) = _
    rw [if_neg h1]; exact h.2.1 a h1
def noS : Nat → Bool := fun _ => false
def one1 (k : Nat) : Nat → Bool := fun j => decide (j = k)
def two2 (k l : Nat) : Nat → Bool := fun j => decide (j = k) || decide (j = l)
theorem bB_noS : bB 0 = noS := by funext k; exact bB_0 k
theorem bB_one (σ : mS) {k : Nat} (h : k < 64) : bB (f_X7_bit σ (nI k)) = one1 k := by funext j; exact bB_bit σ h j
theorem bB_two (σ : mS) {k l : Nat} (h : k < 64) (h' : l < 64) : bB (f_X7_bit σ (nI k) ||| f_X7_bit σ (nI l)) = two2 k l := by funext j; rw [bB_or, bB_bit σ h, bB_bit σ h', two2]
noncomputable def dSup (D : mDeb) (S hi : Nat → Bool) (p : Nat) : Int32 := dLead D (coD D S) (stF D (coD D S) hi) p
theorem S_sup {Γ : Nat × (Nat → Int32)} {d : Nat} {Q : mQ} {σ σ' : mS} (hV : cV σ) (hF : F18 σ σ') (a1 a2 : Int64) (p : Nat) (hp : p < ds (DC σ))
    (hQ : ∀ τ, F18 σ τ → Q (.inl (some (.int (dSup (DC σ) (bB a1) (bB a2) p)))) 60 mSH τ) :
    mCall Γ M_X4_leadOf (d + 5) 0 0 [.ref 18, .int (nI p)] 60 mSH (sT_18 σ' (σ'.2.1 5 11 ||| a1) a2 (stR (DC σ') (bB (σ'.2.1 5 11 ||| a1)) (bB a2))) Q := by
  have hV' := F18_V hF hV
  refine S_leadOf_18 (b := stF (DC σ') (bB (σ'.2.1 5 11 ||| a1)) (bB a2)) p ⟨hV', stB_ok (DC σ') _ _ _, rfl, rfl⟩ (by show p < ds (DC σ'); rw [F18_D hF]; exact hp) ?_
  have := hQ _ (F18_s hF (σ'.2.1 5 11 ||| a1) (sSet (stB (DC σ') (bB (σ'.2.1 5 11 ||| a1)) (bB a2) (stR (DC σ') (bB (σ'.2.1 5 11 ||| a1)) (bB a2))) 1) (sSet (stB (DC σ') (bB (σ'.2.1 5 11 ||| a1)) (bB a2) (stR (DC σ') (bB (σ'.2.1 5 11 ||| a1)) (bB a2))) 2) (nI (stR (DC σ') (bB (σ'.2.1 5 11 ||| a1)) (bB a2))) (fun k => if k < 40 then stN (DC σ') (bB (σ'.2.1 5 11 ||| a1)) (bB a2) (stR (DC σ') (bB (σ'.2.1 5 11 ||| a1)) (bB a2)) k else σ'.1 19 k))
  have e : dLead (DC σ') (bB (σ'.2.1 5 11 ||| a1)) (stF (DC σ') (bB (σ'.2.1 5 11 ||| a1)) (bB a2)) p = dSup (DC σ) (bB a1) (bB a2) p := by rw [co_eq hV', F18_D hF, dSup]
  rw [← e] at this
  exact this
def bfG (pred : Nat → Bool) (ld : Nat → Int32) (g : Int32) : Nat → Int32 × Int32
  | 0 => (-1, g)
  | k + 1 => if pred k = true then (if ld k ≤ (bfG pred ld g k).2 then bfG pred ld g k else (nI k, ld k)) else bfG pred ld g k
theorem bfG_s (pred : Nat → Bool) (ld : Nat → Int32) (g : Int32) (k : Nat) : bfG pred ld g (k + 1) = if pred k = true then (if ld k ≤ (bfG pred ld g k).2 then bfG pred ld g k else (nI k, ld k)) else bfG pred ld g k := rfl
noncomputable def bfL (D : mDeb) (c : Int32) (p k : Nat) : Int32 := if c = 0 then dSup D noS (one1 k) p else dSup D (one1 k) noS p
theorem L_bestFor {Γ : Nat × (Nat → Int32)} {d n0 bc bs : Nat} {Q : mQ} {σ : mS} {x2 : Int64} {x4 g : Int32} {p : Nat} (hV : cV σ) (hp : p < ds (DC σ))
    (hQ : ∀ τ, F18 σ τ → Q (.inl (some (.int (bfG (bB x2) (bfL (DC σ) x4 p) g (dn (DC σ))).1))) 60 mSH τ) : ∀ m i, i + m = dn (DC σ) → ∀ σ', F18 σ σ' →
    mK Γ M_X7_bestFor (d + 6) Q n0 bc bs 16 [(0, .ref 0), (1, .int (nI p)), (2, .long x2), (4, .int x4), (5, .int (bfG (bB x2) (bfL (DC σ) x4 p) g i).1), (6, .int (bfG (bB x2) (bfL (DC σ) x4 p) g i).2), (7, .int (nI i))] [] 60 mSH σ'
  | 0, i, hm, σ', hF => by
    have hn := hV.1.2.1
    have hV' := F18_V hF hV
    refine T_X7_bestFor_0_16 _ _ _ _ _ _ ⟨fun _ => ?_, fun c => absurd (by rw [show f_X0_items_5 σ' = nI (dn (DC σ')) from cV_n hV', F18_D hF]; exact nI_le (by omega) (by omega)) c⟩
    rw [show i = dn (DC σ) by omega]
    exact hQ σ' hF
  | m + 1, i, hm, σ', hF => by
    have hn := hV.1.2.1
    have hV' := F18_V hF hV
    have ih := L_bestFor (d := d) (n0 := n0) (bc := bc) (bs := bs) (Γ := Γ) hV hp hQ m (i + 1) (by omega)
    rw [bfG_s] at ih
    refine T_X7_bestFor_0_16 _ _ _ _ _ _ ⟨fun c => absurd c (by rw [show f_X0_items_5 σ' = nI (dn (DC σ')) from cV_n hV', F18_D hF]; exact nI_ge (by omega) (by omega)), fun _ => ?_⟩
    rw [bB_isSet σ' x2 (by omega), nI_1]
    refine ⟨fun c => ?_, fun c => ⟨fun c4 => ⟨hV', ?_⟩, fun c4 => ⟨hV', ?_⟩⟩⟩
    · rw [c, if_neg (by decide)] at ih; exact ih σ' hF
    · rw [Bool.not_eq_false] at c
      rw [if_pos c] at ih
      refine S_sup hV hF 0 (f_X7_bit σ' (nI i)) p hp (fun τ hτ => ?_)
      rw [bB_noS, bB_one σ' (by omega)]
      have e : bfL (DC σ) x4 p i = dSup (DC σ) noS (one1 i) p := by rw [bfL, if_pos c4]
      rw [e] at ih
      refine T_X7_bestFor_0_83a _ _ _ _ _ _ _ ⟨fun w => ?_, fun w => ?_⟩
      · rw [if_pos w] at ih; rw [nI_1]; exact ih τ hτ
      · rw [if_neg w] at ih; rw [nI_1]; exact ih τ hτ
    · rw [Bool.not_eq_false] at c
      rw [if_pos c] at ih
      refine S_sup hV hF (f_X7_bit σ' (nI i)) 0 p hp (fun τ hτ => ?_)
      rw [bB_noS, bB_one σ' (by omega)]
      have e : bfL (DC σ) x4 p i = dSup (DC σ) (one1 i) noS p := by rw [bfL, if_neg c4]
      rw [e] at ih
      refine T_X7_bestFor_0_83a _ _ _ _ _ _ _ ⟨fun w => ?_, fun w => ?_⟩
      · rw [if_pos w] at ih; rw [nI_1]; exact ih τ hτ
      · rw [if_neg w] at ih; rw [nI_1]; exact ih τ hτ
theorem S_bestFor {Γ : Nat × (Nat → Int32)} {d : Nat} {Q : mQ} {σ : mS} {b : Nat → Int32} (p : Nat) (a2 : Int64) (a3 : Int32) (h : sI_16 σ b) (hp : p < ds (DC σ))
    (hQ : ∀ τ, F18 σ τ → Q (.inl (some (.int (bfG (bB a2) (bfL (DC σ) a3 p) (dLead (DC σ) (bB (σ.2.1 16 2)) b p) (dn (DC σ))).1))) 60 mSH τ) :
    mCall Γ M_X7_bestFor (d + 6) 0 0 [.ref 0, .int (nI p), .long a2, .int a3] 60 mSH σ Q := by
  refine E_X7_bestFor_0 (nI p) a2 a3 ?_
  refine S_leadOf_16 (b := b) p h hp ?_
  refine T_X7_bestFor_0_11a _ _ _ _ _ ?_
  exact L_bestFor h.1 hp hQ (dn (DC σ)) 0 (by omega) σ (F18_r σ)
noncomputable def ofF (D : mDeb) (x : Nat) : Nat → Nat → Int32
  | _, 0 => -1
  | i, m + 1 => if i = x then ofF D x (i + 1) m else if stF D (coD D (one1 i)) noS x = 1 then nI i else ofF D x (i + 1) m
noncomputable def pfI (D : mDeb) (x i : Nat) : Nat → Nat → Option Int32
  | _, 0 => none
  | j, m + 1 => if i = x then pfI D x i (j + 1) m else if j = x then pfI D x i (j + 1) m else if stF D (coD D (two2 i j)) noS x = 1 then some (((100 * (1 + nI i)) + 1) + nI j) else pfI D x i (j + 1) m
noncomputable def pfO (D : mDeb) (x : Nat) : Nat → Nat → Int32
  | _, 0 => -1
  | i, m + 1 => match pfI D x i (i + 1) m with
    | some r => r
    | none => pfO D x (i + 1) m
theorem c_supIn {σ σ' : mS} (hV : cV σ) (hF : F18 σ σ') (a : Int64) {x : Nat} (hx : x < 64) : f_X4_isIn_18 (sT_18 σ' (σ'.2.1 5 11 ||| a) 0 (stR (DC σ') (bB (σ'.2.1 5 11 ||| a)) (bB 0))) (nI x) = 0 ↔ stF (DC σ) (coD (DC σ) (bB a)) noS x ≠ 1 := by
  have hV' := F18_V hF hV
  have e : stF (DC σ') (bB (σ'.2.1 5 11 ||| a)) (bB 0) = stF (DC σ) (coD (DC σ) (bB a)) noS := by rw [co_eq hV', F18_D hF, bB_noS]
  rw [← e]
  exact c_isIn0_18 hV'.1.2.1 (stB_ok (DC σ') _ _ _) rfl hx
theorem F18_T {σ σ' : mS} (hF : F18 σ σ') (C s : Int64) (j : Nat) : F18 σ (sT_18 σ' C s j) := F18_s hF _ _ _ _ _
theorem L_oneThat {Γ : Nat × (Nat → Int32)} {d n0 bc bs : Nat} {Q : mQ} {σ : mS} {x : Nat} (hV : cV σ) (hx : x < dn (DC σ)) :
    ∀ m i, i + m = dn (DC σ) → (∀ τ, F18 σ τ → Q (.inl (some (.int (ofF (DC σ) x i m)))) 60 mSH τ) → ∀ σ', F18 σ σ' →
    mK Γ M_X7_oneThatFrees (d + 6) Q n0 bc bs 2 [(0, .ref 0), (1, .int (nI x)), (2, .int (nI i))] [] 60 mSH σ'
  | 0, i, hm, hQ, σ', hF => by
    have hn := hV.1.2.1
    have hV' := F18_V hF hV
    exact T_X7_oneThatFrees_0_2 _ _ ⟨fun _ => hQ σ' hF, fun c => absurd (by rw [show f_X0_items_5 σ' = nI (dn (DC σ')) from cV_n hV', F18_D hF]; exact nI_le (by omega) (by omega)) c⟩
  | m + 1, i, hm, hQ, σ', hF => by
    have hn := hV.1.2.1
    have hV' := F18_V hF hV
    rw [ofF] at hQ
    refine T_X7_oneThatFrees_0_2 _ _ ⟨fun c => absurd c (by rw [show f_X0_items_5 σ' = nI (dn (DC σ')) from cV_n hV', F18_D hF]; exact nI_ge (by omega) (by omega)), fun _ => ?_⟩
    rw [nI_eq (by omega) (by omega), nI_1, c_supIn hV hF _ (by omega), bB_one σ' (by omega)]
    refine ⟨fun c => ?_, fun c => ⟨hV', fun w => ?_, fun w => ?_⟩⟩
    · rw [if_pos c] at hQ; exact L_oneThat hV hx m (i + 1) (by omega) hQ σ' hF
    · rw [if_neg c, if_neg w] at hQ; exact L_oneThat hV hx m (i + 1) (by omega) hQ _ (F18_T hF _ _ _)
    · rw [if_neg c, if_pos (Classical.not_not.mp w)] at hQ; exact hQ _ (F18_T hF _ _ _)
theorem S_oneThat {Γ : Nat × (Nat → Int32)} {d : Nat} {Q : mQ} {σ : mS} (x : Nat) (hV : cV σ) (hx : x < dn (DC σ)) (hQ : ∀ τ, F18 σ τ → Q (.inl (some (.int (ofF (DC σ) x 0 (dn (DC σ)))))) 60 mSH τ) : mCall Γ M_X7_oneThatFrees (d + 6) 0 0 [.ref 0, .int (nI x)] 60 mSH σ Q :=
  E_X7_oneThatFrees_0 (nI x) (L_oneThat hV hx (dn (DC σ)) 0 (by omega) hQ σ (F18_r σ))
theorem L_pairI {Γ : Nat × (Nat → Int32)} {d n0 bc bs : Nat} {Q : mQ} {σ : mS} {x i : Nat} (hV : cV σ) (hx : x < dn (DC σ)) (hi : i < dn (DC σ)) :
    ∀ m j, j + m = dn (DC σ) → (∀ r, pfI (DC σ) x i j m = some r → ∀ τ, F18 σ τ → Q (.inl (some (.int r))) 60 mSH τ) →
    (pfI (DC σ) x i j m = none → ∀ τ, F18 σ τ → mK Γ M_X7_pairThatFrees (d + 6) Q n0 bc bs 2 [(0, .ref 0), (1, .int (nI x)), (2, .int (nI (i + 1)))] [] 60 mSH τ) → ∀ σ', F18 σ σ' →
    mK Γ M_X7_pairThatFrees (d + 6) Q n0 bc bs 17 [(0, .ref 0), (1, .int (nI x)), (2, .int (nI i)), (3, .int (nI j))] [] 60 mSH σ'
  | 0, j, hm, hS, hN, σ', hF => by
    have hn := hV.1.2.1
    have hV' := F18_V hF hV
    refine T_X7_pairThatFrees_0_17 _ _ _ ⟨fun _ => ?_, fun c => absurd (by rw [show f_X0_items_5 σ' = nI (dn (DC σ')) from cV_n hV', F18_D hF]; exact nI_le (by omega) (by omega)) c⟩
    rw [nI_1]
    exact hN rfl σ' hF
  | m + 1, j, hm, hS, hN, σ', hF => by
    have hn := hV.1.2.1
    have hV' := F18_V hF hV
    rw [pfI] at hS hN
    refine T_X7_pairThatFrees_0_17 _ _ _ ⟨fun c => absurd c (by rw [show f_X0_items_5 σ' = nI (dn (DC σ')) from cV_n hV', F18_D hF]; exact nI_ge (by omega) (by omega)), fun _ => ?_⟩
    rw [nI_eq (by omega) (by omega), nI_eq (by omega) (by omega), nI_1, c_supIn hV hF _ (by omega), bB_two σ' (by omega) (by omega)]
    refine ⟨fun c => ?_, fun c => ⟨fun c2 => ?_, fun c2 => ⟨hV', fun w => ?_, fun w => ?_⟩⟩⟩
    · rw [if_pos c] at hS hN; exact L_pairI hV hx hi m (j + 1) (by omega) hS hN σ' hF
    · rw [if_neg c, if_pos c2] at hS hN; exact L_pairI hV hx hi m (j + 1) (by omega) hS hN σ' hF
    · rw [if_neg c, if_neg c2, if_neg w] at hS hN; exact L_pairI hV hx hi m (j + 1) (by omega) hS hN _ (F18_T hF _ _ _)
    · rw [if_neg c, if_neg c2, if_pos (Classical.not_not.mp w)] at hS; exact hS _ rfl _ (F18_T hF _ _ _)
theorem L_pairO {Γ : Nat × (Nat → Int32)} {d n0 bc bs : Nat} {Q : mQ} {σ : mS} {x : Nat} (hV : cV σ) (hx : x < dn (DC σ)) :
    ∀ m i, i + m = dn (DC σ) → (∀ τ, F18 σ τ → Q (.inl (some (.int (pfO (DC σ) x i m)))) 60 mSH τ) → ∀ σ', F18 σ σ' →
    mK Γ M_X7_pairThatFrees (d + 6) Q n0 bc bs 2 [(0, .ref 0), (1, .int (nI x)), (2, .int (nI i))] [] 60 mSH σ'
  | 0, i, hm, hQ, σ', hF => by
    have hn := hV.1.2.1
    have hV' := F18_V hF hV
    exact T_X7_pairThatFrees_0_2 _ _ ⟨fun _ => hQ σ' hF, fun c => absurd (by rw [show f_X0_items_5 σ' = nI (dn (DC σ')) from cV_n hV', F18_D hF]; exact nI_le (by omega) (by omega)) c⟩
  | m + 1, i, hm, hQ, σ', hF => by
    have hn := hV.1.2.1
    have hV' := F18_V hF hV
    rw [pfO] at hQ
    refine T_X7_pairThatFrees_0_2 _ _ ⟨fun c => absurd c (by rw [show f_X0_items_5 σ' = nI (dn (DC σ')) from cV_n hV', F18_D hF]; exact nI_ge (by omega) (by omega)), fun _ => ?_⟩
    rw [nI_1]
    refine L_pairI hV hx (by omega) m (i + 1) (by omega) (fun r hr τ hτ => ?_) (fun hr τ hτ => ?_) σ' hF
    · rw [hr] at hQ; exact hQ τ hτ
    · rw [hr] at hQ; exact L_pairO hV hx m (i + 1) (by omega) hQ τ hτ
theorem S_pairThat {Γ : Nat × (Nat → Int32)} {d : Nat} {Q : mQ} {σ : mS} (x : Nat) (hV : cV σ) (hx : x < dn (DC σ)) (hQ : ∀ τ, F18 σ τ → Q (.inl (some (.int (pfO (DC σ) x 0 (dn (DC σ)))))) 60 mSH τ) : mCall Γ M_X7_pairThatFrees (d + 6) 0 0 [.ref 0, .int (nI x)] 60 mSH σ Q :=
  E_X7_pairThatFrees_0 (nI x) (L_pairO hV hx (dn (DC σ)) 0 (by omega) hQ σ (F18_r σ))
