/-! ===== the model's lines and its text ===== -/
noncomputable def gR (K : Nat → Nat) (s : gP) : gP := gIf (gT K 11 (gO K 10 s) = true) (gTst K (gSg K 6) (gA (gO K 10 s))) (gO K 10 s)
theorem gMv_R (K : Nat → Nat) (k : Nat) (s : gP) : gMv K k s = gR K (gB K k (gB K 7 (gN K 24 s))) := rfl
theorem gR_ff {K : Nat → Nat} {t : Nat} : gR K (t, false) = (t, false) := by rw [gR, gO_ff, gIf_neg gT_ff]
theorem gB_1 {K : Nat → Nat} {k t : Nat} (e : K t = k) : gB K k (t, true) = gN K 24 (t + 1, true) := by rw [gB, gN_1 e]
theorem gB_0 {K : Nat → Nat} {k t : Nat} (e : K t ≠ k) : gB K k (t, true) = (t, false) := by rw [gB, gN_0 e, gN_ff]
theorem gB_ff {K : Nat → Nat} {k t : Nat} : gB K k (t, false) = (t, false) := gB_f rfl
theorem S_ifM {Γ : Nat × (Nat → Int32)} {d : Nat} {Q : mQ} {σ : mS} {K P : Nat → Nat} {V : Nat → Int64} {M E u : Nat} {n0 bc bs : Nat} (h : tM σ K P V M) (hF : tF K V) (hE : gEnd K E) (hM : E < M) (hE4 : E ≤ 400) (hu : u ≤ E)
    (hQ : Q (.inl (some (.int (b01 (gIf (gT K 11 (u, true) = true) (gTst K (gSg K 6) (gA (u, true))) (u, true)).2)))) 60 mSH (mgS σ (gIf (gT K 11 (u, true) = true) (gTst K (gSg K 6) (gA (u, true))) (u, true)).1)) :
    mCall Γ M_X9_word (d + 29) 0 0 [.ref 26, .ref 1211] 60 mSH (mgS σ u) (mRt Γ M_X9_rest (d + 30) Q n0 bc bs 22 [(0, .ref 26)] []) := by
  refine S_wordM 11 h hF (by omega) (by decide) (fun q => T_X9_rest_26_22a _ ⟨fun c => absurd c one_ne, fun _ => ?_⟩) (fun q => T_X9_rest_26_22a _ ⟨fun _ => ?_, fun c => absurd rfl c⟩)
  · have l := lt_E hE q (by decide) hu
    rw [gIf_pos (gT_1.mpr q), gA_1] at hQ
    refine S_testM (d := d + 20) (g := gSg K 6) h hF hE hM hE4 (gSg_le hE 6) (gSg_ge 6) (fun t ht Q' hQ' => S_singleM h hF hE hM hE4 6 (by omega) d t ht Q' hQ') (u + 1) l (T_X9_rest_26_30a _ ⟨fun c => ?_, fun c => ?_⟩)
    · have f := b01_0.mp c
      rw [f] at hQ; exact hQ
    · have f : (gTst K (gSg K 6) (u + 1, true)).2 = true := by cases z : (gTst K (gSg K 6) (u + 1, true)).2; exact absurd (by rw [z]; rfl) c; rfl
      rw [f] at hQ; exact hQ
  · rw [gIf_neg (fun z => q (gT_1.mp z))] at hQ
    exact hQ
theorem S_restM {Γ : Nat × (Nat → Int32)} {d : Nat} {Q : mQ} {σ : mS} {K P : Nat → Nat} {V : Nat → Int64} {M E t : Nat} (h : tM σ K P V M) (hF : tF K V) (hE : gEnd K E) (hM : E < M) (hE4 : E ≤ 400) (ht : t ≤ E)
    (hQ : Q (.inl (some (.int (b01 (gR K (t, true)).2)))) 60 mSH (mgS σ (gR K (t, true)).1)) : mCall Γ M_X9_rest (d + 30) 0 0 [.ref 26] 60 mSH (mgS σ t) Q := by
  rw [gR] at hQ
  refine E_X9_rest_26 (S_wordM 10 h hF (by omega) (by decide) (fun q => T_X9_rest_26_6a _ ⟨fun c => absurd c one_ne, fun _ => ?_⟩) (fun q => T_X9_rest_26_6a _ ⟨fun _ => ?_, fun c => absurd rfl c⟩))
  · have l := lt_E hE q (by decide) ht
    rw [gO_1 q] at hQ
    refine S_numM h (by omega) (fun z => T_X9_rest_26_13a _ ⟨fun c => absurd c one_ne, fun _ => ?_⟩) (fun z => T_X9_rest_26_13a _ ⟨fun _ => ?_, fun c => absurd rfl c⟩)
    · have l2 := lt_E hE z (by decide) l
      rw [gN_1 z] at hQ
      exact S_ifM h hF hE hM hE4 l2 hQ
    · rw [gN_0 z, gIf_neg gT_ff] at hQ
      exact hQ
  · rw [gO_0 q] at hQ
    exact S_ifM h hF hE hM hE4 ht hQ
/-- the line up to its end -/
noncomputable def gLi (K : Nat → Nat) (s : gP) : gP := gIf (gT K 0 s = true) (gO K 1 (gN K 24 (gA s))) (gIf (gT K 2 s = true) (gO K 4 (gB K 3 (gN K 24 (gA s)))) (gIf (gT K 5 s = true) (gMv K 8 (gA s)) (gIf (gT K 6 s = true) (gMv K 9 (gA s)) (gIf (gT K 12 s = true ∨ gT K 13 s = true) (gN K 24 (gA s)) (gX s)))))
theorem gLn_i (K : Nat → Nat) (s : gP) : gLn K s = gN K 23 (gLi K s) := rfl
theorem S_lineM {Γ : Nat × (Nat → Int32)} {d : Nat} {Q : mQ} {σ : mS} {K P : Nat → Nat} {V : Nat → Int64} {M E t : Nat} (h : tM σ K P V M) (hF : tF K V) (hE : gEnd K E) (hM : E < M) (hE4 : E ≤ 400) (ht : t ≤ E)
    (hQ : Q (.inl (some (.int (b01 (gLi K (t, true)).2)))) 60 mSH (mgS σ (gLi K (t, true)).1)) : mCall Γ M_X9_line (d + 31) 0 0 [.ref 26] 60 mSH (mgS σ t) Q := by
  rw [gLi] at hQ
  refine E_X9_line_26 (S_wordM 0 h hF (by omega) (by decide) (fun q => T_X9_line_26_6a _ ⟨fun c => absurd c one_ne, fun _ => ?_⟩) (fun q0 => T_X9_line_26_6a _ ⟨fun _ => ?_, fun c => absurd rfl c⟩))
  · have l := lt_E hE q (by decide) ht
    rw [gIf_pos (gT_1.mpr q), gA_1] at hQ
    refine S_nameM h hF (by omega) (fun z => T_X9_line_26_13a _ ⟨fun c => absurd c one_ne, fun _ => ?_⟩) (fun z => T_X9_line_26_13a _ ⟨fun _ => ?_, fun c => absurd rfl c⟩)
    · have l2 := lt_E hE z (by decide) l
      rw [gN_1 z] at hQ
      refine S_wordM 1 h hF (by omega) (by decide) (fun y => T_X9_line_26_22a _ ⟨fun c => absurd c one_ne, fun _ => ?_⟩) (fun y => T_X9_line_26_22a _ ⟨fun _ => ?_, fun c => absurd rfl c⟩)
      · have l3 := lt_E hE y (by decide) l2
        rw [gO_1 y] at hQ
        refine S_numM h (by omega) (fun w => T_X9_line_26_29a _ ⟨fun c => absurd c one_ne, fun _ => ?_⟩) (fun w => T_X9_line_26_29a _ ⟨fun _ => ?_, fun c => absurd rfl c⟩)
        · rw [gN_1 w] at hQ; exact hQ
        · rw [gN_0 w] at hQ; exact hQ
      · rw [gO_0 y] at hQ; exact hQ
    · rw [gN_0 z, gO_ff] at hQ; exact hQ
  rw [gIf_neg (fun z => q0 (gT_1.mp z))] at hQ
  refine S_wordM 2 h hF (by omega) (by decide) (fun q => T_X9_line_26_44a _ ⟨fun c => absurd c one_ne, fun _ => ?_⟩) (fun q2 => T_X9_line_26_44a _ ⟨fun _ => ?_, fun c => absurd rfl c⟩)
  · have l := lt_E hE q (by decide) ht
    rw [gIf_pos (gT_1.mpr q), gA_1] at hQ
    refine S_nameM h hF (by omega) (fun z => T_X9_line_26_51a _ ⟨fun c => absurd c one_ne, fun _ => ?_⟩) (fun z => T_X9_line_26_51a _ ⟨fun _ => ?_, fun c => absurd rfl c⟩)
    · have l2 := lt_E hE z (by decide) l
      rw [gN_1 z] at hQ
      refine S_wordM 3 h hF (by omega) (by decide) (fun y => T_X9_line_26_60a _ ⟨fun c => absurd c one_ne, fun _ => ?_⟩) (fun y => T_X9_line_26_60a _ ⟨fun _ => ?_, fun c => absurd rfl c⟩)
      · have l3 := lt_E hE y (by decide) l2
        rw [gB_1 y] at hQ
        refine S_nameM h hF (by omega) (fun w => T_X9_line_26_67a _ ⟨fun c => absurd c one_ne, fun _ => ?_⟩) (fun w => T_X9_line_26_67a _ ⟨fun _ => ?_, fun c => absurd rfl c⟩)
        · have l4 := lt_E hE w (by decide) l3
          rw [gN_1 w] at hQ
          refine S_wordM 4 h hF (by omega) (by decide) (fun v => T_X9_line_26_76a _ ⟨fun c => absurd c one_ne, fun _ => ?_⟩) (fun v => T_X9_line_26_76a _ ⟨fun _ => ?_, fun c => absurd rfl c⟩)
          · have l5 := lt_E hE v (by decide) l4
            rw [gO_1 v] at hQ
            refine S_numM h (by omega) (fun u => T_X9_line_26_83a _ ⟨fun c => absurd c one_ne, fun _ => ?_⟩) (fun u => T_X9_line_26_83a _ ⟨fun _ => ?_, fun c => absurd rfl c⟩)
            · rw [gN_1 u] at hQ; exact hQ
            · rw [gN_0 u] at hQ; exact hQ
          · rw [gO_0 v] at hQ; exact hQ
        · rw [gN_0 w, gO_ff] at hQ; exact hQ
      · rw [gB_0 y, gO_ff] at hQ; exact hQ
    · rw [gN_0 z, gB_ff, gO_ff] at hQ; exact hQ
  rw [gIf_neg (fun z => q2 (gT_1.mp z))] at hQ
  refine S_wordM 5 h hF (by omega) (by decide) (fun q => T_X9_line_26_98a _ ⟨fun c => absurd c one_ne, fun _ => ?_⟩) (fun q5 => T_X9_line_26_98a _ ⟨fun _ => ?_, fun c => absurd rfl c⟩)
  · have l := lt_E hE q (by decide) ht
    rw [gIf_pos (gT_1.mpr q), gA_1, gMv_R] at hQ
    refine S_nameM h hF (by omega) (fun z => T_X9_line_26_105a _ ⟨fun c => absurd c one_ne, fun _ => ?_⟩) (fun z => T_X9_line_26_105a _ ⟨fun _ => ?_, fun c => absurd rfl c⟩)
    · have l2 := lt_E hE z (by decide) l
      rw [gN_1 z] at hQ
      refine S_wordM 7 h hF (by omega) (by decide) (fun y => T_X9_line_26_114a _ ⟨fun c => absurd c one_ne, fun _ => ?_⟩) (fun y => T_X9_line_26_114a _ ⟨fun _ => ?_, fun c => absurd rfl c⟩)
      · have l3 := lt_E hE y (by decide) l2
        rw [gB_1 y] at hQ
        refine S_nameM h hF (by omega) (fun w => T_X9_line_26_121a _ ⟨fun c => absurd c one_ne, fun _ => ?_⟩) (fun w => T_X9_line_26_121a _ ⟨fun _ => ?_, fun c => absurd rfl c⟩)
        · have l4 := lt_E hE w (by decide) l3
          rw [gN_1 w] at hQ
          refine S_wordM 8 h hF (by omega) (by decide) (fun v => T_X9_line_26_130a _ ⟨fun c => absurd c one_ne, fun _ => ?_⟩) (fun v => T_X9_line_26_130a _ ⟨fun _ => ?_, fun c => absurd rfl c⟩)
          · have l5 := lt_E hE v (by decide) l4
            rw [gB_1 v] at hQ
            refine S_nameM h hF (by omega) (fun u => T_X9_line_26_137a _ ⟨fun c => absurd c one_ne, fun _ => ?_⟩) (fun u => T_X9_line_26_137a _ ⟨fun _ => ?_, fun c => absurd rfl c⟩)
            · have l6 := lt_E hE u (by decide) l5
              rw [gN_1 u] at hQ
              refine S_restM h hF hE hM hE4 l6 (T_X9_line_26_144a _ ⟨fun c => ?_, fun c => ?_⟩)
              · rw [b01_0.mp c] at hQ; exact hQ
              · have f : (gR K (t + 1 + 1 + 1 + 1 + 1 + 1, true)).2 = true := by cases z : (gR K (t + 1 + 1 + 1 + 1 + 1 + 1, true)).2; exact absurd (by rw [z]; rfl) c; rfl
                rw [f] at hQ; exact hQ
            · rw [gN_0 u, gR_ff] at hQ; exact hQ
          · rw [gB_0 v, gR_ff] at hQ; exact hQ
        · rw [gN_0 w, gB_ff, gR_ff] at hQ; exact hQ
      · rw [gB_0 y, gB_ff, gR_ff] at hQ; exact hQ
    · rw [gN_0 z, gB_ff, gB_ff, gR_ff] at hQ; exact hQ
  rw [gIf_neg (fun z => q5 (gT_1.mp z))] at hQ
  refine S_wordM 6 h hF (by omega) (by decide) (fun q => T_X9_line_26_159a _ ⟨fun c => absurd c one_ne, fun _ => ?_⟩) (fun q6 => T_X9_line_26_159a _ ⟨fun _ => ?_, fun c => absurd rfl c⟩)
  · have l := lt_E hE q (by decide) ht
    rw [gIf_pos (gT_1.mpr q), gA_1, gMv_R] at hQ
    refine S_nameM h hF (by omega) (fun z => T_X9_line_26_166a _ ⟨fun c => absurd c one_ne, fun _ => ?_⟩) (fun z => T_X9_line_26_166a _ ⟨fun _ => ?_, fun c => absurd rfl c⟩)
    · have l2 := lt_E hE z (by decide) l
      rw [gN_1 z] at hQ
      refine S_wordM 7 h hF (by omega) (by decide) (fun y => T_X9_line_26_175a _ ⟨fun c => absurd c one_ne, fun _ => ?_⟩) (fun y => T_X9_line_26_175a _ ⟨fun _ => ?_, fun c => absurd rfl c⟩)
      · have l3 := lt_E hE y (by decide) l2
        rw [gB_1 y] at hQ
        refine S_nameM h hF (by omega) (fun w => T_X9_line_26_182a _ ⟨fun c => absurd c one_ne, fun _ => ?_⟩) (fun w => T_X9_line_26_182a _ ⟨fun _ => ?_, fun c => absurd rfl c⟩)
        · have l4 := lt_E hE w (by decide) l3
          rw [gN_1 w] at hQ
          refine S_wordM 9 h hF (by omega) (by decide) (fun v => T_X9_line_26_191a _ ⟨fun c => absurd c one_ne, fun _ => ?_⟩) (fun v => T_X9_line_26_191a _ ⟨fun _ => ?_, fun c => absurd rfl c⟩)
          · have l5 := lt_E hE v (by decide) l4
            rw [gB_1 v] at hQ
            refine S_nameM h hF (by omega) (fun u => T_X9_line_26_198a _ ⟨fun c => absurd c one_ne, fun _ => ?_⟩) (fun u => T_X9_line_26_198a _ ⟨fun _ => ?_, fun c => absurd rfl c⟩)
            · have l6 := lt_E hE u (by decide) l5
              rw [gN_1 u] at hQ
              refine S_restM h hF hE hM hE4 l6 (T_X9_line_26_205a _ ⟨fun c => ?_, fun c => ?_⟩)
              · rw [b01_0.mp c] at hQ; exact hQ
              · have f : (gR K (t + 1 + 1 + 1 + 1 + 1 + 1, true)).2 = true := by cases z : (gR K (t + 1 + 1 + 1 + 1 + 1 + 1, true)).2; exact absurd (by rw [z]; rfl) c; rfl
                rw [f] at hQ; exact hQ
            · rw [gN_0 u, gR_ff] at hQ; exact hQ
          · rw [gB_0 v, gR_ff] at hQ; exact hQ
        · rw [gN_0 w, gB_ff, gR_ff] at hQ; exact hQ
      · rw [gB_0 y, gB_ff, gR_ff] at hQ; exact hQ
    · rw [gN_0 z, gB_ff, gB_ff, gR_ff] at hQ; exact hQ
  rw [gIf_neg (fun z => q6 (gT_1.mp z))] at hQ
  have nm : K t = 12 ∨ K t = 13 → mCall Γ M_X9_name (d + 30) 0 0 [.ref 26] 60 mSH (mgS σ (t + 1)) (mRt Γ M_X9_line (d + 31) Q 60 0 0 236 [(0, .ref 26)] []) := by
    intro q
    have l : t < E := q.elim (fun z => lt_E hE z (by decide) ht) (fun z => lt_E hE z (by decide) ht)
    rw [gIf_pos (q.elim (fun z => .inl (gT_1.mpr z)) (fun z => .inr (gT_1.mpr z))), gA_1] at hQ
    refine S_nameM h hF (by omega) (fun w => T_X9_line_26_236a _ ⟨fun c => absurd c one_ne, fun _ => ?_⟩) (fun w => T_X9_line_26_236a _ ⟨fun _ => ?_, fun c => absurd rfl c⟩)
    · rw [gN_1 w] at hQ; exact hQ
    · rw [gN_0 w] at hQ; exact hQ
  refine S_wordM 12 h hF (by omega) (by decide) (fun q => T_X9_line_26_220a _ ⟨fun c => absurd c one_ne, fun _ => nm (.inl q)⟩) (fun q12 => T_X9_line_26_220a _ ⟨fun _ => ?_, fun c => absurd rfl c⟩)
  refine S_wordM 13 h hF (by omega) (by decide) (fun q => T_X9_line_26_229a _ ⟨fun c => absurd c one_ne, fun _ => nm (.inr q)⟩) (fun q13 => T_X9_line_26_229a _ ⟨fun _ => ?_, fun c => absurd rfl c⟩)
  rw [gIf_neg (fun z => z.elim (fun y => q12 (gT_1.mp y)) (fun y => q13 (gT_1.mp y)))] at hQ
  exact hQ
theorem gO_ge {K : Nat → Nat} {k : Nat} (s : gP) : s.1 ≤ (gO K k s).1 := by
  rw [gO]; split
  · exact Nat.le_trans (Nat.le_succ s.1) (gN_ge (gA s))
  · exact Nat.le_refl _
theorem gB_ge {K : Nat → Nat} {k : Nat} (s : gP) : s.1 ≤ (gB K k s).1 := Nat.le_trans (gN_ge s) (gN_ge _)
theorem gR_ge {K : Nat → Nat} (s : gP) : s.1 ≤ (gR K s).1 := by
  rw [gR]
  have a := gO_ge (K := K) (k := 10) s
  by_cases q : gT K 11 (gO K 10 s) = true
  · rw [gIf_pos q]
    exact Nat.le_trans (Nat.le_trans a (Nat.le_succ _)) (Nat.le_trans (gSg_ge 6 (gA (gO K 10 s))) (gL_ge (gSg_ge 6) 400 _))
  · rw [gIf_neg q]; exact a
theorem gMv_ge {K : Nat → Nat} {k : Nat} (s : gP) : s.1 ≤ (gMv K k s).1 := by
  rw [gMv_R]
  exact Nat.le_trans (gN_ge s) (Nat.le_trans (gB_ge _) (Nat.le_trans (gB_ge _) (gR_ge _)))
/-- a good line is two tokens at least -/
theorem gLi_ge {K : Nat → Nat} (s : gP) (h : (gLi K s).2 = true) : s.1 + 1 ≤ (gLi K s).1 := by
  rw [gLi] at h ⊢
  have a : (gA s).1 = s.1 + 1 := rfl
  by_cases q0 : gT K 0 s = true
  · rw [gIf_pos q0] at h ⊢; exact Nat.le_trans (gN_ge (gA s)) (gO_ge _)
  rw [gIf_neg q0] at h ⊢
  by_cases q2 : gT K 2 s = true
  · rw [gIf_pos q2] at h ⊢; exact Nat.le_trans (gN_ge (gA s)) (Nat.le_trans (gB_ge _) (gO_ge _))
  rw [gIf_neg q2] at h ⊢
  by_cases q5 : gT K 5 s = true
  · rw [gIf_pos q5] at h ⊢; exact gMv_ge (gA s)
  rw [gIf_neg q5] at h ⊢
  by_cases q6 : gT K 6 s = true
  · rw [gIf_pos q6] at h ⊢; exact gMv_ge (gA s)
  rw [gIf_neg q6] at h ⊢
  by_cases q12 : gT K 12 s = true ∨ gT K 13 s = true
  · rw [gIf_pos q12] at h ⊢; exact gN_ge (gA s)
  · rw [gIf_neg q12] at h; exact absurd h (by rw [gX]; exact Bool.false_ne_true)
theorem gLi_le {K : Nat → Nat} {E : Nat} {s : gP} (hE : gEnd K E) (h : s.1 ≤ E) : (gLi K s).1 ≤ E := Nat.le_trans (gN_ge (k := 23) (gLi K s)) (gLn_le hE h)
theorem gTx_f {K : Nat → Nat} : ∀ m (t : Nat), gTx K m (t, false) = (t, false)
  | 0, t => rfl
  | m + 1, t => by rw [gTx, gIf_neg (fun q => Bool.false_ne_true q.1)]
theorem L_textM {Γ : Nat × (Nat → Int32)} {d n0 bc bs : Nat} {Q : mQ} {σ : mS} {K P : Nat → Nat} {V : Nat → Int64} {M E : Nat} (h : tM σ K P V M) (hF : tF K V) (hE : gEnd K E) (hM : E < M) (hE4 : E ≤ 400) :
    ∀ m t, 800 ≤ t + 2 * m → t ≤ E → Q (.inl (some (.int (b01 (gTx K m (t, true)).2)))) 60 mSH (mgS σ (gTx K m (t, true)).1) →
      mK Γ M_X9_isText (d + 32) Q n0 bc bs 5 [(0, .ref 26)] [] 60 mSH (mgS σ t)
  | 0, t, hm, ht, hQ => by omega
  | m + 1, t, hm, ht, hQ => by
    have k28 := h.2.1 t
    obtain ⟨e29, e30, e31⟩ := h.2.2.2 t (by omega)
    refine T_X9_isText_26_5 ?_
    rw [mgS_t, nI_clamp (by omega), mgS_29, e29, srt_0 _ k28]
    refine ⟨vp_in_nI (by omega) (by omega), fun q => ?_, fun q => ?_⟩
    · rw [gTx, gIf_neg (fun z => z.2 q)] at hQ; exact hQ
    · rw [gTx, gIf_pos ⟨rfl, q⟩, gLn_i] at hQ
      refine S_lineM h hF hE hM hE4 ht (T_X9_isText_26_21a _ ⟨fun c => ?_, fun c => ?_⟩)
      · have f := b01_0.mp c
        have e : gLi K (t, true) = ((gLi K (t, true)).1, false) := by rw [← f]
        rw [e, gN_ff, gTx_f] at hQ
        exact hQ
      · have f : (gLi K (t, true)).2 = true := by cases z : (gLi K (t, true)).2; exact absurd (by rw [z]; rfl) c; rfl
        have ge := gLi_ge (t, true) f
        have ge : t + 1 ≤ (gLi K (t, true)).1 := ge
        have le := gLi_le (s := (t, true)) hE ht
        rw [gP_t f] at hQ
        refine S_symM 59 23 h (by omega) (by decide) (by decide) (by decide) (fun q => T_X9_isText_26_31a _ ?_) (fun q => T_X9_isText_26_31a _ ?_)
        · have l := lt_E hE q (by decide) le
          rw [gN_1 q] at hQ
          exact S_past1 (T_X9_isText_26_34a _ ⟨fun c => absurd c one_ne, fun _ => L_textM h hF hE hM hE4 m _ (by omega) l hQ⟩)
        · rw [gN_0 q, gTx_f] at hQ
          exact S_past0 (T_X9_isText_26_34a _ ⟨fun _ => hQ, fun c => absurd rfl c⟩)
theorem S_textM {Γ : Nat × (Nat → Int32)} {d : Nat} {Q : mQ} {σ : mS} {K P : Nat → Nat} {V : Nat → Int64} {M E : Nat} (h : tM σ K P V M) (hF : tF K V) (hE : gEnd K E) (hM : E < M) (hE4 : E ≤ 400)
    (hQ : Q (.inl (some (.int (b01 (gTx K 400 (0, true)).2)))) 60 mSH (mgS σ (gTx K 400 (0, true)).1)) : mCall Γ M_X9_isText (d + 32) 0 0 [.ref 26] 60 mSH σ Q :=
  E_X9_isText_26 (L_textM h hF hE hM hE4 400 0 (by omega) (Nat.zero_le _) hQ)
