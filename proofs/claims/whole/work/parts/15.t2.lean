set_option maxRecDepth 20000 in
theorem E_X4_noteRound_16 {Γ : Nat × (Nat → Int32)} {d : Nat} {Q : mQ} {σ : mS} (a1 : Int64) (a2 : Int32) (h : mK Γ M_X4_noteRound (d + 2) Q 60 0 0 3 [(0, .ref 16), (1, .long a1), (3, .int a2), (4, .int 0)] [] 60 mSH σ) : mCall Γ M_X4_noteRound (d + 2) 0 0 [.ref 16, .long a1, .int a2] 60 mSH σ Q := by
  refine mCall_of rfl (by decide) (Nat.le_of_ble_eq_true rfl) (mOkC (mOk_lo (Nat.le_of_ble_eq_true rfl)) (mOkC mOk_l (mOkC mOk_i mOkN))) ?_
  show mK Γ M_X4_noteRound (d + 2) Q 60 0 0 0 [(0, .ref 16), (1, .long a1), (3, .int a2)] [] 60 mSH σ
  refine mK_iconst dX4_noteRound_0 rfl qic_0 ?_
  refine ru_istore (lv1 := [(0, .ref 16), (1, .long a1), (3, .int a2), (4, .int 0)]) dX4_noteRound_1 rfl (by decide) rfl ?_
  exact h
set_option maxRecDepth 20000 in
theorem T_X4_noteRound_16_3 {Γ : Nat × (Nat → Int32)} {d n0 bc bs : Nat} {Q : mQ} {σ : mS} (x1 : Int64) (x3 : Int32) (x4 : Int32) (h : ((40 ≤ x4 → Q (.inl none) 60 mSH σ) ∧ (¬ (40 ≤ x4) → (((x1 &&& (f_X7_bit σ x4)) = 0 → mK Γ M_X4_noteRound (d + 2) Q n0 bc bs 3 [(0, .ref 16), (1, .long x1), (3, .int x3), (4, .int (x4 + 1))] [] 60 mSH σ) ∧ (¬ ((x1 &&& (f_X7_bit σ x4)) = 0) → ((vp_in x4 40) ∧ mK Γ M_X4_noteRound (d + 2) Q n0 bc bs 3 [(0, .ref 16), (1, .long x1), (3, .int x3), (4, .int (x4 + 1))] [] 60 mSH (mPI σ 17 (x4).toNatClampNeg x3))))))) : mK Γ M_X4_noteRound (d + 2) Q n0 bc bs 3 [(0, .ref 16), (1, .long x1), (3, .int x3), (4, .int x4)] [] 60 mSH σ := by
  refine mK_iload dX4_noteRound_3 rfl (.tail _ (.tail _ (.tail _ (.head _)))) ?_
  refine mK_bipush dX4_noteRound_5 rfl qbi_40 ?_
  refine mK_icmp_ge (tgt := 36) dX4_noteRound_7 rfl (by decide) (fun c1 => ?_) (fun c1 => ?_)
  · exact mK_vret dX4_noteRound_36 rfl (h.1 c1)
  · refine mK_lload_n dX4_noteRound_10 rfl rfl (.tail _ (.head _)) ?_
    refine mK_iload dX4_noteRound_11 rfl (.tail _ (.tail _ (.tail _ (.head _)))) ?_
    refine mK_invSN (J := M_X7_bit) (k := 1) (as := [.int x4]) (st := [.long x1]) (c1 := 0) (s1 := 0) dX4_noteRound_13 rfl jw_X7_bit jn_X7_bit rfl (Nat.le_of_ble_eq_true rfl) (Nat.zero_le _) (Nat.zero_le _) rfl kn_611 kw_612 ?_
    refine S_X7_bit x4 ?_
    show mK Γ M_X4_noteRound (d + 2) Q n0 bc bs 16 [(0, .ref 16), (1, .long x1), (3, .int x3), (4, .int x4)] [.long (f_X7_bit σ x4), .long x1] 60 mSH σ
    refine mK_land dX4_noteRound_16 rfl ?_
    refine mK_lconst dX4_noteRound_17 rfl (v := 0) rfl ?_
    refine ru_lif_eq (tgt := 30) dX4_noteRound_18 rfl dX4_noteRound_19 rfl (by decide) (fun c2 => ?_) (fun c2 => ?_)
    · refine ru_iinc (lv1 := [(0, .ref 16), (1, .long x1), (3, .int x3), (4, .int (x4 + 1))]) dX4_noteRound_30 rfl (.tail _ (.tail _ (.tail _ (.head _)))) qic_1 (by decide) rfl ?_
      refine mK_goto (tgt := 3) dX4_noteRound_33 (by decide) ?_
      exact ((h.2 c1).1 c2)
    · refine mK_aload_n dX4_noteRound_22 rfl rfl (.head _) ?_
      refine ru_getR (k := 1) (ci := 3) (a := 17) dX4_noteRound_23 rfl rfl rfl kw_201 ?_
      refine mK_iload dX4_noteRound_26 rfl (.tail _ (.tail _ (.tail _ (.head _)))) ?_
      refine mK_iload_n dX4_noteRound_28 rfl rfl (.tail _ (.tail _ (.head _))) ?_
      refine ru_iast (n := 40) dX4_noteRound_29 rfl rfl (((h.2 c1).2 c2).1) ?_
      refine ru_iinc (lv1 := [(0, .ref 16), (1, .long x1), (3, .int x3), (4, .int (x4 + 1))]) dX4_noteRound_30 rfl (.tail _ (.tail _ (.tail _ (.head _)))) qic_1 (by decide) rfl ?_
      refine mK_goto (tgt := 3) dX4_noteRound_33 (by decide) ?_
      exact ((h.2 c1).2 c2).2
set_option maxRecDepth 20000 in
theorem E_X4_noteRound_18 {Γ : Nat × (Nat → Int32)} {d : Nat} {Q : mQ} {σ : mS} (a1 : Int64) (a2 : Int32) (h : mK Γ M_X4_noteRound (d + 2) Q 60 0 0 3 [(0, .ref 18), (1, .long a1), (3, .int a2), (4, .int 0)] [] 60 mSH σ) : mCall Γ M_X4_noteRound (d + 2) 0 0 [.ref 18, .long a1, .int a2] 60 mSH σ Q := by
  refine mCall_of rfl (by decide) (Nat.le_of_ble_eq_true rfl) (mOkC (mOk_lo (Nat.le_of_ble_eq_true rfl)) (mOkC mOk_l (mOkC mOk_i mOkN))) ?_
  show mK Γ M_X4_noteRound (d + 2) Q 60 0 0 0 [(0, .ref 18), (1, .long a1), (3, .int a2)] [] 60 mSH σ
  refine mK_iconst dX4_noteRound_0 rfl qic_0 ?_
  refine ru_istore (lv1 := [(0, .ref 18), (1, .long a1), (3, .int a2), (4, .int 0)]) dX4_noteRound_1 rfl (by decide) rfl ?_
  exact h
set_option maxRecDepth 20000 in
theorem T_X4_noteRound_18_3 {Γ : Nat × (Nat → Int32)} {d n0 bc bs : Nat} {Q : mQ} {σ : mS} (x1 : Int64) (x3 : Int32) (x4 : Int32) (h : ((40 ≤ x4 → Q (.inl none) 60 mSH σ) ∧ (¬ (40 ≤ x4) → (((x1 &&& (f_X7_bit σ x4)) = 0 → mK Γ M_X4_noteRound (d + 2) Q n0 bc bs 3 [(0, .ref 18), (1, .long x1), (3, .int x3), (4, .int (x4 + 1))] [] 60 mSH σ) ∧ (¬ ((x1 &&& (f_X7_bit σ x4)) = 0) → ((vp_in x4 40) ∧ mK Γ M_X4_noteRound (d + 2) Q n0 bc bs 3 [(0, .ref 18), (1, .long x1), (3, .int x3), (4, .int (x4 + 1))] [] 60 mSH (mPI σ 19 (x4).toNatClampNeg x3))))))) : mK Γ M_X4_noteRound (d + 2) Q n0 bc bs 3 [(0, .ref 18), (1, .long x1), (3, .int x3), (4, .int x4)] [] 60 mSH σ := by
  refine mK_iload dX4_noteRound_3 rfl (.tail _ (.tail _ (.tail _ (.head _)))) ?_
  refine mK_bipush dX4_noteRound_5 rfl qbi_40 ?_
  refine mK_icmp_ge (tgt := 36) dX4_noteRound_7 rfl (by decide) (fun c1 => ?_) (fun c1 => ?_)
  · exact mK_vret dX4_noteRound_36 rfl (h.1 c1)
  · refine mK_lload_n dX4_noteRound_10 rfl rfl (.tail _ (.head _)) ?_
    refine mK_iload dX4_noteRound_11 rfl (.tail _ (.tail _ (.tail _ (.head _)))) ?_
    refine mK_invSN (J := M_X7_bit) (k := 1) (as := [.int x4]) (st := [.long x1]) (c1 := 0) (s1 := 0) dX4_noteRound_13 rfl jw_X7_bit jn_X7_bit rfl (Nat.le_of_ble_eq_true rfl) (Nat.zero_le _) (Nat.zero_le _) rfl kn_611 kw_612 ?_
    refine S_X7_bit x4 ?_
    show mK Γ M_X4_noteRound (d + 2) Q n0 bc bs 16 [(0, .ref 18), (1, .long x1), (3, .int x3), (4, .int x4)] [.long (f_X7_bit σ x4), .long x1] 60 mSH σ
    refine mK_land dX4_noteRound_16 rfl ?_
    refine mK_lconst dX4_noteRound_17 rfl (v := 0) rfl ?_
    refine ru_lif_eq (tgt := 30) dX4_noteRound_18 rfl dX4_noteRound_19 rfl (by decide) (fun c2 => ?_) (fun c2 => ?_)
    · refine ru_iinc (lv1 := [(0, .ref 18), (1, .long x1), (3, .int x3), (4, .int (x4 + 1))]) dX4_noteRound_30 rfl (.tail _ (.tail _ (.tail _ (.head _)))) qic_1 (by decide) rfl ?_
      refine mK_goto (tgt := 3) dX4_noteRound_33 (by decide) ?_
      exact ((h.2 c1).1 c2)
    · refine mK_aload_n dX4_noteRound_22 rfl rfl (.head _) ?_
      refine ru_getR (k := 1) (ci := 3) (a := 19) dX4_noteRound_23 rfl rfl rfl kw_201 ?_
      refine mK_iload dX4_noteRound_26 rfl (.tail _ (.tail _ (.tail _ (.head _)))) ?_
      refine mK_iload_n dX4_noteRound_28 rfl rfl (.tail _ (.tail _ (.head _))) ?_
      refine ru_iast (n := 40) dX4_noteRound_29 rfl rfl (((h.2 c1).2 c2).1) ?_
      refine ru_iinc (lv1 := [(0, .ref 18), (1, .long x1), (3, .int x3), (4, .int (x4 + 1))]) dX4_noteRound_30 rfl (.tail _ (.tail _ (.tail _ (.head _)))) qic_1 (by decide) rfl ?_
      refine mK_goto (tgt := 3) dX4_noteRound_33 (by decide) ?_
      exact ((h.2 c1).2 c2).2
set_option maxRecDepth 20000 in
theorem E_X4_findMore_16 {Γ : Nat × (Nat → Int32)} {d : Nat} {Q : mQ} {σ : mS} (a1 : Int32) (a2 : Int64) (h : mK Γ M_X4_findMore (d + 4) Q 60 0 0 15 [(0, .ref 16), (1, .int a1), (4, .long a2), (6, .long 0), (8, .long 0), (10, .long 0), (12, .int 0)] [] 60 mSH σ) : mCall Γ M_X4_findMore (d + 4) 0 0 [.ref 16, .int a1, .long a2] 60 mSH σ Q := by
  refine mCall_of rfl (by decide) (Nat.le_of_ble_eq_true rfl) (mOkC (mOk_lo (Nat.le_of_ble_eq_true rfl)) (mOkC mOk_i (mOkC mOk_l mOkN))) ?_
  show mK Γ M_X4_findMore (d + 4) Q 60 0 0 0 [(0, .ref 16), (1, .int a1), (2, .long a2)] [] 60 mSH σ
  refine mK_lload_n dX4_findMore_0 rfl rfl (.tail _ (.tail _ (.head _))) ?_
  refine ru_lstore (lv1 := [(0, .ref 16), (1, .int a1), (2, .long a2), (4, .long a2)]) dX4_findMore_1 rfl (by decide) rfl ?_
  refine mK_lconst dX4_findMore_3 rfl (v := 0) rfl ?_
  refine ru_lstore (lv1 := [(0, .ref 16), (1, .int a1), (2, .long a2), (4, .long a2), (6, .long 0)]) dX4_findMore_4 rfl (by decide) rfl ?_
  refine mK_lconst dX4_findMore_6 rfl (v := 0) rfl ?_
  refine ru_lstore (lv1 := [(0, .ref 16), (1, .int a1), (2, .long a2), (4, .long a2), (6, .long 0), (8, .long 0)]) dX4_findMore_7 rfl (by decide) rfl ?_
  refine mK_lconst dX4_findMore_9 rfl (v := 0) rfl ?_
  refine ru_lstore (lv1 := [(0, .ref 16), (1, .int a1), (2, .long a2), (4, .long a2), (6, .long 0), (8, .long 0), (10, .long 0)]) dX4_findMore_10 rfl (by decide) rfl ?_
  refine mK_iconst dX4_findMore_12 rfl qic_0 ?_
  refine ru_istore (lv1 := [(0, .ref 16), (1, .int a1), (2, .long a2), (4, .long a2), (6, .long 0), (8, .long 0), (10, .long 0), (12, .int 0)]) dX4_findMore_13 rfl (by decide) rfl ?_
  exact ru_pick [0, 1, 3, 4, 5, 6, 7] rfl h
set_option maxRecDepth 20000 in
theorem T_X4_findMore_16_15 {Γ : Nat × (Nat → Int32)} {d n0 bc bs : Nat} {Q : mQ} {σ : mS} (x1 : Int32) (x4 : Int64) (x6 : Int64) (x8 : Int64) (x10 : Int64) (x12 : Int32) (h : (((f_X0_items_5 σ) ≤ x12 → mCall Γ M_X4_noteRound (d + 3) 0 0 [.ref 16, .long (((f_X4_itemsOpen_16 σ) &&& (((σ.2.1 16 2) ||| x4) ||| x8)) ||| ((f_X4_itemsOpen_16 σ) &&& (((((f_X4_itemsOpen_16 σ) &&& (((σ.2.1 16 2) ||| x4) ||| x8)) ||| x6) ||| x10) ^^^ (-1)))), .int x1] 60 mSH (mPL (mPL σ 16 4 ((σ.2.1 16 4) ||| ((f_X4_itemsOpen_16 σ) &&& (((σ.2.1 16 2) ||| x4) ||| x8)))) 16 3 ((σ.2.1 16 3) ||| ((f_X4_itemsOpen_16 σ) &&& (((((f_X4_itemsOpen_16 σ) &&& (((σ.2.1 16 2) ||| x4) ||| x8)) ||| x6) ||| x10) ^^^ (-1))))) (mRt Γ M_X4_findMore (d + 4) Q n0 bc bs 232 [(0, .ref 16), (1, .int x1), (4, .long x4), (6, .long x6), (8, .long x8), (10, .long x10), (12, .long (f_X4_itemsOpen_16 σ)), (14, .long ((f_X4_itemsOpen_16 σ) &&& (((σ.2.1 16 2) ||| x4) ||| x8))), (16, .long ((f_X4_itemsOpen_16 σ) &&& (((((f_X4_itemsOpen_16 σ) &&& (((σ.2.1 16 2) ||| x4) ||| x8)) ||| x6) ||| x10) ^^^ (-1))))] [])) ∧ (¬ ((f_X0_items_5 σ) ≤ x12) → (((f_X0_isStrongAttack_5 σ x12) = 0 → mK Γ M_X4_findMore (d + 4) Q n0 bc bs 93 [(0, .ref 16), (1, .int x1), (4, .long x4), (6, .long x6), (8, .long x8), (10, .long x10), (12, .int x12)] [] 60 mSH σ) ∧ (¬ ((f_X0_isStrongAttack_5 σ x12) = 0) → (((f_X4_isIn_16 σ x12) = 0 → (((f_X4_isOut_16 σ x12) = 0 → mK Γ M_X4_findMore (d + 4) Q n0 bc bs 93 [(0, .ref 16), (1, .int x1), (4, .long (x4 ||| 0)), (6, .long (x6 ||| (f_X7_bit σ (f_X0_targetOf_5 σ x12)))), (8, .long x8), (10, .long x10), (12, .int x12)] [] 60 mSH σ) ∧ (¬ ((f_X4_isOut_16 σ x12) = 0) → mK Γ M_X4_findMore (d + 4) Q n0 bc bs 93 [(0, .ref 16), (1, .int x1), (4, .long (x4 ||| 0)), (6, .long (x6 ||| 0)), (8, .long x8), (10, .long x10), (12, .int x12)] [] 60 mSH σ))) ∧ (¬ ((f_X4_isIn_16 σ x12) = 0) → (((f_X4_isOut_16 σ x12) = 0 → mK Γ M_X4_findMore (d + 4) Q n0 bc bs 93 [(0, .ref 16), (1, .int x1), (4, .long (x4 ||| (f_X7_bit σ (f_X0_targetOf_5 σ x12)))), (6, .long (x6 ||| (f_X7_bit σ (f_X0_targetOf_5 σ x12)))), (8, .long x8), (10, .long x10), (12, .int x12)] [] 60 mSH σ) ∧ (¬ ((f_X4_isOut_16 σ x12) = 0) → mK Γ M_X4_findMore (d + 4) Q n0 bc bs 93 [(0, .ref 16), (1, .int x1), (4, .long (x4 ||| (f_X7_bit σ (f_X0_targetOf_5 σ x12)))), (6, .long (x6 ||| 0)), (8, .long x8), (10, .long x10), (12, .int x12)] [] 60 mSH σ))))))))) : mK Γ M_X4_findMore (d + 4) Q n0 bc bs 15 [(0, .ref 16), (1, .int x1), (4, .long x4), (6, .long x6), (8, .long x8), (10, .long x10), (12, .int x12)] [] 60 mSH σ := by
  refine mK_iload dX4_findMore_15 rfl (.tail _ (.tail _ (.tail _ (.tail _ (.tail _ (.tail _ (.head _))))))) ?_
  refine mK_aload_n dX4_findMore_17 rfl rfl (.head _) ?_
  refine ru_getR (k := 0) (ci := 3) (a := 5) dX4_findMore_18 rfl rfl rfl kw_200 ?_
  refine mK_invV (J := M_X0_items) (k := 0) (as := []) (st := [.int x12]) (c1 := 0) (s1 := 0) dX4_findMore_21 rfl jw_X0_items jn_X0_items rfl (Nat.le_of_ble_eq_true rfl) (Nat.zero_le _) (Nat.zero_le _) rfl kw_602 kw_529 kw_530 (b := 5) (Nat.le_of_ble_eq_true rfl) (Nat.le_of_ble_eq_true rfl) rfl ?_
  refine S_X0_items_5  ?_
  show mK Γ M_X4_findMore (d + 4) Q n0 bc bs 24 [(0, .ref 16), (1, .int x1), (4, .long x4), (6, .long x6), (8, .long x8), (10, .long x10), (12, .int x12)] [.int (f_X0_items_5 σ), .int x12] 60 mSH σ
  refine mK_icmp_ge (tgt := 162) dX4_findMore_24 rfl (by decide) (fun c1 => ?_) (fun c1 => ?_)
  · refine mK_aload_n dX4_findMore_162 rfl rfl (.head _) ?_
    refine mK_invV (J := M_X4_itemsOpen) (k := 0) (as := []) (st := []) (c1 := 0) (s1 := 0) dX4_findMore_163 rfl jw_X4_itemsOpen jn_X4_itemsOpen rfl (Nat.le_of_ble_eq_true rfl) (Nat.zero_le _) (Nat.zero_le _) rfl kw_626 kw_627 kw_628 (b := 16) (Nat.le_of_ble_eq_true rfl) (Nat.le_of_ble_eq_true rfl) rfl ?_
    refine S_X4_itemsOpen_16  ?_
    show mK Γ M_X4_findMore (d + 4) Q n0 bc bs 166 [(0, .ref 16), (1, .int x1), (4, .long x4), (6, .long x6), (8, .long x8), (10, .long x10), (12, .int x12)] [.long (f_X4_itemsOpen_16 σ)] 60 mSH σ
    refine ru_lstore (lv1 := [(0, .ref 16), (1, .int x1), (4, .long x4), (6, .long x6), (8, .long x8), (10, .long x10), (12, .long (f_X4_itemsOpen_16 σ))]) dX4_findMore_166 rfl (by decide) rfl ?_
    refine mK_lload dX4_findMore_168 rfl (.tail _ (.tail _ (.tail _ (.tail _ (.tail _ (.tail _ (.head _))))))) ?_
    refine mK_aload_n dX4_findMore_170 rfl rfl (.head _) ?_
    refine ru_getL (k := 2) (ci := 3) dX4_findMore_171 rfl rfl kw_202 ?_
    refine mK_lload dX4_findMore_174 rfl (.tail _ (.tail _ (.head _))) ?_
    refine mK_lor dX4_findMore_176 rfl ?_
    refine mK_lload dX4_findMore_177 rfl (.tail _ (.tail _ (.tail _ (.tail _ (.head _))))) ?_
    refine mK_lor dX4_findMore_179 rfl ?_
    refine mK_land dX4_findMore_180 rfl ?_
    refine ru_lstore (lv1 := [(0, .ref 16), (1, .int x1), (4, .long x4), (6, .long x6), (8, .long x8), (10, .long x10), (12, .long (f_X4_itemsOpen_16 σ)), (14, .long ((f_X4_itemsOpen_16 σ) &&& (((σ.2.1 16 2) ||| x4) ||| x8)))]) dX4_findMore_181 rfl (by decide) rfl ?_
    refine mK_lload dX4_findMore_183 rfl (.tail _ (.tail _ (.tail _ (.tail _ (.tail _ (.tail _ (.head _))))))) ?_
    refine mK_lload dX4_findMore_185 rfl (.tail _ (.tail _ (.tail _ (.tail _ (.tail _ (.tail _ (.tail _ (.head _)))))))) ?_
    refine mK_lload dX4_findMore_187 rfl (.tail _ (.tail _ (.tail _ (.head _)))) ?_
    refine mK_lor dX4_findMore_189 rfl ?_
    refine mK_lload dX4_findMore_190 rfl (.tail _ (.tail _ (.tail _ (.tail _ (.tail _ (.head _)))))) ?_
    refine mK_lor dX4_findMore_192 rfl ?_
    refine mK_ldc2 dX4_findMore_193 rfl kw_635 ?_
    refine mK_lxor dX4_findMore_196 rfl ?_
    refine mK_land dX4_findMore_197 rfl ?_
    refine ru_lstore (lv1 := [(0, .ref 16), (1, .int x1), (4, .long x4), (6, .long x6), (8, .long x8), (10, .long x10), (12, .long (f_X4_itemsOpen_16 σ)), (14, .long ((f_X4_itemsOpen_16 σ) &&& (((σ.2.1 16 2) ||| x4) ||| x8))), (16, .long ((f_X4_itemsOpen_16 σ) &&& (((((f_X4_itemsOpen_16 σ) &&& (((σ.2.1 16 2) ||| x4) ||| x8)) ||| x6) ||| x10) ^^^ (-1))))]) dX4_findMore_198 rfl (by decide) rfl ?_
    refine mK_aload_n dX4_findMore_200 rfl rfl (.head _) ?_
    refine mK_dup dX4_findMore_201 rfl rfl ?_
    refine ru_getL (k := 4) (ci := 3) dX4_findMore_202 rfl rfl kw_204 ?_
    refine mK_lload dX4_findMore_205 rfl (.tail _ (.tail _ (.tail _ (.tail _ (.tail _ (.tail _ (.tail _ (.head _)))))))) ?_
    refine mK_lor dX4_findMore_207 rfl ?_
    refine ru_putL (k := 4) (ci := 3) dX4_findMore_208 rfl rfl rfl kw_204 ?_
    refine mK_aload_n dX4_findMore_211 rfl rfl (.head _) ?_
    refine mK_dup dX4_findMore_212 rfl rfl ?_
    refine ru_getL (k := 3) (ci := 3) dX4_findMore_213 rfl rfl kw_203 ?_
    refine mK_lload dX4_findMore_216 rfl (.tail _ (.tail _ (.tail _ (.tail _ (.tail _ (.tail _ (.tail _ (.tail _ (.head _))))))))) ?_
    refine mK_lor dX4_findMore_218 rfl ?_
    refine ru_putL (k := 3) (ci := 3) dX4_findMore_219 rfl rfl rfl kw_203 ?_
    refine mK_aload_n dX4_findMore_222 rfl rfl (.head _) ?_
    refine mK_lload dX4_findMore_223 rfl (.tail _ (.tail _ (.tail _ (.tail _ (.tail _ (.tail _ (.tail _ (.head _)))))))) ?_
    refine mK_lload dX4_findMore_225 rfl (.tail _ (.tail _ (.tail _ (.tail _ (.tail _ (.tail _ (.tail _ (.tail _ (.head _))))))))) ?_
    refine mK_lor dX4_findMore_227 rfl ?_
    refine mK_iload_n dX4_findMore_228 rfl rfl (.tail _ (.head _)) ?_
    refine mK_invV (J := M_X4_noteRound) (k := 2) (as := [.long (((f_X4_itemsOpen_16 σ) &&& (((σ.2.1 16 2) ||| x4) ||| x8)) ||| ((f_X4_itemsOpen_16 σ) &&& (((((f_X4_itemsOpen_16 σ) &&& (((σ.2.1 16 2) ||| x4) ||| x8)) ||| x6) ||| x10) ^^^ (-1)))), .int x1]) (st := []) (c1 := 0) (s1 := 0) dX4_findMore_229 rfl jw_X4_noteRound jn_X4_noteRound rfl (Nat.le_of_ble_eq_true rfl) (Nat.zero_le _) (Nat.zero_le _) rfl kw_636 kw_638 kw_24 (b := 16) (Nat.le_of_ble_eq_true rfl) (Nat.le_of_ble_eq_true rfl) rfl ?_
    exact (h.1 c1)
  · refine mK_aload_n dX4_findMore_27 rfl rfl (.head _) ?_
    refine ru_getR (k := 0) (ci := 3) (a := 5) dX4_findMore_28 rfl rfl rfl kw_200 ?_
    refine mK_iload dX4_findMore_31 rfl (.tail _ (.tail _ (.tail _ (.tail _ (.tail _ (.tail _ (.head _))))))) ?_
    refine mK_invV (J := M_X0_isStrongAttack) (k := 1) (as := [.int x12]) (st := []) (c1 := 0) (s1 := 0) dX4_findMore_33 rfl jw_X0_isStrongAttack jn_X0_isStrongAttack rfl (Nat.le_of_ble_eq_true rfl) (Nat.zero_le _) (Nat.zero_le _) rfl kw_603 kw_604 kw_605 (b := 5) (Nat.le_of_ble_eq_true rfl) (Nat.le_of_ble_eq_true rfl) rfl ?_
    refine S_X0_isStrongAttack_5 x12 ?_
    show mK Γ M_X4_findMore (d + 4) Q n0 bc bs 36 [(0, .ref 16), (1, .int x1), (4, .long x4), (6, .long x6), (8, .long x8), (10, .long x10), (12, .int x12)] [.int (f_X0_isStrongAttack_5 σ x12)] 60 mSH σ
    refine mK_if_eq (tgt := 93) dX4_findMore_36 rfl (by decide) (fun c2 => ?_) (fun c2 => ?_)
    · exact ((h.2 c1).1 c2)
    · refine mK_aload_n dX4_findMore_39 rfl rfl (.head _) ?_
      refine ru_getR (k := 0) (ci := 3) (a := 5) dX4_findMore_40 rfl rfl rfl kw_200 ?_
      refine mK_iload dX4_findMore_43 rfl (.tail _ (.tail _ (.tail _ (.tail _ (.tail _ (.tail _ (.head _))))))) ?_
      refine mK_invV (J := M_X0_targetOf) (k := 1) (as := [.int x12]) (st := []) (c1 := 0) (s1 := 0) dX4_findMore_45 rfl jw_X0_targetOf jn_X0_targetOf rfl (Nat.le_of_ble_eq_true rfl) (Nat.zero_le _) (Nat.zero_le _) rfl kw_607 kw_608 kw_609 (b := 5) (Nat.le_of_ble_eq_true rfl) (Nat.le_of_ble_eq_true rfl) rfl ?_
      refine S_X0_targetOf_5 x12 ?_
      show mK Γ M_X4_findMore (d + 4) Q n0 bc bs 48 [(0, .ref 16), (1, .int x1), (4, .long x4), (6, .long x6), (8, .long x8), (10, .long x10), (12, .int x12)] [.int (f_X0_targetOf_5 σ x12)] 60 mSH σ
      refine mK_invSN (J := M_X7_bit) (k := 1) (as := [.int (f_X0_targetOf_5 σ x12)]) (st := []) (c1 := 0) (s1 := 0) dX4_findMore_48 rfl jw_X7_bit jn_X7_bit rfl (Nat.le_of_ble_eq_true rfl) (Nat.zero_le _) (Nat.zero_le _) rfl kn_611 kw_612 ?_
      refine S_X7_bit (f_X0_targetOf_5 σ x12) ?_
      show mK Γ M_X4_findMore (d + 4) Q n0 bc bs 51 [(0, .ref 16), (1, .int x1), (4, .long x4), (6, .long x6), (8, .long x8), (10, .long x10), (12, .int x12)] [.long (f_X7_bit σ (f_X0_targetOf_5 σ x12))] 60 mSH σ
      refine ru_lstore (lv1 := [(0, .ref 16), (1, .int x1), (4, .long x4), (6, .long x6), (8, .long x8), (10, .long x10), (12, .int x12), (13, .long (f_X7_bit σ (f_X0_targetOf_5 σ x12)))]) dX4_findMore_51 rfl (by decide) rfl ?_
      refine mK_lload dX4_findMore_53 rfl (.tail _ (.tail _ (.head _))) ?_
      refine mK_aload_n dX4_findMore_55 rfl rfl (.head _) ?_
      refine mK_iload dX4_findMore_56 rfl (.tail _ (.tail _ (.tail _ (.tail _ (.tail _ (.tail _ (.head _))))))) ?_
      refine mK_invV (J := M_X4_isIn) (k := 1) (as := [.int x12]) (st := [.long x4]) (c1 := 0) (s1 := 0) dX4_findMore_58 rfl jw_X4_isIn jn_X4_isIn rfl (Nat.le_of_ble_eq_true rfl) (Nat.zero_le _) (Nat.zero_le _) rfl kw_614 kw_615 kw_616 (b := 16) (Nat.le_of_ble_eq_true rfl) (Nat.le_of_ble_eq_true rfl) rfl ?_
      refine S_X4_isIn_16 x12 ?_
      show mK Γ M_X4_findMore (d + 4) Q n0 bc bs 61 [(0, .ref 16), (1, .int x1), (4, .long x4), (6, .long x6), (8, .long x8), (10, .long x10), (12, .int x12), (13, .long (f_X7_bit σ (f_X0_targetOf_5 σ x12)))] [.int (f_X4_isIn_16 σ x12), .long x4] 60 mSH σ
      refine mK_if_eq (tgt := 69) dX4_findMore_61 rfl (by decide) (fun c3 => ?_) (fun c3 => ?_)
      · refine mK_lconst dX4_findMore_69 rfl (v := 0) rfl ?_
        refine mK_lor dX4_findMore_70 rfl ?_
        refine ru_lstore (lv1 := [(0, .ref 16), (1, .int x1), (4, .long (x4 ||| 0)), (6, .long x6), (8, .long x8), (10, .long x10), (12, .int x12), (13, .long (f_X7_bit σ (f_X0_targetOf_5 σ x12)))]) dX4_findMore_71 rfl (by decide) rfl ?_
        refine mK_lload dX4_findMore_73 rfl (.tail _ (.tail _ (.tail _ (.head _)))) ?_
        refine mK_aload_n dX4_findMore_75 rfl rfl (.head _) ?_
        refine mK_iload dX4_findMore_76 rfl (.tail _ (.tail _ (.tail _ (.tail _ (.tail _ (.tail _ (.head _))))))) ?_
        refine mK_invV (J := M_X4_isOut) (k := 1) (as := [.int x12]) (st := [.long x6]) (c1 := 0) (s1 := 0) dX4_findMore_78 rfl jw_X4_isOut jn_X4_isOut rfl (Nat.le_of_ble_eq_true rfl) (Nat.zero_le _) (Nat.zero_le _) rfl kw_618 kw_619 kw_620 (b := 16) (Nat.le_of_ble_eq_true rfl) (Nat.le_of_ble_eq_true rfl) rfl ?_
        refine S_X4_isOut_16 x12 ?_
        show mK Γ M_X4_findMore (d + 4) Q n0 bc bs 81 [(0, .ref 16), (1, .int x1), (4, .long (x4 ||| 0)), (6, .long x6), (8, .long x8), (10, .long x10), (12, .int x12), (13, .long (f_X7_bit σ (f_X0_targetOf_5 σ x12)))] [.int (f_X4_isOut_16 σ x12), .long x6] 60 mSH σ
        refine mK_if_eq (tgt := 88) dX4_findMore_81 rfl (by decide) (fun c4 => ?_) (fun c4 => ?_)
        · refine mK_lload dX4_findMore_88 rfl (.tail _ (.tail _ (.tail _ (.tail _ (.tail _ (.tail _ (.tail _ (.head _)))))))) ?_
          refine mK_lor dX4_findMore_90 rfl ?_
          refine ru_lstore (lv1 := [(0, .ref 16), (1, .int x1), (4, .long (x4 ||| 0)), (6, .long (x6 ||| (f_X7_bit σ (f_X0_targetOf_5 σ x12)))), (8, .long x8), (10, .long x10), (12, .int x12), (13, .long (f_X7_bit σ (f_X0_targetOf_5 σ x12)))]) dX4_findMore_91 rfl (by decide) rfl ?_
          exact ru_pick [0, 1, 2, 3, 4, 5, 6] rfl ((((h.2 c1).2 c2).1 c3).1 c4)
        · refine mK_lconst dX4_findMore_84 rfl (v := 0) rfl ?_
          refine mK_goto (tgt := 90) dX4_findMore_85 (by decide) ?_
          refine mK_lor dX4_findMore_90 rfl ?_
          refine ru_lstore (lv1 := [(0, .ref 16), (1, .int x1), (4, .long (x4 ||| 0)), (6, .long (x6 ||| 0)), (8, .long x8), (10, .long x10), (12, .int x12), (13, .long (f_X7_bit σ (f_X0_targetOf_5 σ x12)))]) dX4_findMore_91 rfl (by decide) rfl ?_
          exact ru_pick [0, 1, 2, 3, 4, 5, 6] rfl ((((h.2 c1).2 c2).1 c3).2 c4)
      · refine mK_lload dX4_findMore_64 rfl (.tail _ (.tail _ (.tail _ (.tail _ (.tail _ (.tail _ (.tail _ (.head _)))))))) ?_
        refine mK_goto (tgt := 70) dX4_findMore_66 (by decide) ?_
        refine mK_lor dX4_findMore_70 rfl ?_
        refine ru_lstore (lv1 := [(0, .ref 16), (1, .int x1), (4, .long (x4 ||| (f_X7_bit σ (f_X0_targetOf_5 σ x12)))), (6, .long x6), (8, .long x8), (10, .long x10), (12, .int x12), (13, .long (f_X7_bit σ (f_X0_targetOf_5 σ x12)))]) dX4_findMore_71 rfl (by decide) rfl ?_
        refine mK_lload dX4_findMore_73 rfl (.tail _ (.tail _ (.tail _ (.head _)))) ?_
        refine mK_aload_n dX4_findMore_75 rfl rfl (.head _) ?_
        refine mK_iload dX4_findMore_76 rfl (.tail _ (.tail _ (.tail _ (.tail _ (.tail _ (.tail _ (.head _))))))) ?_
        refine mK_invV (J := M_X4_isOut) (k := 1) (as := [.int x12]) (st := [.long x6]) (c1 := 0) (s1 := 0) dX4_findMore_78 rfl jw_X4_isOut jn_X4_isOut rfl (Nat.le_of_ble_eq_true rfl) (Nat.zero_le _) (Nat.zero_le _) rfl kw_618 kw_619 kw_620 (b := 16) (Nat.le_of_ble_eq_true rfl) (Nat.le_of_ble_eq_true rfl) rfl ?_
        refine S_X4_isOut_16 x12 ?_
        show mK Γ M_X4_findMore (d + 4) Q n0 bc bs 81 [(0, .ref 16), (1, .int x1), (4, .long (x4 ||| (f_X7_bit σ (f_X0_targetOf_5 σ x12)))), (6, .long x6), (8, .long x8), (10, .long x10), (12, .int x12), (13, .long (f_X7_bit σ (f_X0_targetOf_5 σ x12)))] [.int (f_X4_isOut_16 σ x12), .long x6] 60 mSH σ
        refine mK_if_eq (tgt := 88) dX4_findMore_81 rfl (by decide) (fun c5 => ?_) (fun c5 => ?_)
        · refine mK_lload dX4_findMore_88 rfl (.tail _ (.tail _ (.tail _ (.tail _ (.tail _ (.tail _ (.tail _ (.head _)))))))) ?_
          refine mK_lor dX4_findMore_90 rfl ?_
          refine ru_lstore (lv1 := [(0, .ref 16), (1, .int x1), (4, .long (x4 ||| (f_X7_bit σ (f_X0_targetOf_5 σ x12)))), (6, .long (x6 ||| (f_X7_bit σ (f_X0_targetOf_5 σ x12)))), (8, .long x8), (10, .long x10), (12, .int x12), (13, .long (f_X7_bit σ (f_X0_targetOf_5 σ x12)))]) dX4_findMore_91 rfl (by decide) rfl ?_
          exact ru_pick [0, 1, 2, 3, 4, 5, 6] rfl ((((h.2 c1).2 c2).2 c3).1 c5)
        · refine mK_lconst dX4_findMore_84 rfl (v := 0) rfl ?_
          refine mK_goto (tgt := 90) dX4_findMore_85 (by decide) ?_
          refine mK_lor dX4_findMore_90 rfl ?_
          refine ru_lstore (lv1 := [(0, .ref 16), (1, .int x1), (4, .long (x4 ||| (f_X7_bit σ (f_X0_targetOf_5 σ x12)))), (6, .long (x6 ||| 0)), (8, .long x8), (10, .long x10), (12, .int x12), (13, .long (f_X7_bit σ (f_X0_targetOf_5 σ x12)))]) dX4_findMore_91 rfl (by decide) rfl ?_
          exact ru_pick [0, 1, 2, 3, 4, 5, 6] rfl ((((h.2 c1).2 c2).2 c3).2 c5)
set_option maxRecDepth 20000 in
theorem T_X4_findMore_16_93 {Γ : Nat × (Nat → Int32)} {d n0 bc bs : Nat} {Q : mQ} {σ : mS} (x1 : Int32) (x4 : Int64) (x6 : Int64) (x8 : Int64) (x10 : Int64) (x12 : Int32) (h : (((f_X0_sourceOf_5 σ x12) = (-1) → mK Γ M_X4_findMore (d + 4) Q n0 bc bs 15 [(0, .ref 16), (1, .int x1), (4, .long x4), (6, .long x6), (8, .long x8), (10, .long x10), (12, .int (x12 + 1))] [] 60 mSH σ) ∧ (¬ ((f_X0_sourceOf_5 σ x12) = (-1)) → (((f_X4_isOut_16 σ (f_X0_sourceOf_5 σ x12)) = 0 → (((f_X4_isIn_16 σ (f_X0_sourceOf_5 σ x12)) = 0 → mK Γ M_X4_findMore (d + 4) Q n0 bc bs 15 [(0, .ref 16), (1, .int x1), (4, .long x4), (6, .long x6), (8, .long (x8 ||| 0)), (10, .long (x10 ||| (f_X7_bit σ x12))), (12, .int (x12 + 1))] [] 60 mSH σ) ∧ (¬ ((f_X4_isIn_16 σ (f_X0_sourceOf_5 σ x12)) = 0) → mK Γ M_X4_findMore (d + 4) Q n0 bc bs 15 [(0, .ref 16), (1, .int x1), (4, .long x4), (6, .long x6), (8, .long (x8 ||| 0)), (10, .long (x10 ||| 0)), (12, .int (x12 + 1))] [] 60 mSH σ))) ∧ (¬ ((f_X4_isOut_16 σ (f_X0_sourceOf_5 σ x12)) = 0) → (((f_X4_isIn_16 σ (f_X0_sourceOf_5 σ x12)) = 0 → mK Γ M_X4_findMore (d + 4) Q n0 bc bs 15 [(0, .ref 16), (1, .int x1), (4, .long x4), (6, .long x6), (8, .long (x8 ||| (f_X7_bit σ x12))), (10, .long (x10 ||| (f_X7_bit σ x12))), (12, .int (x12 + 1))] [] 60 mSH σ) ∧ (¬ ((f_X4_isIn_16 σ (f_X0_sourceOf_5 σ x12)) = 0) → mK Γ M_X4_findMore (d + 4) Q n0 bc bs 15 [(0, .ref 16), (1, .int x1), (4, .long x4), (6, .long x6), (8, .long (x8 ||| (f_X7_bit σ x12))), (10, .long (x10 ||| 0)), (12, .int (x12 + 1))] [] 60 mSH σ))))))) : mK Γ M_X4_findMore (d + 4) Q n0 bc bs 93 [(0, .ref 16), (1, .int x1), (4, .long x4), (6, .long x6), (8, .long x8), (10, .long x10), (12, .int x12)] [] 60 mSH σ := by
  refine mK_aload_n dX4_findMore_93 rfl rfl (.head _) ?_
  refine ru_getR (k := 0) (ci := 3) (a := 5) dX4_findMore_94 rfl rfl rfl kw_200 ?_
  refine mK_iload dX4_findMore_97 rfl (.tail _ (.tail _ (.tail _ (.tail _ (.tail _ (.tail _ (.head _))))))) ?_
  refine mK_invV (J := M_X0_sourceOf) (k := 1) (as := [.int x12]) (st := []) (c1 := 0) (s1 := 0) dX4_findMore_99 rfl jw_X0_sourceOf jn_X0_sourceOf rfl (Nat.le_of_ble_eq_true rfl) (Nat.zero_le _) (Nat.zero_le _) rfl kw_622 kw_623 kw_624 (b := 5) (Nat.le_of_ble_eq_true rfl) (Nat.le_of_ble_eq_true rfl) rfl ?_
  refine S_X0_sourceOf_5 x12 ?_
  show mK Γ M_X4_findMore (d + 4) Q n0 bc bs 102 [(0, .ref 16), (1, .int x1), (4, .long x4), (6, .long x6), (8, .long x8), (10, .long x10), (12, .int x12)] [.int (f_X0_sourceOf_5 σ x12)] 60 mSH σ
  refine ru_istore (lv1 := [(0, .ref 16), (1, .int x1), (4, .long x4), (6, .long x6), (8, .long x8), (10, .long x10), (12, .int x12), (13, .int (f_X0_sourceOf_5 σ x12))]) dX4_findMore_102 rfl (by decide) rfl ?_
  refine mK_iload dX4_findMore_104 rfl (.tail _ (.tail _ (.tail _ (.tail _ (.tail _ (.tail _ (.tail _ (.head _)))))))) ?_
  refine mK_iconst dX4_findMore_106 rfl qic_m1 ?_
  refine mK_icmp_eq (tgt := 156) dX4_findMore_107 rfl (by decide) (fun c1 => ?_) (fun c1 => ?_)
  · refine ru_iinc (lv1 := [(0, .ref 16), (1, .int x1), (4, .long x4), (6, .long x6), (8, .long x8), (10, .long x10), (12, .int (x12 + 1)), (13, .int (f_X0_sourceOf_5 σ x12))]) dX4_findMore_156 rfl (.tail _ (.tail _ (.tail _ (.tail _ (.tail _ (.tail _ (.head _))))))) qic_1 (by decide) rfl ?_
    refine mK_goto (tgt := 15) dX4_findMore_159 (by decide) ?_
    exact ru_pick [0, 1, 2, 3, 4, 5, 6] rfl (h.1 c1)
  · refine mK_lload dX4_findMore_110 rfl (.tail _ (.tail _ (.tail _ (.tail _ (.head _))))) ?_
    refine mK_aload_n dX4_findMore_112 rfl rfl (.head _) ?_
    refine mK_iload dX4_findMore_113 rfl (.tail _ (.tail _ (.tail _ (.tail _ (.tail _ (.tail _ (.tail _ (.head _)))))))) ?_
    refine mK_invV (J := M_X4_isOut) (k := 1) (as := [.int (f_X0_sourceOf_5 σ x12)]) (st := [.long x8]) (c1 := 0) (s1 := 0) dX4_findMore_115 rfl jw_X4_isOut jn_X4_isOut rfl (Nat.le_of_ble_eq_true rfl) (Nat.zero_le _) (Nat.zero_le _) rfl kw_618 kw_619 kw_620 (b := 16) (Nat.le_of_ble_eq_true rfl) (Nat.le_of_ble_eq_true rfl) rfl ?_
    refine S_X4_isOut_16 (f_X0_sourceOf_5 σ x12) ?_
    show mK Γ M_X4_findMore (d + 4) Q n0 bc bs 118 [(0, .ref 16), (1, .int x1), (4, .long x4), (6, .long x6), (8, .long x8), (10, .long x10), (12, .int x12), (13, .int (f_X0_sourceOf_5 σ x12))] [.int (f_X4_isOut_16 σ (f_X0_sourceOf_5 σ x12)), .long x8] 60 mSH σ
    refine mK_if_eq (tgt := 129) dX4_findMore_118 rfl (by decide) (fun c2 => ?_) (fun c2 => ?_)
    · refine mK_lconst dX4_findMore_129 rfl (v := 0) rfl ?_
      refine mK_lor dX4_findMore_130 rfl ?_
      refine ru_lstore (lv1 := [(0, .ref 16), (1, .int x1), (4, .long x4), (6, .long x6), (8, .long (x8 ||| 0)), (10, .long x10), (12, .int x12), (13, .int (f_X0_sourceOf_5 σ x12))]) dX4_findMore_131 rfl (by decide) rfl ?_
      refine mK_lload dX4_findMore_133 rfl (.tail _ (.tail _ (.tail _ (.tail _ (.tail _ (.head _)))))) ?_
      refine mK_aload_n dX4_findMore_135 rfl rfl (.head _) ?_
      refine mK_iload dX4_findMore_136 rfl (.tail _ (.tail _ (.tail _ (.tail _ (.tail _ (.tail _ (.tail _ (.head _)))))))) ?_
      refine mK_invV (J := M_X4_isIn) (k := 1) (as := [.int (f_X0_sourceOf_5 σ x12)]) (st := [.long x10]) (c1 := 0) (s1 := 0) dX4_findMore_138 rfl jw_X4_isIn jn_X4_isIn rfl (Nat.le_of_ble_eq_true rfl) (Nat.zero_le _) (Nat.zero_le _) rfl kw_614 kw_615 kw_616 (b := 16) (Nat.le_of_ble_eq_true rfl) (Nat.le_of_ble_eq_true rfl) rfl ?_
      refine S_X4_isIn_16 (f_X0_sourceOf_5 σ x12) ?_
      show mK Γ M_X4_findMore (d + 4) Q n0 bc bs 141 [(0, .ref 16), (1, .int x1), (4, .long x4), (6, .long x6), (8, .long (x8 ||| 0)), (10, .long x10), (12, .int x12), (13, .int (f_X0_sourceOf_5 σ x12))] [.int (f_X4_isIn_16 σ (f_X0_sourceOf_5 σ x12)), .long x10] 60 mSH σ
      refine mK_if_eq (tgt := 148) dX4_findMore_141 rfl (by decide) (fun c3 => ?_) (fun c3 => ?_)
      · refine mK_iload dX4_findMore_148 rfl (.tail _ (.tail _ (.tail _ (.tail _ (.tail _ (.tail _ (.head _))))))) ?_
        refine mK_invSN (J := M_X7_bit) (k := 1) (as := [.int x12]) (st := [.long x10]) (c1 := 0) (s1 := 0) dX4_findMore_150 rfl jw_X7_bit jn_X7_bit rfl (Nat.le_of_ble_eq_true rfl) (Nat.zero_le _) (Nat.zero_le _) rfl kn_611 kw_612 ?_
        refine S_X7_bit x12 ?_
        show mK Γ M_X4_findMore (d + 4) Q n0 bc bs 153 [(0, .ref 16), (1, .int x1), (4, .long x4), (6, .long x6), (8, .long (x8 ||| 0)), (10, .long x10), (12, .int x12), (13, .int (f_X0_sourceOf_5 σ x12))] [.long (f_X7_bit σ x12), .long x10] 60 mSH σ
        refine mK_lor dX4_findMore_153 rfl ?_
        refine ru_lstore (lv1 := [(0, .ref 16), (1, .int x1), (4, .long x4), (6, .long x6), (8, .long (x8 ||| 0)), (10, .long (x10 ||| (f_X7_bit σ x12))), (12, .int x12), (13, .int (f_X0_sourceOf_5 σ x12))]) dX4_findMore_154 rfl (by decide) rfl ?_
        refine ru_iinc (lv1 := [(0, .ref 16), (1, .int x1), (4, .long x4), (6, .long x6), (8, .long (x8 ||| 0)), (10, .long (x10 ||| (f_X7_bit σ x12))), (12, .int (x12 + 1)), (13, .int (f_X0_sourceOf_5 σ x12))]) dX4_findMore_156 rfl (.tail _ (.tail _ (.tail _ (.tail _ (.tail _ (.tail _ (.head _))))))) qic_1 (by decide) rfl ?_
        refine mK_goto (tgt := 15) dX4_findMore_159 (by decide) ?_
        exact ru_pick [0, 1, 2, 3, 4, 5, 6] rfl (((h.2 c1).1 c2).1 c3)
      · refine mK_lconst dX4_findMore_144 rfl (v := 0) rfl ?_
        refine mK_goto (tgt := 153) dX4_findMore_145 (by decide) ?_
        refine mK_lor dX4_findMore_153 rfl ?_
        refine ru_lstore (lv1 := [(0, .ref 16), (1, .int x1), (4, .long x4), (6, .long x6), (8, .long (x8 ||| 0)), (10, .long (x10 ||| 0)), (12, .int x12), (13, .int (f_X0_sourceOf_5 σ x12))]) dX4_findMore_154 rfl (by decide) rfl ?_
        refine ru_iinc (lv1 := [(0, .ref 16), (1, .int x1), (4, .long x4), (6, .long x6), (8, .long (x8 ||| 0)), (10, .long (x10 ||| 0)), (12, .int (x12 + 1)), (13, .int (f_X0_sourceOf_5 σ x12))]) dX4_findMore_156 rfl (.tail _ (.tail _ (.tail _ (.tail _ (.tail _ (.tail _ (.head _))))))) qic_1 (by decide) rfl ?_
        refine mK_goto (tgt := 15) dX4_findMore_159 (by decide) ?_
        exact ru_pick [0, 1, 2, 3, 4, 5, 6] rfl (((h.2 c1).1 c2).2 c3)
    · refine mK_iload dX4_findMore_121 rfl (.tail _ (.tail _ (.tail _ (.tail _ (.tail _ (.tail _ (.head _))))))) ?_
      refine mK_invSN (J := M_X7_bit) (k := 1) (as := [.int x12]) (st := [.long x8]) (c1 := 0) (s1 := 0) dX4_findMore_123 rfl jw_X7_bit jn_X7_bit rfl (Nat.le_of_ble_eq_true rfl) (Nat.zero_le _) (Nat.zero_le _) rfl kn_611 kw_612 ?_
      refine S_X7_bit x12 ?_
      show mK Γ M_X4_findMore (d + 4) Q n0 bc bs 126 [(0, .ref 16), (1, .int x1), (4, .long x4), (6, .long x6), (8, .long x8), (10, .long x10), (12, .int x12), (13, .int (f_X0_sourceOf_5 σ x12))] [.long (f_X7_bit σ x12), .long x8] 60 mSH σ
      refine mK_goto (tgt := 130) dX4_findMore_126 (by decide) ?_
      refine mK_lor dX4_findMore_130 rfl ?_
      refine ru_lstore (lv1 := [(0, .ref 16), (1, .int x1), (4, .long x4), (6, .long x6), (8, .long (x8 ||| (f_X7_bit σ x12))), (10, .long x10), (12, .int x12), (13, .int (f_X0_sourceOf_5 σ x12))]) dX4_findMore_131 rfl (by decide) rfl ?_
      refine mK_lload dX4_findMore_133 rfl (.tail _ (.tail _ (.tail _ (.tail _ (.tail _ (.head _)))))) ?_
      refine mK_aload_n dX4_findMore_135 rfl rfl (.head _) ?_
      refine mK_iload dX4_findMore_136 rfl (.tail _ (.tail _ (.tail _ (.tail _ (.tail _ (.tail _ (.tail _ (.head _)))))))) ?_
      refine mK_invV (J := M_X4_isIn) (k := 1) (as := [.int (f_X0_sourceOf_5 σ x12)]) (st := [.long x10]) (c1 := 0) (s1 := 0) dX4_findMore_138 rfl jw_X4_isIn jn_X4_isIn rfl (Nat.le_of_ble_eq_true rfl) (Nat.zero_le _) (Nat.zero_le _) rfl kw_614 kw_615 kw_616 (b := 16) (Nat.le_of_ble_eq_true rfl) (Nat.le_of_ble_eq_true rfl) rfl ?_
      refine S_X4_isIn_16 (f_X0_sourceOf_5 σ x12) ?_
      show mK Γ M_X4_findMore (d + 4) Q n0 bc bs 141 [(0, .ref 16), (1, .int x1), (4, .long x4), (6, .long x6), (8, .long (x8 ||| (f_X7_bit σ x12))), (10, .long x10), (12, .int x12), (13, .int (f_X0_sourceOf_5 σ x12))] [.int (f_X4_isIn_16 σ (f_X0_sourceOf_5 σ x12)), .long x10] 60 mSH σ
      refine mK_if_eq (tgt := 148) dX4_findMore_141 rfl (by decide) (fun c4 => ?_) (fun c4 => ?_)
      · refine mK_iload dX4_findMore_148 rfl (.tail _ (.tail _ (.tail _ (.tail _ (.tail _ (.tail _ (.head _))))))) ?_
        refine mK_invSN (J := M_X7_bit) (k := 1) (as := [.int x12]) (st := [.long x10]) (c1 := 0) (s1 := 0) dX4_findMore_150 rfl jw_X7_bit jn_X7_bit rfl (Nat.le_of_ble_eq_true rfl) (Nat.zero_le _) (Nat.zero_le _) rfl kn_611 kw_612 ?_
        refine S_X7_bit x12 ?_
        show mK Γ M_X4_findMore (d + 4) Q n0 bc bs 153 [(0, .ref 16), (1, .int x1), (4, .long x4), (6, .long x6), (8, .long (x8 ||| (f_X7_bit σ x12))), (10, .long x10), (12, .int x12), (13, .int (f_X0_sourceOf_5 σ x12))] [.long (f_X7_bit σ x12), .long x10] 60 mSH σ
        refine mK_lor dX4_findMore_153 rfl ?_
        refine ru_lstore (lv1 := [(0, .ref 16), (1, .int x1), (4, .long x4), (6, .long x6), (8, .long (x8 ||| (f_X7_bit σ x12))), (10, .long (x10 ||| (f_X7_bit σ x12))), (12, .int x12), (13, .int (f_X0_sourceOf_5 σ x12))]) dX4_findMore_154 rfl (by decide) rfl ?_
        refine ru_iinc (lv1 := [(0, .ref 16), (1, .int x1), (4, .long x4), (6, .long x6), (8, .long (x8 ||| (f_X7_bit σ x12))), (10, .long (x10 ||| (f_X7_bit σ x12))), (12, .int (x12 + 1)), (13, .int (f_X0_sourceOf_5 σ x12))]) dX4_findMore_156 rfl (.tail _ (.tail _ (.tail _ (.tail _ (.tail _ (.tail _ (.head _))))))) qic_1 (by decide) rfl ?_
        refine mK_goto (tgt := 15) dX4_findMore_159 (by decide) ?_
        exact ru_pick [0, 1, 2, 3, 4, 5, 6] rfl (((h.2 c1).2 c2).1 c4)
      · refine mK_lconst dX4_findMore_144 rfl (v := 0) rfl ?_
        refine mK_goto (tgt := 153) dX4_findMore_145 (by decide) ?_
        refine mK_lor dX4_findMore_153 rfl ?_
        refine ru_lstore (lv1 := [(0, .ref 16), (1, .int x1), (4, .long x4), (6, .long x6), (8, .long (x8 ||| (f_X7_bit σ x12))), (10, .long (x10 ||| 0)), (12, .int x12), (13, .int (f_X0_sourceOf_5 σ x12))]) dX4_findMore_154 rfl (by decide) rfl ?_
        refine ru_iinc (lv1 := [(0, .ref 16), (1, .int x1), (4, .long x4), (6, .long x6), (8, .long (x8 ||| (f_X7_bit σ x12))), (10, .long (x10 ||| 0)), (12, .int (x12 + 1)), (13, .int (f_X0_sourceOf_5 σ x12))]) dX4_findMore_156 rfl (.tail _ (.tail _ (.tail _ (.tail _ (.tail _ (.tail _ (.head _))))))) qic_1 (by decide) rfl ?_
        refine mK_goto (tgt := 15) dX4_findMore_159 (by decide) ?_
        exact ru_pick [0, 1, 2, 3, 4, 5, 6] rfl (((h.2 c1).2 c2).2 c4)
set_option maxRecDepth 20000 in
theorem T_X4_findMore_16_232a {Γ : Nat × (Nat → Int32)} {d n0 bc bs : Nat} {Q : mQ} {σ : mS} (x1 : Int32) (x4 : Int64) (x6 : Int64) (x8 : Int64) (x10 : Int64) (x12 : Int64) (x14 : Int64) (x16 : Int64) (h : (((x14 ||| x16) = 0 → Q (.inl (some (.int 0))) 60 mSH σ) ∧ (¬ ((x14 ||| x16) = 0) → Q (.inl (some (.int 1))) 60 mSH σ))) : mRt Γ M_X4_findMore (d + 4) Q n0 bc bs 232 [(0, .ref 16), (1, .int x1), (4, .long x4), (6, .long x6), (8, .long x8), (10, .long x10), (12, .long x12), (14, .long x14), (16, .long x16)] [] (.inl none) 60 mSH σ := by
  show mK Γ M_X4_findMore (d + 4) Q n0 bc bs 232 [(0, .ref 16), (1, .int x1), (4, .long x4), (6, .long x6), (8, .long x8), (10, .long x10), (12, .long x12), (14, .long x14), (16, .long x16)] [] 60 mSH σ
  refine mK_lload dX4_findMore_232 rfl (.tail _ (.tail _ (.tail _ (.tail _ (.tail _ (.tail _ (.tail _ (.head _)))))))) ?_
  refine mK_lload dX4_findMore_234 rfl (.tail _ (.tail _ (.tail _ (.tail _ (.tail _ (.tail _ (.tail _ (.tail _ (.head _))))))))) ?_
  refine mK_lor dX4_findMore_236 rfl ?_
  refine mK_lconst dX4_findMore_237 rfl (v := 0) rfl ?_
  refine ru_lif_eq (tgt := 246) dX4_findMore_238 rfl dX4_findMore_239 rfl (by decide) (fun c1 => ?_) (fun c1 => ?_)
  · refine mK_iconst dX4_findMore_246 rfl qic_0 ?_
    exact mK_zret dX4_findMore_247 rfl (by decide) (h.1 c1)
  · refine mK_iconst dX4_findMore_242 rfl qic_1 ?_
    refine mK_goto (tgt := 247) dX4_findMore_243 (by decide) ?_
    exact mK_zret dX4_findMore_247 rfl (by decide) (h.2 c1)
set_option maxRecDepth 20000 in
theorem E_X4_findMore_18 {Γ : Nat × (Nat → Int32)} {d : Nat} {Q : mQ} {σ : mS} (a1 : Int32) (a2 : Int64) (h : mK Γ M_X4_findMore (d + 4) Q 60 0 0 15 [(0, .ref 18), (1, .int a1), (4, .long a2), (6, .long 0), (8, .long 0), (10, .long 0), (12, .int 0)] [] 60 mSH σ) : mCall Γ M_X4_findMore (d + 4) 0 0 [.ref 18, .int a1, .long a2] 60 mSH σ Q := by
  refine mCall_of rfl (by decide) (Nat.le_of_ble_eq_true rfl) (mOkC (mOk_lo (Nat.le_of_ble_eq_true rfl)) (mOkC mOk_i (mOkC mOk_l mOkN))) ?_
  show mK Γ M_X4_findMore (d + 4) Q 60 0 0 0 [(0, .ref 18), (1, .int a1), (2, .long a2)] [] 60 mSH σ
  refine mK_lload_n dX4_findMore_0 rfl rfl (.tail _ (.tail _ (.head _))) ?_
  refine ru_lstore (lv1 := [(0, .ref 18), (1, .int a1), (2, .long a2), (4, .long a2)]) dX4_findMore_1 rfl (by decide) rfl ?_
  refine mK_lconst dX4_findMore_3 rfl (v := 0) rfl ?_
  refine ru_lstore (lv1 := [(0, .ref 18), (1, .int a1), (2, .long a2), (4, .long a2), (6, .long 0)]) dX4_findMore_4 rfl (by decide) rfl ?_
  refine mK_lconst dX4_findMore_6 rfl (v := 0) rfl ?_
  refine ru_lstore (lv1 := [(0, .ref 18), (1, .int a1), (2, .long a2), (4, .long a2), (6, .long 0), (8, .long 0)]) dX4_findMore_7 rfl (by decide) rfl ?_
  refine mK_lconst dX4_findMore_9 rfl (v := 0) rfl ?_
  refine ru_lstore (lv1 := [(0, .ref 18), (1, .int a1), (2, .long a2), (4, .long a2), (6, .long 0), (8, .long 0), (10, .long 0)]) dX4_findMore_10 rfl (by decide) rfl ?_
  refine mK_iconst dX4_findMore_12 rfl qic_0 ?_
  refine ru_istore (lv1 := [(0, .ref 18), (1, .int a1), (2, .long a2), (4, .long a2), (6, .long 0), (8, .long 0), (10, .long 0), (12, .int 0)]) dX4_findMore_13 rfl (by decide) rfl ?_
  exact ru_pick [0, 1, 3, 4, 5, 6, 7] rfl h
set_option maxRecDepth 20000 in
theorem T_X4_findMore_18_15 {Γ : Nat × (Nat → Int32)} {d n0 bc bs : Nat} {Q : mQ} {σ : mS} (x1 : Int32) (x4 : Int64) (x6 : Int64) (x8 : Int64) (x10 : Int64) (x12 : Int32) (h : (((f_X0_items_5 σ) ≤ x12 → mCall Γ M_X4_noteRound (d + 3) 0 0 [.ref 18, .long (((f_X4_itemsOpen_18 σ) &&& (((σ.2.1 18 2) ||| x4) ||| x8)) ||| ((f_X4_itemsOpen_18 σ) &&& (((((f_X4_itemsOpen_18 σ) &&& (((σ.2.1 18 2) ||| x4) ||| x8)) ||| x6) ||| x10) ^^^ (-1)))), .int x1] 60 mSH (mPL (mPL σ 18 4 ((σ.2.1 18 4) ||| ((f_X4_itemsOpen_18 σ) &&& (((σ.2.1 18 2) ||| x4) ||| x8)))) 18 3 ((σ.2.1 18 3) ||| ((f_X4_itemsOpen_18 σ) &&& (((((f_X4_itemsOpen_18 σ) &&& (((σ.2.1 18 2) ||| x4) ||| x8)) ||| x6) ||| x10) ^^^ (-1))))) (mRt Γ M_X4_findMore (d + 4) Q n0 bc bs 232 [(0, .ref 18), (1, .int x1), (4, .long x4), (6, .long x6), (8, .long x8), (10, .long x10), (12, .long (f_X4_itemsOpen_18 σ)), (14, .long ((f_X4_itemsOpen_18 σ) &&& (((σ.2.1 18 2) ||| x4) ||| x8))), (16, .long ((f_X4_itemsOpen_18 σ) &&& (((((f_X4_itemsOpen_18 σ) &&& (((σ.2.1 18 2) ||| x4) ||| x8)) ||| x6) ||| x10) ^^^ (-1))))] [])) ∧ (¬ ((f_X0_items_5 σ) ≤ x12) → (((f_X0_isStrongAttack_5 σ x12) = 0 → mK Γ M_X4_findMore (d + 4) Q n0 bc bs 93 [(0, .ref 18), (1, .int x1), (4, .long x4), (6, .long x6), (8, .long x8), (10, .long x10), (12, .int x12)] [] 60 mSH σ) ∧ (¬ ((f_X0_isStrongAttack_5 σ x12) = 0) → (((f_X4_isIn_18 σ x12) = 0 → (((f_X4_isOut_18 σ x12) = 0 → mK Γ M_X4_findMore (d + 4) Q n0 bc bs 93 [(0, .ref 18), (1, .int x1), (4, .long (x4 ||| 0)), (6, .long (x6 ||| (f_X7_bit σ (f_X0_targetOf_5 σ x12)))), (8, .long x8), (10, .long x10), (12, .int x12)] [] 60 mSH σ) ∧ (¬ ((f_X4_isOut_18 σ x12) = 0) → mK Γ M_X4_findMore (d + 4) Q n0 bc bs 93 [(0, .ref 18), (1, .int x1), (4, .long (x4 ||| 0)), (6, .long (x6 ||| 0)), (8, .long x8), (10, .long x10), (12, .int x12)] [] 60 mSH σ))) ∧ (¬ ((f_X4_isIn_18 σ x12) = 0) → (((f_X4_isOut_18 σ x12) = 0 → mK Γ M_X4_findMore (d + 4) Q n0 bc bs 93 [(0, .ref 18), (1, .int x1), (4, .long (x4 ||| (f_X7_bit σ (f_X0_targetOf_5 σ x12)))), (6, .long (x6 ||| (f_X7_bit σ (f_X0_targetOf_5 σ x12)))), (8, .long x8), (10, .long x10), (12, .int x12)] [] 60 mSH σ) ∧ (¬ ((f_X4_isOut_18 σ x12) = 0) → mK Γ M_X4_findMore (d + 4) Q n0 bc bs 93 [(0, .ref 18), (1, .int x1), (4, .long (x4 ||| (f_X7_bit σ (f_X0_targetOf_5 σ x12)))), (6, .long (x6 ||| 0)), (8, .long x8), (10, .long x10), (12, .int x12)] [] 60 mSH σ))))))))) : mK Γ M_X4_findMore (d + 4) Q n0 bc bs 15 [(0, .ref 18), (1, .int x1), (4, .long x4), (6, .long x6), (8, .long x8), (10, .long x10), (12, .int x12)] [] 60 mSH σ := by
  refine mK_iload dX4_findMore_15 rfl (.tail _ (.tail _ (.tail _ (.tail _ (.tail _ (.tail _ (.head _))))))) ?_
  refine mK_aload_n dX4_findMore_17 rfl rfl (.head _) ?_
  refine ru_getR (k := 0) (ci := 3) (a := 5) dX4_findMore_18 rfl rfl rfl kw_200 ?_
  refine mK_invV (J := M_X0_items) (k := 0) (as := []) (st := [.int x12]) (c1 := 0) (s1 := 0) dX4_findMore_21 rfl jw_X0_items jn_X0_items rfl (Nat.le_of_ble_eq_true rfl) (Nat.zero_le _) (Nat.zero_le _) rfl kw_602 kw_529 kw_530 (b := 5) (Nat.le_of_ble_eq_true rfl) (Nat.le_of_ble_eq_true rfl) rfl ?_
  refine S_X0_items_5  ?_
  show mK Γ M_X4_findMore (d + 4) Q n0 bc bs 24 [(0, .ref 18), (1, .int x1), (4, .long x4), (6, .long x6), (8, .long x8), (10, .long x10), (12, .int x12)] [.int (f_X0_items_5 σ), .int x12] 60 mSH σ
  refine mK_icmp_ge (tgt := 162) dX4_findMore_24 rfl (by decide) (fun c1 => ?_) (fun c1 => ?_)
  · refine mK_aload_n dX4_findMore_162 rfl rfl (.head _) ?_
    refine mK_invV (J := M_X4_itemsOpen) (k := 0) (as := []) (st := []) (c1 := 0) (s1 := 0) dX4_findMore_163 rfl jw_X4_itemsOpen jn_X4_itemsOpen rfl (Nat.le_of_ble_eq_true rfl) (Nat.zero_le _) (Nat.zero_le _) rfl kw_626 kw_627 kw_628 (b := 18) (Nat.le_of_ble_eq_true rfl) (Nat.le_of_ble_eq_true rfl) rfl ?_
    refine S_X4_itemsOpen_18  ?_
    show mK Γ M_X4_findMore (d + 4) Q n0 bc bs 166 [(0, .ref 18), (1, .int x1), (4, .long x4), (6, .long x6), (8, .long x8), (10, .long x10), (12, .int x12)] [.long (f_X4_itemsOpen_18 σ)] 60 mSH σ
    refine ru_lstore (lv1 := [(0, .ref 18), (1, .int x1), (4, .long x4), (6, .long x6), (8, .long x8), (10, .long x10), (12, .long (f_X4_itemsOpen_18 σ))]) dX4_findMore_166 rfl (by decide) rfl ?_
    refine mK_lload dX4_findMore_168 rfl (.tail _ (.tail _ (.tail _ (.tail _ (.tail _ (.tail _ (.head _))))))) ?_
    refine mK_aload_n dX4_findMore_170 rfl rfl (.head _) ?_
    refine ru_getL (k := 2) (ci := 3) dX4_findMore_171 rfl rfl kw_202 ?_
    refine mK_lload dX4_findMore_174 rfl (.tail _ (.tail _ (.head _))) ?_
    refine mK_lor dX4_findMore_176 rfl ?_
    refine mK_lload dX4_findMore_177 rfl (.tail _ (.tail _ (.tail _ (.tail _ (.head _))))) ?_
    refine mK_lor dX4_findMore_179 rfl ?_
    refine mK_land dX4_findMore_180 rfl ?_
    refine ru_lstore (lv1 := [(0, .ref 18), (1, .int x1), (4, .long x4), (6, .long x6), (8, .long x8), (10, .long x10), (12, .long (f_X4_itemsOpen_18 σ)), (14, .long ((f_X4_itemsOpen_18 σ) &&& (((σ.2.1 18 2) ||| x4) ||| x8)))]) dX4_findMore_181 rfl (by decide) rfl ?_
    refine mK_lload dX4_findMore_183 rfl (.tail _ (.tail _ (.tail _ (.tail _ (.tail _ (.tail _ (.head _))))))) ?_
    refine mK_lload dX4_findMore_185 rfl (.tail _ (.tail _ (.tail _ (.tail _ (.tail _ (.tail _ (.tail _ (.head _)))))))) ?_
    refine mK_lload dX4_findMore_187 rfl (.tail _ (.tail _ (.tail _ (.head _)))) ?_
    refine mK_lor dX4_findMore_189 rfl ?_
    refine mK_lload dX4_findMore_190 rfl (.tail _ (.tail _ (.tail _ (.tail _ (.tail _ (.head _)))))) ?_
    refine mK_lor dX4_findMore_192 rfl ?_
    refine mK_ldc2 dX4_findMore_193 rfl kw_635 ?_
    refine mK_lxor dX4_findMore_196 rfl ?_
    refine mK_land dX4_findMore_197 rfl ?_
    refine ru_lstore (lv1 := [(0, .ref 18), (1, .int x1), (4, .long x4), (6, .long x6), (8, .long x8), (10, .long x10), (12, .long (f_X4_itemsOpen_18 σ)), (14, .long ((f_X4_itemsOpen_18 σ) &&& (((σ.2.1 18 2) ||| x4) ||| x8))), (16, .long ((f_X4_itemsOpen_18 σ) &&& (((((f_X4_itemsOpen_18 σ) &&& (((σ.2.1 18 2) ||| x4) ||| x8)) ||| x6) ||| x10) ^^^ (-1))))]) dX4_findMore_198 rfl (by decide) rfl ?_
    refine mK_aload_n dX4_findMore_200 rfl rfl (.head _) ?_
    refine mK_dup dX4_findMore_201 rfl rfl ?_
    refine ru_getL (k := 4) (ci := 3) dX4_findMore_202 rfl rfl kw_204 ?_
    refine mK_lload dX4_findMore_205 rfl (.tail _ (.tail _ (.tail _ (.tail _ (.tail _ (.tail _ (.tail _ (.head _)))))))) ?_
    refine mK_lor dX4_findMore_207 rfl ?_
    refine ru_putL (k := 4) (ci := 3) dX4_findMore_208 rfl rfl rfl kw_204 ?_
    refine mK_aload_n dX4_findMore_211 rfl rfl (.head _) ?_
    refine mK_dup dX4_findMore_212 rfl rfl ?_
    refine ru_getL (k := 3) (ci := 3) dX4_findMore_213 rfl rfl kw_203 ?_
    refine mK_lload dX4_findMore_216 rfl (.tail _ (.tail _ (.tail _ (.tail _ (.tail _ (.tail _ (.tail _ (.tail _ (.head _))))))))) ?_
    refine mK_lor dX4_findMore_218 rfl ?_
    refine ru_putL (k := 3) (ci := 3) dX4_findMore_219 rfl rfl rfl kw_203 ?_
    refine mK_aload_n dX4_findMore_222 rfl rfl (.head _) ?_
    refine mK_lload dX4_findMore_223 rfl (.tail _ (.tail _ (.tail _ (.tail _ (.tail _ (.tail _ (.tail _ (.head _)))))))) ?_
    refine mK_lload dX4_findMore_225 rfl (.tail _ (.tail _ (.tail _ (.tail _ (.tail _ (.tail _ (.tail _ (.tail _ (.head _))))))))) ?_
    refine mK_lor dX4_findMore_227 rfl ?_
    refine mK_iload_n dX4_findMore_228 rfl rfl (.tail _ (.head _)) ?_
    refine mK_invV (J := M_X4_noteRound) (k := 2) (as := [.long (((f_X4_itemsOpen_18 σ) &&& (((σ.2.1 18 2) ||| x4) ||| x8)) ||| ((f_X4_itemsOpen_18 σ) &&& (((((f_X4_itemsOpen_18 σ) &&& (((σ.2.1 18 2) ||| x4) ||| x8)) ||| x6) ||| x10) ^^^ (-1)))), .int x1]) (st := []) (c1 := 0) (s1 := 0) dX4_findMore_229 rfl jw_X4_noteRound jn_X4_noteRound rfl (Nat.le_of_ble_eq_true rfl) (Nat.zero_le _) (Nat.zero_le _) rfl kw_636 kw_638 kw_24 (b := 18) (Nat.le_of_ble_eq_true rfl) (Nat.le_of_ble_eq_true rfl) rfl ?_
    exact (h.1 c1)
  · refine mK_aload_n dX4_findMore_27 rfl rfl (.head _) ?_
    refine ru_getR (k := 0) (ci := 3) (a := 5) dX4_findMore_28 rfl rfl rfl kw_200 ?_
    refine mK_iload dX4_findMore_31 rfl (.tail _ (.tail _ (.tail _ (.tail _ (.tail _ (.tail _ (.head _))))))) ?_
    refine mK_invV (J := M_X0_isStrongAttack) (k := 1) (as := [.int x12]) (st := []) (c1 := 0) (s1 := 0) dX4_findMore_33 rfl jw_X0_isStrongAttack jn_X0_isStrongAttack rfl (Nat.le_of_ble_eq_true rfl) (Nat.zero_le _) (Nat.zero_le _) rfl kw_603 kw_604 kw_605 (b := 5) (Nat.le_of_ble_eq_true rfl) (Nat.le_of_ble_eq_true rfl) rfl ?_
    refine S_X0_isStrongAttack_5 x12 ?_
    show mK Γ M_X4_findMore (d + 4) Q n0 bc bs 36 [(0, .ref 18), (1, .int x1), (4, .long x4), (6, .long x6), (8, .long x8), (10, .long x10), (12, .int x12)] [.int (f_X0_isStrongAttack_5 σ x12)] 60 mSH σ
    refine mK_if_eq (tgt := 93) dX4_findMore_36 rfl (by decide) (fun c2 => ?_) (fun c2 => ?_)
    · exact ((h.2 c1).1 c2)
    · refine mK_aload_n dX4_findMore_39 rfl rfl (.head _) ?_
      refine ru_getR (k := 0) (ci := 3) (a := 5) dX4_findMore_40 rfl rfl rfl kw_200 ?_
      refine mK_iload dX4_findMore_43 rfl (.tail _ (.tail _ (.tail _ (.tail _ (.tail _ (.tail _ (.head _))))))) ?_
      refine mK_invV (J := M_X0_targetOf) (k := 1) (as := [.int x12]) (st := []) (c1 := 0) (s1 := 0) dX4_findMore_45 rfl jw_X0_targetOf jn_X0_targetOf rfl (Nat.le_of_ble_eq_true rfl) (Nat.zero_le _) (Nat.zero_le _) rfl kw_607 kw_608 kw_609 (b := 5) (Nat.le_of_ble_eq_true rfl) (Nat.le_of_ble_eq_true rfl) rfl ?_
      refine S_X0_targetOf_5 x12 ?_
      show mK Γ M_X4_findMore (d + 4) Q n0 bc bs 48 [(0, .ref 18), (1, .int x1), (4, .long x4), (6, .long x6), (8, .long x8), (10, .long x10), (12, .int x12)] [.int (f_X0_targetOf_5 σ x12)] 60 mSH σ
      refine mK_invSN (J := M_X7_bit) (k := 1) (as := [.int (f_X0_targetOf_5 σ x12)]) (st := []) (c1 := 0) (s1 := 0) dX4_findMore_48 rfl jw_X7_bit jn_X7_bit rfl (Nat.le_of_ble_eq_true rfl) (Nat.zero_le _) (Nat.zero_le _) rfl kn_611 kw_612 ?_
      refine S_X7_bit (f_X0_targetOf_5 σ x12) ?_
      show mK Γ M_X4_findMore (d + 4) Q n0 bc bs 51 [(0, .ref 18), (1, .int x1), (4, .long x4), (6, .long x6), (8, .long x8), (10, .long x10), (12, .int x12)] [.long (f_X7_bit σ (f_X0_targetOf_5 σ x12))] 60 mSH σ
      refine ru_lstore (lv1 := [(0, .ref 18), (1, .int x1), (4, .long x4), (6, .long x6), (8, .long x8), (10, .long x10), (12, .int x12), (13, .long (f_X7_bit σ (f_X0_targetOf_5 σ x12)))]) dX4_findMore_51 rfl (by decide) rfl ?_
      refine mK_lload dX4_findMore_53 rfl (.tail _ (.tail _ (.head _))) ?_
      refine mK_aload_n dX4_findMore_55 rfl rfl (.head _) ?_
      refine mK_iload dX4_findMore_56 rfl (.tail _ (.tail _ (.tail _ (.tail _ (.tail _ (.tail _ (.head _))))))) ?_
      refine mK_invV (J := M_X4_isIn) (k := 1) (as := [.int x12]) (st := [.long x4]) (c1 := 0) (s1 := 0) dX4_findMore_58 rfl jw_X4_isIn jn_X4_isIn rfl (Nat.le_of_ble_eq_true rfl) (Nat.zero_le _) (Nat.zero_le _) rfl kw_614 kw_615 kw_616 (b := 18) (Nat.le_of_ble_eq_true rfl) (Nat.le_of_ble_eq_true rfl) rfl ?_
      refine S_X4_isIn_18 x12 ?_
      show mK Γ M_X4_findMore (d + 4) Q n0 bc bs 61 [(0, .ref 18), (1, .int x1), (4, .long x4), (6, .long x6), (8, .long x8), (10, .long x10), (12, .int x12), (13, .long (f_X7_bit σ (f_X0_targetOf_5 σ x12)))] [.int (f_X4_isIn_18 σ x12), .long x4] 60 mSH σ
      refine mK_if_eq (tgt := 69) dX4_findMore_61 rfl (by decide) (fun c3 => ?_) (fun c3 => ?_)
      · refine mK_lconst dX4_findMore_69 rfl (v := 0) rfl ?_
        refine mK_lor dX4_findMore_70 rfl ?_
        refine ru_lstore (lv1 := [(0, .ref 18), (1, .int x1), (4, .long (x4 ||| 0)), (6, .long x6), (8, .long x8), (10, .long x10), (12, .int x12), (13, .long (f_X7_bit σ (f_X0_targetOf_5 σ x12)))]) dX4_findMore_71 rfl (by decide) rfl ?_
        refine mK_lload dX4_findMore_73 rfl (.tail _ (.tail _ (.tail _ (.head _)))) ?_
        refine mK_aload_n dX4_findMore_75 rfl rfl (.head _) ?_
        refine mK_iload dX4_findMore_76 rfl (.tail _ (.tail _ (.tail _ (.tail _ (.tail _ (.tail _ (.head _))))))) ?_
        refine mK_invV (J := M_X4_isOut) (k := 1) (as := [.int x12]) (st := [.long x6]) (c1 := 0) (s1 := 0) dX4_findMore_78 rfl jw_X4_isOut jn_X4_isOut rfl (Nat.le_of_ble_eq_true rfl) (Nat.zero_le _) (Nat.zero_le _) rfl kw_618 kw_619 kw_620 (b := 18) (Nat.le_of_ble_eq_true rfl) (Nat.le_of_ble_eq_true rfl) rfl ?_
        refine S_X4_isOut_18 x12 ?_
        show mK Γ M_X4_findMore (d + 4) Q n0 bc bs 81 [(0, .ref 18), (1, .int x1), (4, .long (x4 ||| 0)), (6, .long x6), (8, .long x8), (10, .long x10), (12, .int x12), (13, .long (f_X7_bit σ (f_X0_targetOf_5 σ x12)))] [.int (f_X4_isOut_18 σ x12), .long x6] 60 mSH σ
        refine mK_if_eq (tgt := 88) dX4_findMore_81 rfl (by decide) (fun c4 => ?_) (fun c4 => ?_)
        · refine mK_lload dX4_findMore_88 rfl (.tail _ (.tail _ (.tail _ (.tail _ (.tail _ (.tail _ (.tail _ (.head _)))))))) ?_
          refine mK_lor dX4_findMore_90 rfl ?_
          refine ru_lstore (lv1 := [(0, .ref 18), (1, .int x1), (4, .long (x4 ||| 0)), (6, .long (x6 ||| (f_X7_bit σ (f_X0_targetOf_5 σ x12)))), (8, .long x8), (10, .long x10), (12, .int x12), (13, .long (f_X7_bit σ (f_X0_targetOf_5 σ x12)))]) dX4_findMore_91 rfl (by decide) rfl ?_
          exact ru_pick [0, 1, 2, 3, 4, 5, 6] rfl ((((h.2 c1).2 c2).1 c3).1 c4)
        · refine mK_lconst dX4_findMore_84 rfl (v := 0) rfl ?_
          refine mK_goto (tgt := 90) dX4_findMore_85 (by decide) ?_
          refine mK_lor dX4_findMore_90 rfl ?_
          refine ru_lstore (lv1 := [(0, .ref 18), (1, .int x1), (4, .long (x4 ||| 0)), (6, .long (x6 ||| 0)), (8, .long x8), (10, .long x10), (12, .int x12), (13, .long (f_X7_bit σ (f_X0_targetOf_5 σ x12)))]) dX4_findMore_91 rfl (by decide) rfl ?_
          exact ru_pick [0, 1, 2, 3, 4, 5, 6] rfl ((((h.2 c1).2 c2).1 c3).2 c4)
      · refine mK_lload dX4_findMore_64 rfl (.tail _ (.tail _ (.tail _ (.tail _ (.tail _ (.tail _ (.tail _ (.head _)))))))) ?_
        refine mK_goto (tgt := 70) dX4_findMore_66 (by decide) ?_
        refine mK_lor dX4_findMore_70 rfl ?_
        refine ru_lstore (lv1 := [(0, .ref 18), (1, .int x1), (4, .long (x4 ||| (f_X7_bit σ (f_X0_targetOf_5 σ x12)))), (6, .long x6), (8, .long x8), (10, .long x10), (12, .int x12), (13, .long (f_X7_bit σ (f_X0_targetOf_5 σ x12)))]) dX4_findMore_71 rfl (by decide) rfl ?_
        refine mK_lload dX4_findMore_73 rfl (.tail _ (.tail _ (.tail _ (.head _)))) ?_
        refine mK_aload_n dX4_findMore_75 rfl rfl (.head _) ?_
        refine mK_iload dX4_findMore_76 rfl (.tail _ (.tail _ (.tail _ (.tail _ (.tail _ (.tail _ (.head _))))))) ?_
        refine mK_invV (J := M_X4_isOut) (k := 1) (as := [.int x12]) (st := [.long x6]) (c1 := 0) (s1 := 0) dX4_findMore_78 rfl jw_X4_isOut jn_X4_isOut rfl (Nat.le_of_ble_eq_true rfl) (Nat.zero_le _) (Nat.zero_le _) rfl kw_618 kw_619 kw_620 (b := 18) (Nat.le_of_ble_eq_true rfl) (Nat.le_of_ble_eq_true rfl) rfl ?_
        refine S_X4_isOut_18 x12 ?_
        show mK Γ M_X4_findMore (d + 4) Q n0 bc bs 81 [(0, .ref 18), (1, .int x1), (4, .long (x4 ||| (f_X7_bit σ (f_X0_targetOf_5 σ x12)))), (6, .long x6), (8, .long x8), (10, .long x10), (12, .int x12), (13, .long (f_X7_bit σ (f_X0_targetOf_5 σ x12)))] [.int (f_X4_isOut_18 σ x12), .long x6] 60 mSH σ
        refine mK_if_eq (tgt := 88) dX4_findMore_81 rfl (by decide) (fun c5 => ?_) (fun c5 => ?_)
        · refine mK_lload dX4_findMore_88 rfl (.tail _ (.tail _ (.tail _ (.tail _ (.tail _ (.tail _ (.tail _ (.head _)))))))) ?_
          refine mK_lor dX4_findMore_90 rfl ?_
          refine ru_lstore (lv1 := [(0, .ref 18), (1, .int x1), (4, .long (x4 ||| (f_X7_bit σ (f_X0_targetOf_5 σ x12)))), (6, .long (x6 ||| (f_X7_bit σ (f_X0_targetOf_5 σ x12)))), (8, .long x8), (10, .long x10), (12, .int x12), (13, .long (f_X7_bit σ (f_X0_targetOf_5 σ x12)))]) dX4_findMore_91 rfl (by decide) rfl ?_
          exact ru_pick [0, 1, 2, 3, 4, 5, 6] rfl ((((h.2 c1).2 c2).2 c3).1 c5)
        · refine mK_lconst dX4_findMore_84 rfl (v := 0) rfl ?_
          refine mK_goto (tgt := 90) dX4_findMore_85 (by decide) ?_
          refine mK_lor dX4_findMore_90 rfl ?_
          refine ru_lstore (lv1 := [(0, .ref 18), (1, .int x1), (4, .long (x4 ||| (f_X7_bit σ (f_X0_targetOf_5 σ x12)))), (6, .long (x6 ||| 0)), (8, .long x8), (10, .long x10), (12, .int x12), (13, .long (f_X7_bit σ (f_X0_targetOf_5 σ x12)))]) dX4_findMore_91 rfl (by decide) rfl ?_
          exact ru_pick [0, 1, 2, 3, 4, 5, 6] rfl ((((h.2 c1).2 c2).2 c3).2 c5)
set_option maxRecDepth 20000 in
theorem T_X4_findMore_18_93 {Γ : Nat × (Nat → Int32)} {d n0 bc bs : Nat} {Q : mQ} {σ : mS} (x1 : Int32) (x4 : Int64) (x6 : Int64) (x8 : Int64) (x10 : Int64) (x12 : Int32) (h : (((f_X0_sourceOf_5 σ x12) = (-1) → mK Γ M_X4_findMore (d + 4) Q n0 bc bs 15 [(0, .ref 18), (1, .int x1), (4, .long x4), (6, .long x6), (8, .long x8), (10, .long x10), (12, .int (x12 + 1))] [] 60 mSH σ) ∧ (¬ ((f_X0_sourceOf_5 σ x12) = (-1)) → (((f_X4_isOut_18 σ (f_X0_sourceOf_5 σ x12)) = 0 → (((f_X4_isIn_18 σ (f_X0_sourceOf_5 σ x12)) = 0 → mK Γ M_X4_findMore (d + 4) Q n0 bc bs 15 [(0, .ref 18), (1, .int x1), (4, .long x4), (6, .long x6), (8, .long (x8 ||| 0)), (10, .long (x10 ||| (f_X7_bit σ x12))), (12, .int (x12 + 1))] [] 60 mSH σ) ∧ (¬ ((f_X4_isIn_18 σ (f_X0_sourceOf_5 σ x12)) = 0) → mK Γ M_X4_findMore (d + 4) Q n0 bc bs 15 [(0, .ref 18), (1, .int x1), (4, .long x4), (6, .long x6), (8, .long (x8 ||| 0)), (10, .long (x10 ||| 0)), (12, .int (x12 + 1))] [] 60 mSH σ))) ∧ (¬ ((f_X4_isOut_18 σ (f_X0_sourceOf_5 σ x12)) = 0) → (((f_X4_isIn_18 σ (f_X0_sourceOf_5 σ x12)) = 0 → mK Γ M_X4_findMore (d + 4) Q n0 bc bs 15 [(0, .ref 18), (1, .int x1), (4, .long x4), (6, .long x6), (8, .long (x8 ||| (f_X7_bit σ x12))), (10, .long (x10 ||| (f_X7_bit σ x12))), (12, .int (x12 + 1))] [] 60 mSH σ) ∧ (¬ ((f_X4_isIn_18 σ (f_X0_sourceOf_5 σ x12)) = 0) → mK Γ M_X4_findMore (d + 4) Q n0 bc bs 15 [(0, .ref 18), (1, .int x1), (4, .long x4), (6, .long x6), (8, .long (x8 ||| (f_X7_bit σ x12))), (10, .long (x10 ||| 0)), (12, .int (x12 + 1))] [] 60 mSH σ))))))) : mK Γ M_X4_findMore (d + 4) Q n0 bc bs 93 [(0, .ref 18), (1, .int x1), (4, .long x4), (6, .long x6), (8, .long x8), (10, .long x10), (12, .int x12)] [] 60 mSH σ := by
  refine mK_aload_n dX4_findMore_93 rfl rfl (.head _) ?_
  refine ru_getR (k := 0) (ci := 3) (a := 5) dX4_findMore_94 rfl rfl rfl kw_200 ?_
  refine mK_iload dX4_findMore_97 rfl (.tail _ (.tail _ (.tail _ (.tail _ (.tail _ (.tail _ (.head _))))))) ?_
  refine mK_invV (J := M_X0_sourceOf) (k := 1) (as := [.int x12]) (st := []) (c1 := 0) (s1 := 0) dX4_findMore_99 rfl jw_X0_sourceOf jn_X0_sourceOf rfl (Nat.le_of_ble_eq_true rfl) (Nat.zero_le _) (Nat.zero_le _) rfl kw_622 kw_623 kw_624 (b := 5) (Nat.le_of_ble_eq_true rfl) (Nat.le_of_ble_eq_true rfl) rfl ?_
  refine S_X0_sourceOf_5 x12 ?_
  show mK Γ M_X4_findMore (d + 4) Q n0 bc bs 102 [(0, .ref 18), (1, .int x1), (4, .long x4), (6, .long x6), (8, .long x8), (10, .long x10), (12, .int x12)] [.int (f_X0_sourceOf_5 σ x12)] 60 mSH σ
  refine ru_istore (lv1 := [(0, .ref 18), (1, .int x1), (4, .long x4), (6, .long x6), (8, .long x8), (10, .long x10), (12, .int x12), (13, .int (f_X0_sourceOf_5 σ x12))]) dX4_findMore_102 rfl (by decide) rfl ?_
  refine mK_iload dX4_findMore_104 rfl (.tail _ (.tail _ (.tail _ (.tail _ (.tail _ (.tail _ (.tail _ (.head _)))))))) ?_
  refine mK_iconst dX4_findMore_106 rfl qic_m1 ?_
  refine mK_icmp_eq (tgt := 156) dX4_findMore_107 rfl (by decide) (fun c1 => ?_) (fun c1 => ?_)
  · refine ru_iinc (lv1 := [(0, .ref 18), (1, .int x1), (4, .long x4), (6, .long x6), (8, .long x8), (10, .long x10), (12, .int (x12 + 1)), (13, .int (f_X0_sourceOf_5 σ x12))]) dX4_findMore_156 rfl (.tail _ (.tail _ (.tail _ (.tail _ (.tail _ (.tail _ (.head _))))))) qic_1 (by decide) rfl ?_
    refine mK_goto (tgt := 15) dX4_findMore_159 (by decide) ?_
    exact ru_pick [0, 1, 2, 3, 4, 5, 6] rfl (h.1 c1)
  · refine mK_lload dX4_findMore_110 rfl (.tail _ (.tail _ (.tail _ (.tail _ (.head _))))) ?_
    refine mK_aload_n dX4_findMore_112 rfl rfl (.head _) ?_
    refine mK_iload dX4_findMore_113 rfl (.tail _ (.tail _ (.tail _ (.tail _ (.tail _ (.tail _ (.tail _ (.head _)))))))) ?_
    refine mK_invV (J := M_X4_isOut) (k := 1) (as := [.int (f_X0_sourceOf_5 σ x12)]) (st := [.long x8]) (c1 := 0) (s1 := 0) dX4_findMore_115 rfl jw_X4_isOut jn_X4_isOut rfl (Nat.le_of_ble_eq_true rfl) (Nat.zero_le _) (Nat.zero_le _) rfl kw_618 kw_619 kw_620 (b := 18) (Nat.le_of_ble_eq_true rfl) (Nat.le_of_ble_eq_true rfl) rfl ?_
    refine S_X4_isOut_18 (f_X0_sourceOf_5 σ x12) ?_
    show mK Γ M_X4_findMore (d + 4) Q n0 bc bs 118 [(0, .ref 18), (1, .int x1), (4, .long x4), (6, .long x6), (8, .long x8), (10, .long x10), (12, .int x12), (13, .int (f_X0_sourceOf_5 σ x12))] [.int (f_X4_isOut_18 σ (f_X0_sourceOf_5 σ x12)), .long x8] 60 mSH σ
    refine mK_if_eq (tgt := 129) dX4_findMore_118 rfl (by decide) (fun c2 => ?_) (fun c2 => ?_)
    · refine mK_lconst dX4_findMore_129 rfl (v := 0) rfl ?_
      refine mK_lor dX4_findMore_130 rfl ?_
      refine ru_lstore (lv1 := [(0, .ref 18), (1, .int x1), (4, .long x4), (6, .long x6), (8, .long (x8 ||| 0)), (10, .long x10), (12, .int x12), (13, .int (f_X0_sourceOf_5 σ x12))]) dX4_findMore_131 rfl (by decide) rfl ?_
      refine mK_lload dX4_findMore_133 rfl (.tail _ (.tail _ (.tail _ (.tail _ (.tail _ (.head _)))))) ?_
      refine mK_aload_n dX4_findMore_135 rfl rfl (.head _) ?_
      refine mK_iload dX4_findMore_136 rfl (.tail _ (.tail _ (.tail _ (.tail _ (.tail _ (.tail _ (.tail _ (.head _)))))))) ?_
      refine mK_invV (J := M_X4_isIn) (k := 1) (as := [.int (f_X0_sourceOf_5 σ x12)]) (st := [.long x10]) (c1 := 0) (s1 := 0) dX4_findMore_138 rfl jw_X4_isIn jn_X4_isIn rfl (Nat.le_of_ble_eq_true rfl) (Nat.zero_le _) (Nat.zero_le _) rfl kw_614 kw_615 kw_616 (b := 18) (Nat.le_of_ble_eq_true rfl) (Nat.le_of_ble_eq_true rfl) rfl ?_
      refine S_X4_isIn_18 (f_X0_sourceOf_5 σ x12) ?_
      show mK Γ M_X4_findMore (d + 4) Q n0 bc bs 141 [(0, .ref 18), (1, .int x1), (4, .long x4), (6, .long x6), (8, .long (x8 ||| 0)), (10, .long x10), (12, .int x12), (13, .int (f_X0_sourceOf_5 σ x12))] [.int (f_X4_isIn_18 σ (f_X0_sourceOf_5 σ x12)), .long x10] 60 mSH σ
      refine mK_if_eq (tgt := 148) dX4_findMore_141 rfl (by decide) (fun c3 => ?_) (fun c3 => ?_)
      · refine mK_iload dX4_findMore_148 rfl (.tail _ (.tail _ (.tail _ (.tail _ (.tail _ (.tail _ (.head _))))))) ?_
        refine mK_invSN (J := M_X7_bit) (k := 1) (as := [.int x12]) (st := [.long x10]) (c1 := 0) (s1 := 0) dX4_findMore_150 rfl jw_X7_bit jn_X7_bit rfl (Nat.le_of_ble_eq_true rfl) (Nat.zero_le _) (Nat.zero_le _) rfl kn_611 kw_612 ?_
        refine S_X7_bit x12 ?_
        show mK Γ M_X4_findMore (d + 4) Q n0 bc bs 153 [(0, .ref 18), (1, .int x1), (4, .long x4), (6, .long x6), (8, .long (x8 ||| 0)), (10, .long x10), (12, .int x12), (13, .int (f_X0_sourceOf_5 σ x12))] [.long (f_X7_bit σ x12), .long x10] 60 mSH σ
        refine mK_lor dX4_findMore_153 rfl ?_
        refine ru_lstore (lv1 := [(0, .ref 18), (1, .int x1), (4, .long x4), (6, .long x6), (8, .long (x8 ||| 0)), (10, .long (x10 ||| (f_X7_bit σ x12))), (12, .int x12), (13, .int (f_X0_sourceOf_5 σ x12))]) dX4_findMore_154 rfl (by decide) rfl ?_
        refine ru_iinc (lv1 := [(0, .ref 18), (1, .int x1), (4, .long x4), (6, .long x6), (8, .long (x8 ||| 0)), (10, .long (x10 ||| (f_X7_bit σ x12))), (12, .int (x12 + 1)), (13, .int (f_X0_sourceOf_5 σ x12))]) dX4_findMore_156 rfl (.tail _ (.tail _ (.tail _ (.tail _ (.tail _ (.tail _ (.head _))))))) qic_1 (by decide) rfl ?_
        refine mK_goto (tgt := 15) dX4_findMore_159 (by decide) ?_
        exact ru_pick [0, 1, 2, 3, 4, 5, 6] rfl (((h.2 c1).1 c2).1 c3)
      · refine mK_lconst dX4_findMore_144 rfl (v := 0) rfl ?_
        refine mK_goto (tgt := 153) dX4_findMore_145 (by decide) ?_
        refine mK_lor dX4_findMore_153 rfl ?_
        refine ru_lstore (lv1 := [(0, .ref 18), (1, .int x1), (4, .long x4), (6, .long x6), (8, .long (x8 ||| 0)), (10, .long (x10 ||| 0)), (12, .int x12), (13, .int (f_X0_sourceOf_5 σ x12))]) dX4_findMore_154 rfl (by decide) rfl ?_
        refine ru_iinc (lv1 := [(0, .ref 18), (1, .int x1), (4, .long x4), (6, .long x6), (8, .long (x8 ||| 0)), (10, .long (x10 ||| 0)), (12, .int (x12 + 1)), (13, .int (f_X0_sourceOf_5 σ x12))]) dX4_findMore_156 rfl (.tail _ (.tail _ (.tail _ (.tail _ (.tail _ (.tail _ (.head _))))))) qic_1 (by decide) rfl ?_
        refine mK_goto (tgt := 15) dX4_findMore_159 (by decide) ?_
        exact ru_pick [0, 1, 2, 3, 4, 5, 6] rfl (((h.2 c1).1 c2).2 c3)
    · refine mK_iload dX4_findMore_121 rfl (.tail _ (.tail _ (.tail _ (.tail _ (.tail _ (.tail _ (.head _))))))) ?_
      refine mK_invSN (J := M_X7_bit) (k := 1) (as := [.int x12]) (st := [.long x8]) (c1 := 0) (s1 := 0) dX4_findMore_123 rfl jw_X7_bit jn_X7_bit rfl (Nat.le_of_ble_eq_true rfl) (Nat.zero_le _) (Nat.zero_le _) rfl kn_611 kw_612 ?_
      refine S_X7_bit x12 ?_
      show mK Γ M_X4_findMore (d + 4) Q n0 bc bs 126 [(0, .ref 18), (1, .int x1), (4, .long x4), (6, .long x6), (8, .long x8), (10, .long x10), (12, .int x12), (13, .int (f_X0_sourceOf_5 σ x12))] [.long (f_X7_bit σ x12), .long x8] 60 mSH σ
      refine mK_goto (tgt := 130) dX4_findMore_126 (by decide) ?_
      refine mK_lor dX4_findMore_130 rfl ?_
      refine ru_lstore (lv1 := [(0, .ref 18), (1, .int x1), (4, .long x4), (6, .long x6), (8, .long (x8 ||| (f_X7_bit σ x12))), (10, .long x10), (12, .int x12), (13, .int (f_X0_sourceOf_5 σ x12))]) dX4_findMore_131 rfl (by decide) rfl ?_
      refine mK_lload dX4_findMore_133 rfl (.tail _ (.tail _ (.tail _ (.tail _ (.tail _ (.head _)))))) ?_
      refine mK_aload_n dX4_findMore_135 rfl rfl (.head _) ?_
      refine mK_iload dX4_findMore_136 rfl (.tail _ (.tail _ (.tail _ (.tail _ (.tail _ (.tail _ (.tail _ (.head _)))))))) ?_
      refine mK_invV (J := M_X4_isIn) (k := 1) (as := [.int (f_X0_sourceOf_5 σ x12)]) (st := [.long x10]) (c1 := 0) (s1 := 0) dX4_findMore_138 rfl jw_X4_isIn jn_X4_isIn rfl (Nat.le_of_ble_eq_true rfl) (Nat.zero_le _) (Nat.zero_le _) rfl kw_614 kw_615 kw_616 (b := 18) (Nat.le_of_ble_eq_true rfl) (Nat.le_of_ble_eq_true rfl) rfl ?_
      refine S_X4_isIn_18 (f_X0_sourceOf_5 σ x12) ?_
      show mK Γ M_X4_findMore (d + 4) Q n0 bc bs 141 [(0, .ref 18), (1, .int x1), (4, .long x4), (6, .long x6), (8, .long (x8 ||| (f_X7_bit σ x12))), (10, .long x10), (12, .int x12), (13, .int (f_X0_sourceOf_5 σ x12))] [.int (f_X4_isIn_18 σ (f_X0_sourceOf_5 σ x12)), .long x10] 60 mSH σ
      refine mK_if_eq (tgt := 148) dX4_findMore_141 rfl (by decide) (fun c4 => ?_) (fun c4 => ?_)
      · refine mK_iload dX4_findMore_148 rfl (.tail _ (.tail _ (.tail _ (.tail _ (.tail _ (.tail _ (.head _))))))) ?_
        refine mK_invSN (J := M_X7_bit) (k := 1) (as := [.int x12]) (st := [.long x10]) (c1 := 0) (s1 := 0) dX4_findMore_150 rfl jw_X7_bit jn_X7_bit rfl (Nat.le_of_ble_eq_true rfl) (Nat.zero_le _) (Nat.zero_le _) rfl kn_611 kw_612 ?_
        refine S_X7_bit x12 ?_
        show mK Γ M_X4_findMore (d + 4) Q n0 bc bs 153 [(0, .ref 18), (1, .int x1), (4, .long x4), (6, .long x6), (8, .long (x8 ||| (f_X7_bit σ x12))), (10, .long x10), (12, .int x12), (13, .int (f_X0_sourceOf_5 σ x12))] [.long (f_X7_bit σ x12), .long x10] 60 mSH σ
        refine mK_lor dX4_findMore_153 rfl ?_
        refine ru_lstore (lv1 := [(0, .ref 18), (1, .int x1), (4, .long x4), (6, .long x6), (8, .long (x8 ||| (f_X7_bit σ x12))), (10, .long (x10 ||| (f_X7_bit σ x12))), (12, .int x12), (13, .int (f_X0_sourceOf_5 σ x12))]) dX4_findMore_154 rfl (by decide) rfl ?_
        refine ru_iinc (lv1 := [(0, .ref 18), (1, .int x1), (4, .long x4), (6, .long x6), (8, .long (x8 ||| (f_X7_bit σ x12))), (10, .long (x10 ||| (f_X7_bit σ x12))), (12, .int (x12 + 1)), (13, .int (f_X0_sourceOf_5 σ x12))]) dX4_findMore_156 rfl (.tail _ (.tail _ (.tail _ (.tail _ (.tail _ (.tail _ (.head _))))))) qic_1 (by decide) rfl ?_
        refine mK_goto (tgt := 15) dX4_findMore_159 (by decide) ?_
        exact ru_pick [0, 1, 2, 3, 4, 5, 6] rfl (((h.2 c1).2 c2).1 c4)
      · refine mK_lconst dX4_findMore_144 rfl (v := 0) rfl ?_
        refine mK_goto (tgt := 153) dX4_findMore_145 (by decide) ?_
        refine mK_lor dX4_findMore_153 rfl ?_
        refine ru_lstore (lv1 := [(0, .ref 18), (1, .int x1), (4, .long x4), (6, .long x6), (8, .long (x8 ||| (f_X7_bit σ x12))), (10, .long (x10 ||| 0)), (12, .int x12), (13, .int (f_X0_sourceOf_5 σ x12))]) dX4_findMore_154 rfl (by decide) rfl ?_
        refine ru_iinc (lv1 := [(0, .ref 18), (1, .int x1), (4, .long x4), (6, .long x6), (8, .long (x8 ||| (f_X7_bit σ x12))), (10, .long (x10 ||| 0)), (12, .int (x12 + 1)), (13, .int (f_X0_sourceOf_5 σ x12))]) dX4_findMore_156 rfl (.tail _ (.tail _ (.tail _ (.tail _ (.tail _ (.tail _ (.head _))))))) qic_1 (by decide) rfl ?_
        refine mK_goto (tgt := 15) dX4_findMore_159 (by decide) ?_
        exact ru_pick [0, 1, 2, 3, 4, 5, 6] rfl (((h.2 c1).2 c2).2 c4)
set_option maxRecDepth 20000 in
theorem T_X4_findMore_18_232a {Γ : Nat × (Nat → Int32)} {d n0 bc bs : Nat} {Q : mQ} {σ : mS} (x1 : Int32) (x4 : Int64) (x6 : Int64) (x8 : Int64) (x10 : Int64) (x12 : Int64) (x14 : Int64) (x16 : Int64) (h : (((x14 ||| x16) = 0 → Q (.inl (some (.int 0))) 60 mSH σ) ∧ (¬ ((x14 ||| x16) = 0) → Q (.inl (some (.int 1))) 60 mSH σ))) : mRt Γ M_X4_findMore (d + 4) Q n0 bc bs 232 [(0, .ref 18), (1, .int x1), (4, .long x4), (6, .long x6), (8, .long x8), (10, .long x10), (12, .long x12), (14, .long x14), (16, .long x16)] [] (.inl none) 60 mSH σ := by
  show mK Γ M_X4_findMore (d + 4) Q n0 bc bs 232 [(0, .ref 18), (1, .int x1), (4, .long x4), (6, .long x6), (8, .long x8), (10, .long x10), (12, .long x12), (14, .long x14), (16, .long x16)] [] 60 mSH σ
  refine mK_lload dX4_findMore_232 rfl (.tail _ (.tail _ (.tail _ (.tail _ (.tail _ (.tail _ (.tail _ (.head _)))))))) ?_
  refine mK_lload dX4_findMore_234 rfl (.tail _ (.tail _ (.tail _ (.tail _ (.tail _ (.tail _ (.tail _ (.tail _ (.head _))))))))) ?_
  refine mK_lor dX4_findMore_236 rfl ?_
  refine mK_lconst dX4_findMore_237 rfl (v := 0) rfl ?_
  refine ru_lif_eq (tgt := 246) dX4_findMore_238 rfl dX4_findMore_239 rfl (by decide) (fun c1 => ?_) (fun c1 => ?_)
  · refine mK_iconst dX4_findMore_246 rfl qic_0 ?_
    exact mK_zret dX4_findMore_247 rfl (by decide) (h.1 c1)
  · refine mK_iconst dX4_findMore_242 rfl qic_1 ?_
    refine mK_goto (tgt := 247) dX4_findMore_243 (by decide) ?_
    exact mK_zret dX4_findMore_247 rfl (by decide) (h.2 c1)
set_option maxRecDepth 20000 in
theorem E_X4_settle_16 {Γ : Nat × (Nat → Int32)} {d : Nat} {Q : mQ} {σ : mS} (a1 : Int64) (a2 : Int64) (h : mK Γ M_X4_settle (d + 2) Q 60 0 0 31 [(0, .ref 16), (3, .long a2), (5, .int 0)] [] 60 mSH (mPI (mPL (mPL (mPL σ 16 2 ((f_X0_concededItems_5 σ) ||| a1)) 16 3 0) 16 4 0) 16 5 0)) : mCall Γ M_X4_settle (d + 2) 0 0 [.ref 16, .long a1, .long a2] 60 mSH σ Q := by
  refine mCall_of rfl (by decide) (Nat.le_of_ble_eq_true rfl) (mOkC (mOk_lo (Nat.le_of_ble_eq_true rfl)) (mOkC mOk_l (mOkC mOk_l mOkN))) ?_
  show mK Γ M_X4_settle (d + 2) Q 60 0 0 0 [(0, .ref 16), (1, .long a1), (3, .long a2)] [] 60 mSH σ
  refine mK_aload_n dX4_settle_0 rfl rfl (.head _) ?_
  refine mK_aload_n dX4_settle_1 rfl rfl (.head _) ?_
  refine ru_getR (k := 0) (ci := 3) (a := 5) dX4_settle_2 rfl rfl rfl kw_200 ?_
  refine mK_invV (J := M_X0_concededItems) (k := 0) (as := []) (st := [.ref 16]) (c1 := 0) (s1 := 0) dX4_settle_5 rfl jw_X0_concededItems jn_X0_concededItems rfl (Nat.le_of_ble_eq_true rfl) (Nat.zero_le _) (Nat.zero_le _) rfl kw_594 kw_595 kw_596 (b := 5) (Nat.le_of_ble_eq_true rfl) (Nat.le_of_ble_eq_true rfl) rfl ?_
  refine S_X0_concededItems_5  ?_
  show mK Γ M_X4_settle (d + 2) Q 60 0 0 8 [(0, .ref 16), (1, .long a1), (3, .long a2)] [.long (f_X0_concededItems_5 σ), .ref 16] 60 mSH σ
  refine mK_lload_n dX4_settle_8 rfl rfl (.tail _ (.head _)) ?_
  refine mK_lor dX4_settle_9 rfl ?_
  refine ru_putL (k := 2) (ci := 3) dX4_settle_10 rfl rfl rfl kw_202 ?_
  refine mK_aload_n dX4_settle_13 rfl rfl (.head _) ?_
  refine mK_lconst dX4_settle_14 rfl (v := 0) rfl ?_
  refine ru_putL (k := 3) (ci := 3) dX4_settle_15 rfl rfl rfl kw_203 ?_
  refine mK_aload_n dX4_settle_18 rfl rfl (.head _) ?_
  refine mK_lconst dX4_settle_19 rfl (v := 0) rfl ?_
  refine ru_putL (k := 4) (ci := 3) dX4_settle_20 rfl rfl rfl kw_204 ?_
  refine mK_aload_n dX4_settle_23 rfl rfl (.head _) ?_
  refine mK_iconst dX4_settle_24 rfl qic_0 ?_
  refine ru_putI (k := 5) (ci := 3) dX4_settle_25 rfl rfl rfl kw_205 ?_
  refine mK_iconst dX4_settle_28 rfl qic_0 ?_
  refine ru_istore (lv1 := [(0, .ref 16), (1, .long a1), (3, .long a2), (5, .int 0)]) dX4_settle_29 rfl (by decide) rfl ?_
  exact ru_pick [0, 2, 3] rfl h
set_option maxRecDepth 20000 in
theorem T_X4_settle_16_31 {Γ : Nat × (Nat → Int32)} {d n0 bc bs : Nat} {Q : mQ} {σ : mS} (x3 : Int64) (x5 : Int32) (h : ((40 ≤ x5 → mK Γ M_X4_settle (d + 2) Q n0 bc bs 55 [(0, .ref 16), (3, .long x3), (5, .int 1)] [] 60 mSH σ) ∧ (¬ (40 ≤ x5) → ((vp_in x5 40) ∧ mK Γ M_X4_settle (d + 2) Q n0 bc bs 31 [(0, .ref 16), (3, .long x3), (5, .int (x5 + 1))] [] 60 mSH (mPI σ 17 (x5).toNatClampNeg 0))))) : mK Γ M_X4_settle (d + 2) Q n0 bc bs 31 [(0, .ref 16), (3, .long x3), (5, .int x5)] [] 60 mSH σ := by
  refine mK_iload dX4_settle_31 rfl (.tail _ (.tail _ (.head _))) ?_
  refine mK_bipush dX4_settle_33 rfl qbi_40 ?_
  refine mK_icmp_ge (tgt := 52) dX4_settle_35 rfl (by decide) (fun c1 => ?_) (fun c1 => ?_)
  · refine mK_iconst dX4_settle_52 rfl qic_1 ?_
    refine ru_istore (lv1 := [(0, .ref 16), (3, .long x3), (5, .int 1)]) dX4_settle_53 rfl (by decide) rfl ?_
    exact (h.1 c1)
  · refine mK_aload_n dX4_settle_38 rfl rfl (.head _) ?_
    refine ru_getR (k := 1) (ci := 3) (a := 17) dX4_settle_39 rfl rfl rfl kw_201 ?_
    refine mK_iload dX4_settle_42 rfl (.tail _ (.tail _ (.head _))) ?_
    refine mK_iconst dX4_settle_44 rfl qic_0 ?_
    refine ru_iast (n := 40) dX4_settle_45 rfl rfl ((h.2 c1).1) ?_
    refine ru_iinc (lv1 := [(0, .ref 16), (3, .long x3), (5, .int (x5 + 1))]) dX4_settle_46 rfl (.tail _ (.tail _ (.head _))) qic_1 (by decide) rfl ?_
    refine mK_goto (tgt := 31) dX4_settle_49 (by decide) ?_
    exact (h.2 c1).2
set_option maxRecDepth 20000 in
theorem T_X4_settle_16_55 {Γ : Nat × (Nat → Int32)} {d n0 bc bs : Nat} {Q : mQ} {σ : mS} (x3 : Int64) (x5 : Int32) (h : ((40 < x5 → Q (.inl none) 60 mSH σ) ∧ (¬ (40 < x5) → mCall Γ M_X4_findMore (d + 1) 0 0 [.ref 16, .int x5, .long x3] 60 mSH σ (mRt Γ M_X4_settle (d + 2) Q n0 bc bs 69 [(0, .ref 16), (3, .long x3), (5, .int x5)] [])))) : mK Γ M_X4_settle (d + 2) Q n0 bc bs 55 [(0, .ref 16), (3, .long x3), (5, .int x5)] [] 60 mSH σ := by
  refine mK_iload dX4_settle_55 rfl (.tail _ (.tail _ (.head _))) ?_
  refine mK_bipush dX4_settle_57 rfl qbi_40 ?_
  refine mK_icmp_gt (tgt := 84) dX4_settle_59 rfl (by decide) (fun c1 => ?_) (fun c1 => ?_)
  · exact mK_vret dX4_settle_84 rfl (h.1 c1)
  · refine mK_aload_n dX4_settle_62 rfl rfl (.head _) ?_
    refine mK_iload dX4_settle_63 rfl (.tail _ (.tail _ (.head _))) ?_
    refine mK_lload_n dX4_settle_65 rfl rfl (.tail _ (.head _)) ?_
    refine mK_invV (J := M_X4_findMore) (k := 2) (as := [.int x5, .long x3]) (st := []) (c1 := 0) (s1 := 0) dX4_settle_66 rfl jw_X4_findMore jn_X4_findMore rfl (Nat.le_of_ble_eq_true rfl) (Nat.zero_le _) (Nat.zero_le _) rfl kw_598 kw_600 kw_23 (b := 16) (Nat.le_of_ble_eq_true rfl) (Nat.le_of_ble_eq_true rfl) rfl ?_
    exact (h.2 c1)
set_option maxRecDepth 20000 in
theorem T_X4_settle_16_69a {Γ : Nat × (Nat → Int32)} {d n0 bc bs : Nat} {Q : mQ} {σ : mS} (x3 : Int64) (x5 : Int32) (r : Int32) (h : ((r = 0 → Q (.inl none) 60 mSH σ) ∧ (¬ (r = 0) → mK Γ M_X4_settle (d + 2) Q n0 bc bs 55 [(0, .ref 16), (3, .long x3), (5, .int (x5 + 1))] [] 60 mSH (mPI σ 16 5 x5)))) : mRt Γ M_X4_settle (d + 2) Q n0 bc bs 69 [(0, .ref 16), (3, .long x3), (5, .int x5)] [] (.inl (some (.int r))) 60 mSH σ := by
  show mK Γ M_X4_settle (d + 2) Q n0 bc bs 69 [(0, .ref 16), (3, .long x3), (5, .int x5)] [.int r] 60 mSH σ
  refine mK_if_eq (tgt := 84) dX4_settle_69 rfl (by decide) (fun c1 => ?_) (fun c1 => ?_)
  · exact mK_vret dX4_settle_84 rfl (h.1 c1)
  · refine mK_aload_n dX4_settle_72 rfl rfl (.head _) ?_
    refine mK_iload dX4_settle_73 rfl (.tail _ (.tail _ (.head _))) ?_
    refine ru_putI (k := 5) (ci := 3) dX4_settle_75 rfl rfl rfl kw_205 ?_
    refine ru_iinc (lv1 := [(0, .ref 16), (3, .long x3), (5, .int (x5 + 1))]) dX4_settle_78 rfl (.tail _ (.tail _ (.head _))) qic_1 (by decide) rfl ?_
    refine mK_goto (tgt := 55) dX4_settle_81 (by decide) ?_
    exact (h.2 c1)
set_option maxRecDepth 20000 in
theorem E_X4_settle_18 {Γ : Nat × (Nat → Int32)} {d : Nat} {Q : mQ} {σ : mS} (a1 : Int64) (a2 : Int64) (h : mK Γ M_X4_settle (d + 2) Q 60 0 0 31 [(0, .ref 18), (3, .long a2), (5, .int 0)] [] 60 mSH (mPI (mPL (mPL (mPL σ 18 2 ((f_X0_concededItems_5 σ) ||| a1)) 18 3 0) 18 4 0) 18 5 0)) : mCall Γ M_X4_settle (d + 2) 0 0 [.ref 18, .long a1, .long a2] 60 mSH σ Q := by
  refine mCall_of rfl (by decide) (Nat.le_of_ble_eq_true rfl) (mOkC (mOk_lo (Nat.le_of_ble_eq_true rfl)) (mOkC mOk_l (mOkC mOk_l mOkN))) ?_
  show mK Γ M_X4_settle (d + 2) Q 60 0 0 0 [(0, .ref 18), (1, .long a1), (3, .long a2)] [] 60 mSH σ
  refine mK_aload_n dX4_settle_0 rfl rfl (.head _) ?_
  refine mK_aload_n dX4_settle_1 rfl rfl (.head _) ?_
  refine ru_getR (k := 0) (ci := 3) (a := 5) dX4_settle_2 rfl rfl rfl kw_200 ?_
  refine mK_invV (J := M_X0_concededItems) (k := 0) (as := []) (st := [.ref 18]) (c1 := 0) (s1 := 0) dX4_settle_5 rfl jw_X0_concededItems jn_X0_concededItems rfl (Nat.le_of_ble_eq_true rfl) (Nat.zero_le _) (Nat.zero_le _) rfl kw_594 kw_595 kw_596 (b := 5) (Nat.le_of_ble_eq_true rfl) (Nat.le_of_ble_eq_true rfl) rfl ?_
  refine S_X0_concededItems_5  ?_
  show mK Γ M_X4_settle (d + 2) Q 60 0 0 8 [(0, .ref 18), (1, .long a1), (3, .long a2)] [.long (f_X0_concededItems_5 σ), .ref 18] 60 mSH σ
  refine mK_lload_n dX4_settle_8 rfl rfl (.tail _ (.head _)) ?_
  refine mK_lor dX4_settle_9 rfl ?_
  refine ru_putL (k := 2) (ci := 3) dX4_settle_10 rfl rfl rfl kw_202 ?_
  refine mK_aload_n dX4_settle_13 rfl rfl (.head _) ?_
  refine mK_lconst dX4_settle_14 rfl (v := 0) rfl ?_
  refine ru_putL (k := 3) (ci := 3) dX4_settle_15 rfl rfl rfl kw_203 ?_
  refine mK_aload_n dX4_settle_18 rfl rfl (.head _) ?_
  refine mK_lconst dX4_settle_19 rfl (v := 0) rfl ?_
  refine ru_putL (k := 4) (ci := 3) dX4_settle_20 rfl rfl rfl kw_204 ?_
  refine mK_aload_n dX4_settle_23 rfl rfl (.head _) ?_
  refine mK_iconst dX4_settle_24 rfl qic_0 ?_
  refine ru_putI (k := 5) (ci := 3) dX4_settle_25 rfl rfl rfl kw_205 ?_
  refine mK_iconst dX4_settle_28 rfl qic_0 ?_
  refine ru_istore (lv1 := [(0, .ref 18), (1, .long a1), (3, .long a2), (5, .int 0)]) dX4_settle_29 rfl (by decide) rfl ?_
  exact ru_pick [0, 2, 3] rfl h
set_option maxRecDepth 20000 in
theorem T_X4_settle_18_31 {Γ : Nat × (Nat → Int32)} {d n0 bc bs : Nat} {Q : mQ} {σ : mS} (x3 : Int64) (x5 : Int32) (h : ((40 ≤ x5 → mK Γ M_X4_settle (d + 2) Q n0 bc bs 55 [(0, .ref 18), (3, .long x3), (5, .int 1)] [] 60 mSH σ) ∧ (¬ (40 ≤ x5) → ((vp_in x5 40) ∧ mK Γ M_X4_settle (d + 2) Q n0 bc bs 31 [(0, .ref 18), (3, .long x3), (5, .int (x5 + 1))] [] 60 mSH (mPI σ 19 (x5).toNatClampNeg 0))))) : mK Γ M_X4_settle (d + 2) Q n0 bc bs 31 [(0, .ref 18), (3, .long x3), (5, .int x5)] [] 60 mSH σ := by
  refine mK_iload dX4_settle_31 rfl (.tail _ (.tail _ (.head _))) ?_
  refine mK_bipush dX4_settle_33 rfl qbi_40 ?_
  refine mK_icmp_ge (tgt := 52) dX4_settle_35 rfl (by decide) (fun c1 => ?_) (fun c1 => ?_)
  · refine mK_iconst dX4_settle_52 rfl qic_1 ?_
    refine ru_istore (lv1 := [(0, .ref 18), (3, .long x3), (5, .int 1)]) dX4_settle_53 rfl (by decide) rfl ?_
    exact (h.1 c1)
  · refine mK_aload_n dX4_settle_38 rfl rfl (.head _) ?_
    refine ru_getR (k := 1) (ci := 3) (a := 19) dX4_settle_39 rfl rfl rfl kw_201 ?_
    refine mK_iload dX4_settle_42 rfl (.tail _ (.tail _ (.head _))) ?_
    refine mK_iconst dX4_settle_44 rfl qic_0 ?_
    refine ru_iast (n := 40) dX4_settle_45 rfl rfl ((h.2 c1).1) ?_
    refine ru_iinc (lv1 := [(0, .ref 18), (3, .long x3), (5, .int (x5 + 1))]) dX4_settle_46 rfl (.tail _ (.tail _ (.head _))) qic_1 (by decide) rfl ?_
    refine mK_goto (tgt := 31) dX4_settle_49 (by decide) ?_
    exact (h.2 c1).2
set_option maxRecDepth 20000 in
theorem T_X4_settle_18_55 {Γ : Nat × (Nat → Int32)} {d n0 bc bs : Nat} {Q : mQ} {σ : mS} (x3 : Int64) (x5 : Int32) (h : ((40 < x5 → Q (.inl none) 60 mSH σ) ∧ (¬ (40 < x5) → mCall Γ M_X4_findMore (d + 1) 0 0 [.ref 18, .int x5, .long x3] 60 mSH σ (mRt Γ M_X4_settle (d + 2) Q n0 bc bs 69 [(0, .ref 18), (3, .long x3), (5, .int x5)] [])))) : mK Γ M_X4_settle (d + 2) Q n0 bc bs 55 [(0, .ref 18), (3, .long x3), (5, .int x5)] [] 60 mSH σ := by
  refine mK_iload dX4_settle_55 rfl (.tail _ (.tail _ (.head _))) ?_
  refine mK_bipush dX4_settle_57 rfl qbi_40 ?_
  refine mK_icmp_gt (tgt := 84) dX4_settle_59 rfl (by decide) (fun c1 => ?_) (fun c1 => ?_)
  · exact mK_vret dX4_settle_84 rfl (h.1 c1)
  · refine mK_aload_n dX4_settle_62 rfl rfl (.head _) ?_
    refine mK_iload dX4_settle_63 rfl (.tail _ (.tail _ (.head _))) ?_
    refine mK_lload_n dX4_settle_65 rfl rfl (.tail _ (.head _)) ?_
    refine mK_invV (J := M_X4_findMore) (k := 2) (as := [.int x5, .long x3]) (st := []) (c1 := 0) (s1 := 0) dX4_settle_66 rfl jw_X4_findMore jn_X4_findMore rfl (Nat.le_of_ble_eq_true rfl) (Nat.zero_le _) (Nat.zero_le _) rfl kw_598 kw_600 kw_23 (b := 18) (Nat.le_of_ble_eq_true rfl) (Nat.le_of_ble_eq_true rfl) rfl ?_
    exact (h.2 c1)
set_option maxRecDepth 20000 in
theorem T_X4_settle_18_69a {Γ : Nat × (Nat → Int32)} {d n0 bc bs : Nat} {Q : mQ} {σ : mS} (x3 : Int64) (x5 : Int32) (r : Int32) (h : ((r = 0 → Q (.inl none) 60 mSH σ) ∧ (¬ (r = 0) → mK Γ M_X4_settle (d + 2) Q n0 bc bs 55 [(0, .ref 18), (3, .long x3), (5, .int (x5 + 1))] [] 60 mSH (mPI σ 18 5 x5)))) : mRt Γ M_X4_settle (d + 2) Q n0 bc bs 69 [(0, .ref 18), (3, .long x3), (5, .int x5)] [] (.inl (some (.int r))) 60 mSH σ := by
  show mK Γ M_X4_settle (d + 2) Q n0 bc bs 69 [(0, .ref 18), (3, .long x3), (5, .int x5)] [.int r] 60 mSH σ
  refine mK_if_eq (tgt := 84) dX4_settle_69 rfl (by decide) (fun c1 => ?_) (fun c1 => ?_)
  · exact mK_vret dX4_settle_84 rfl (h.1 c1)
  · refine mK_aload_n dX4_settle_72 rfl rfl (.head _) ?_
    refine mK_iload dX4_settle_73 rfl (.tail _ (.tail _ (.head _))) ?_
    refine ru_putI (k := 5) (ci := 3) dX4_settle_75 rfl rfl rfl kw_205 ?_
    refine ru_iinc (lv1 := [(0, .ref 18), (3, .long x3), (5, .int (x5 + 1))]) dX4_settle_78 rfl (.tail _ (.tail _ (.head _))) qic_1 (by decide) rfl ?_
    refine mK_goto (tgt := 55) dX4_settle_81 (by decide) ?_
    exact (h.2 c1)
