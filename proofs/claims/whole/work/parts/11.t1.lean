set_option maxRecDepth 20000 in
theorem E_X0_findItem_5 {Γ : Nat × (Nat → Int32)} {d : Nat} {Q : mQ} {σ : mS} (a1 : Int64) (h : mK Γ M_X0_findItem (d + 1) Q 60 0 0 2 [(0, .ref 5), (1, .long a1), (3, .int 0)] [] 60 mSH σ) : mCall Γ M_X0_findItem (d + 1) 0 0 [.ref 5, .long a1] 60 mSH σ Q := by
  refine mCall_of rfl (by decide) (Nat.le_of_ble_eq_true rfl) (mOkC (mOk_lo (Nat.le_of_ble_eq_true rfl)) (mOkC mOk_l mOkN)) ?_
  show mK Γ M_X0_findItem (d + 1) Q 60 0 0 0 [(0, .ref 5), (1, .long a1)] [] 60 mSH σ
  refine mK_iconst dX0_findItem_0 rfl qic_0 ?_
  refine ru_istore_n (lv1 := [(0, .ref 5), (1, .long a1), (3, .int 0)]) dX0_findItem_1 rfl rfl (by decide) rfl ?_
  exact h
set_option maxRecDepth 20000 in
theorem T_X0_findItem_5_2 {Γ : Nat × (Nat → Int32)} {d n0 bc bs : Nat} {Q : mQ} {σ : mS} (x1 : Int64) (x3 : Int32) (h : (((σ.1 5 10) ≤ x3 → Q (.inl (some (.int (-1)))) 60 mSH σ) ∧ (¬ ((σ.1 5 10) ≤ x3) → ((40 ≤ x3 → Q (.inl (some (.int (-1)))) 60 mSH σ) ∧ (¬ (40 ≤ x3) → ((vp_in x3 40) ∧ (((σ.2.1 8 (x3).toNatClampNeg) = x1 → Q (.inl (some (.int x3))) 60 mSH σ) ∧ (¬ ((σ.2.1 8 (x3).toNatClampNeg) = x1) → mK Γ M_X0_findItem (d + 1) Q n0 bc bs 2 [(0, .ref 5), (1, .long x1), (3, .int (x3 + 1))] [] 60 mSH σ)))))))) : mK Γ M_X0_findItem (d + 1) Q n0 bc bs 2 [(0, .ref 5), (1, .long x1), (3, .int x3)] [] 60 mSH σ := by
  refine mK_iload_n dX0_findItem_2 rfl rfl (.tail _ (.tail _ (.head _))) ?_
  refine mK_aload_n dX0_findItem_3 rfl rfl (.head _) ?_
  refine ru_getI (k := 10) (ci := 0) dX0_findItem_4 rfl rfl kw_152 ?_
  refine mK_icmp_ge (tgt := 35) dX0_findItem_7 rfl (by decide) (fun c1 => ?_) (fun c1 => ?_)
  · refine mK_iconst dX0_findItem_35 rfl qic_m1 ?_
    exact mK_iret dX0_findItem_36 rfl (h.1 c1)
  · refine mK_iload_n dX0_findItem_10 rfl rfl (.tail _ (.tail _ (.head _))) ?_
    refine mK_bipush dX0_findItem_11 rfl qbi_40 ?_
    refine mK_icmp_ge (tgt := 35) dX0_findItem_13 rfl (by decide) (fun c2 => ?_) (fun c2 => ?_)
    · refine mK_iconst dX0_findItem_35 rfl qic_m1 ?_
      exact mK_iret dX0_findItem_36 rfl ((h.2 c1).1 c2)
    · refine mK_aload_n dX0_findItem_16 rfl rfl (.head _) ?_
      refine ru_getR (k := 3) (ci := 0) (a := 8) dX0_findItem_17 rfl rfl rfl kw_145 ?_
      refine mK_iload_n dX0_findItem_20 rfl rfl (.tail _ (.tail _ (.head _))) ?_
      refine ru_lald (n := 40) dX0_findItem_21 rfl rfl (((h.2 c1).2 c2).1) ?_
      refine mK_lload_n dX0_findItem_22 rfl rfl (.tail _ (.head _)) ?_
      refine ru_lif_ne (tgt := 29) dX0_findItem_23 rfl dX0_findItem_24 rfl (by decide) (fun c3 => ?_) (fun c3 => ?_)
      · refine ru_iinc (lv1 := [(0, .ref 5), (1, .long x1), (3, .int (x3 + 1))]) dX0_findItem_29 rfl (.tail _ (.tail _ (.head _))) qic_1 (by decide) rfl ?_
        refine mK_goto (tgt := 2) dX0_findItem_32 (by decide) ?_
        exact (((h.2 c1).2 c2).2.2 c3)
      · refine mK_iload_n dX0_findItem_27 rfl rfl (.tail _ (.tail _ (.head _))) ?_
        exact mK_iret dX0_findItem_28 rfl (((h.2 c1).2 c2).2.1 c3)
set_option maxRecDepth 20000 in
theorem E_X0_findSpeaker_5 {Γ : Nat × (Nat → Int32)} {d : Nat} {Q : mQ} {σ : mS} (a1 : Int64) (h : mK Γ M_X0_findSpeaker (d + 1) Q 60 0 0 2 [(0, .ref 5), (1, .long a1), (3, .int 0)] [] 60 mSH σ) : mCall Γ M_X0_findSpeaker (d + 1) 0 0 [.ref 5, .long a1] 60 mSH σ Q := by
  refine mCall_of rfl (by decide) (Nat.le_of_ble_eq_true rfl) (mOkC (mOk_lo (Nat.le_of_ble_eq_true rfl)) (mOkC mOk_l mOkN)) ?_
  show mK Γ M_X0_findSpeaker (d + 1) Q 60 0 0 0 [(0, .ref 5), (1, .long a1)] [] 60 mSH σ
  refine mK_iconst dX0_findSpeaker_0 rfl qic_0 ?_
  refine ru_istore_n (lv1 := [(0, .ref 5), (1, .long a1), (3, .int 0)]) dX0_findSpeaker_1 rfl rfl (by decide) rfl ?_
  exact h
set_option maxRecDepth 20000 in
theorem T_X0_findSpeaker_5_2 {Γ : Nat × (Nat → Int32)} {d n0 bc bs : Nat} {Q : mQ} {σ : mS} (x1 : Int64) (x3 : Int32) (h : (((σ.1 5 2) ≤ x3 → Q (.inl (some (.int (-1)))) 60 mSH σ) ∧ (¬ ((σ.1 5 2) ≤ x3) → ((6 ≤ x3 → Q (.inl (some (.int (-1)))) 60 mSH σ) ∧ (¬ (6 ≤ x3) → ((vp_in x3 6) ∧ (((σ.2.1 6 (x3).toNatClampNeg) = x1 → Q (.inl (some (.int x3))) 60 mSH σ) ∧ (¬ ((σ.2.1 6 (x3).toNatClampNeg) = x1) → mK Γ M_X0_findSpeaker (d + 1) Q n0 bc bs 2 [(0, .ref 5), (1, .long x1), (3, .int (x3 + 1))] [] 60 mSH σ)))))))) : mK Γ M_X0_findSpeaker (d + 1) Q n0 bc bs 2 [(0, .ref 5), (1, .long x1), (3, .int x3)] [] 60 mSH σ := by
  refine mK_iload_n dX0_findSpeaker_2 rfl rfl (.tail _ (.tail _ (.head _))) ?_
  refine mK_aload_n dX0_findSpeaker_3 rfl rfl (.head _) ?_
  refine ru_getI (k := 2) (ci := 0) dX0_findSpeaker_4 rfl rfl kw_144 ?_
  refine mK_icmp_ge (tgt := 35) dX0_findSpeaker_7 rfl (by decide) (fun c1 => ?_) (fun c1 => ?_)
  · refine mK_iconst dX0_findSpeaker_35 rfl qic_m1 ?_
    exact mK_iret dX0_findSpeaker_36 rfl (h.1 c1)
  · refine mK_iload_n dX0_findSpeaker_10 rfl rfl (.tail _ (.tail _ (.head _))) ?_
    refine mK_bipush dX0_findSpeaker_11 rfl qbi_6 ?_
    refine mK_icmp_ge (tgt := 35) dX0_findSpeaker_13 rfl (by decide) (fun c2 => ?_) (fun c2 => ?_)
    · refine mK_iconst dX0_findSpeaker_35 rfl qic_m1 ?_
      exact mK_iret dX0_findSpeaker_36 rfl ((h.2 c1).1 c2)
    · refine mK_aload_n dX0_findSpeaker_16 rfl rfl (.head _) ?_
      refine ru_getR (k := 0) (ci := 0) (a := 6) dX0_findSpeaker_17 rfl rfl rfl kw_142 ?_
      refine mK_iload_n dX0_findSpeaker_20 rfl rfl (.tail _ (.tail _ (.head _))) ?_
      refine ru_lald (n := 6) dX0_findSpeaker_21 rfl rfl (((h.2 c1).2 c2).1) ?_
      refine mK_lload_n dX0_findSpeaker_22 rfl rfl (.tail _ (.head _)) ?_
      refine ru_lif_ne (tgt := 29) dX0_findSpeaker_23 rfl dX0_findSpeaker_24 rfl (by decide) (fun c3 => ?_) (fun c3 => ?_)
      · refine ru_iinc (lv1 := [(0, .ref 5), (1, .long x1), (3, .int (x3 + 1))]) dX0_findSpeaker_29 rfl (.tail _ (.tail _ (.head _))) qic_1 (by decide) rfl ?_
        refine mK_goto (tgt := 2) dX0_findSpeaker_32 (by decide) ?_
        exact (((h.2 c1).2 c2).2.2 c3)
      · refine mK_iload_n dX0_findSpeaker_27 rfl rfl (.tail _ (.tail _ (.head _))) ?_
        exact mK_iret dX0_findSpeaker_28 rfl (((h.2 c1).2 c2).2.1 c3)
set_option maxRecDepth 20000 in
theorem E_X8_itemOf_32 {Γ : Nat × (Nat → Int32)} {d : Nat} {Q : mQ} {σ : mS} (a1 : Int64) (h : mK Γ M_X8_itemOf (d + 1) Q 60 0 0 2 [(0, .ref 32), (1, .long a1), (3, .int 0)] [] 60 mSH σ) : mCall Γ M_X8_itemOf (d + 1) 0 0 [.ref 32, .long a1] 60 mSH σ Q := by
  refine mCall_of rfl (by decide) (Nat.le_of_ble_eq_true rfl) (mOkC (mOk_lo (Nat.le_of_ble_eq_true rfl)) (mOkC mOk_l mOkN)) ?_
  show mK Γ M_X8_itemOf (d + 1) Q 60 0 0 0 [(0, .ref 32), (1, .long a1)] [] 60 mSH σ
  refine mK_iconst dX8_itemOf_0 rfl qic_0 ?_
  refine ru_istore_n (lv1 := [(0, .ref 32), (1, .long a1), (3, .int 0)]) dX8_itemOf_1 rfl rfl (by decide) rfl ?_
  exact h
set_option maxRecDepth 20000 in
theorem T_X8_itemOf_32_2 {Γ : Nat × (Nat → Int32)} {d n0 bc bs : Nat} {Q : mQ} {σ : mS} (x1 : Int64) (x3 : Int32) (h : (((σ.1 32 3) ≤ x3 → Q (.inl (some (.int (-1)))) 60 mSH σ) ∧ (¬ ((σ.1 32 3) ≤ x3) → ((vp_in x3 40) ∧ (((σ.2.1 35 (x3).toNatClampNeg) = x1 → Q (.inl (some (.int x3))) 60 mSH σ) ∧ (¬ ((σ.2.1 35 (x3).toNatClampNeg) = x1) → mK Γ M_X8_itemOf (d + 1) Q n0 bc bs 2 [(0, .ref 32), (1, .long x1), (3, .int (x3 + 1))] [] 60 mSH σ)))))) : mK Γ M_X8_itemOf (d + 1) Q n0 bc bs 2 [(0, .ref 32), (1, .long x1), (3, .int x3)] [] 60 mSH σ := by
  refine mK_iload_n dX8_itemOf_2 rfl rfl (.tail _ (.tail _ (.head _))) ?_
  refine mK_aload_n dX8_itemOf_3 rfl rfl (.head _) ?_
  refine ru_getI (k := 3) (ci := 7) dX8_itemOf_4 rfl rfl kw_1085 ?_
  refine mK_icmp_ge (tgt := 29) dX8_itemOf_7 rfl (by decide) (fun c1 => ?_) (fun c1 => ?_)
  · refine mK_iconst dX8_itemOf_29 rfl qic_m1 ?_
    exact mK_iret dX8_itemOf_30 rfl (h.1 c1)
  · refine mK_aload_n dX8_itemOf_10 rfl rfl (.head _) ?_
    refine ru_getR (k := 4) (ci := 7) (a := 35) dX8_itemOf_11 rfl rfl rfl kw_1087 ?_
    refine mK_iload_n dX8_itemOf_14 rfl rfl (.tail _ (.tail _ (.head _))) ?_
    refine ru_lald (n := 40) dX8_itemOf_15 rfl rfl ((h.2 c1).1) ?_
    refine mK_lload_n dX8_itemOf_16 rfl rfl (.tail _ (.head _)) ?_
    refine ru_lif_ne (tgt := 23) dX8_itemOf_17 rfl dX8_itemOf_18 rfl (by decide) (fun c2 => ?_) (fun c2 => ?_)
    · refine ru_iinc (lv1 := [(0, .ref 32), (1, .long x1), (3, .int (x3 + 1))]) dX8_itemOf_23 rfl (.tail _ (.tail _ (.head _))) qic_1 (by decide) rfl ?_
      refine mK_goto (tgt := 2) dX8_itemOf_26 (by decide) ?_
      exact ((h.2 c1).2.2 c2)
    · refine mK_iload_n dX8_itemOf_21 rfl rfl (.tail _ (.tail _ (.head _))) ?_
      exact mK_iret dX8_itemOf_22 rfl ((h.2 c1).2.1 c2)
set_option maxRecDepth 20000 in
theorem E_X8_speakerOf_32 {Γ : Nat × (Nat → Int32)} {d : Nat} {Q : mQ} {σ : mS} (a1 : Int64) (h : mK Γ M_X8_speakerOf (d + 1) Q 60 0 0 2 [(0, .ref 32), (1, .long a1), (3, .int 0)] [] 60 mSH σ) : mCall Γ M_X8_speakerOf (d + 1) 0 0 [.ref 32, .long a1] 60 mSH σ Q := by
  refine mCall_of rfl (by decide) (Nat.le_of_ble_eq_true rfl) (mOkC (mOk_lo (Nat.le_of_ble_eq_true rfl)) (mOkC mOk_l mOkN)) ?_
  show mK Γ M_X8_speakerOf (d + 1) Q 60 0 0 0 [(0, .ref 32), (1, .long a1)] [] 60 mSH σ
  refine mK_iconst dX8_speakerOf_0 rfl qic_0 ?_
  refine ru_istore_n (lv1 := [(0, .ref 32), (1, .long a1), (3, .int 0)]) dX8_speakerOf_1 rfl rfl (by decide) rfl ?_
  exact h
set_option maxRecDepth 20000 in
theorem T_X8_speakerOf_32_2 {Γ : Nat × (Nat → Int32)} {d n0 bc bs : Nat} {Q : mQ} {σ : mS} (x1 : Int64) (x3 : Int32) (h : (((σ.1 32 0) ≤ x3 → Q (.inl (some (.int (-1)))) 60 mSH σ) ∧ (¬ ((σ.1 32 0) ≤ x3) → ((vp_in x3 6) ∧ (((σ.2.1 33 (x3).toNatClampNeg) = x1 → Q (.inl (some (.int x3))) 60 mSH σ) ∧ (¬ ((σ.2.1 33 (x3).toNatClampNeg) = x1) → mK Γ M_X8_speakerOf (d + 1) Q n0 bc bs 2 [(0, .ref 32), (1, .long x1), (3, .int (x3 + 1))] [] 60 mSH σ)))))) : mK Γ M_X8_speakerOf (d + 1) Q n0 bc bs 2 [(0, .ref 32), (1, .long x1), (3, .int x3)] [] 60 mSH σ := by
  refine mK_iload_n dX8_speakerOf_2 rfl rfl (.tail _ (.tail _ (.head _))) ?_
  refine mK_aload_n dX8_speakerOf_3 rfl rfl (.head _) ?_
  refine ru_getI (k := 0) (ci := 7) dX8_speakerOf_4 rfl rfl kw_1079 ?_
  refine mK_icmp_ge (tgt := 29) dX8_speakerOf_7 rfl (by decide) (fun c1 => ?_) (fun c1 => ?_)
  · refine mK_iconst dX8_speakerOf_29 rfl qic_m1 ?_
    exact mK_iret dX8_speakerOf_30 rfl (h.1 c1)
  · refine mK_aload_n dX8_speakerOf_10 rfl rfl (.head _) ?_
    refine ru_getR (k := 1) (ci := 7) (a := 33) dX8_speakerOf_11 rfl rfl rfl kw_1081 ?_
    refine mK_iload_n dX8_speakerOf_14 rfl rfl (.tail _ (.tail _ (.head _))) ?_
    refine ru_lald (n := 6) dX8_speakerOf_15 rfl rfl ((h.2 c1).1) ?_
    refine mK_lload_n dX8_speakerOf_16 rfl rfl (.tail _ (.head _)) ?_
    refine ru_lif_ne (tgt := 23) dX8_speakerOf_17 rfl dX8_speakerOf_18 rfl (by decide) (fun c2 => ?_) (fun c2 => ?_)
    · refine ru_iinc (lv1 := [(0, .ref 32), (1, .long x1), (3, .int (x3 + 1))]) dX8_speakerOf_23 rfl (.tail _ (.tail _ (.head _))) qic_1 (by decide) rfl ?_
      refine mK_goto (tgt := 2) dX8_speakerOf_26 (by decide) ?_
      exact ((h.2 c1).2.2 c2)
    · refine mK_iload_n dX8_speakerOf_21 rfl rfl (.tail _ (.tail _ (.head _))) ?_
      exact mK_iret dX8_speakerOf_22 rfl ((h.2 c1).2.1 c2)
set_option maxRecDepth 20000 in
theorem E_X0_itemsWith_5_9 {Γ : Nat × (Nat → Int32)} {d : Nat} {Q : mQ} {σ : mS} (a2 : Int32) (h : mK Γ M_X0_itemsWith (d + 2) Q 60 0 0 5 [(0, .ref 5), (1, .ref 9), (2, .int a2), (3, .long 0), (5, .int 0)] [] 60 mSH σ) : mCall Γ M_X0_itemsWith (d + 2) 0 0 [.ref 5, .ref 9, .int a2] 60 mSH σ Q := by
  refine mCall_of rfl (by decide) (Nat.le_of_ble_eq_true rfl) (mOkC (mOk_lo (Nat.le_of_ble_eq_true rfl)) (mOkC (mOk_lo (Nat.le_of_ble_eq_true rfl)) (mOkC mOk_i mOkN))) ?_
  show mK Γ M_X0_itemsWith (d + 2) Q 60 0 0 0 [(0, .ref 5), (1, .ref 9), (2, .int a2)] [] 60 mSH σ
  refine mK_lconst dX0_itemsWith_0 rfl (v := 0) rfl ?_
  refine ru_lstore_n (lv1 := [(0, .ref 5), (1, .ref 9), (2, .int a2), (3, .long 0)]) dX0_itemsWith_1 rfl rfl (by decide) rfl ?_
  refine mK_iconst dX0_itemsWith_2 rfl qic_0 ?_
  refine ru_istore (lv1 := [(0, .ref 5), (1, .ref 9), (2, .int a2), (3, .long 0), (5, .int 0)]) dX0_itemsWith_3 rfl (by decide) rfl ?_
  exact h
set_option maxRecDepth 20000 in
theorem T_X0_itemsWith_5_9_5 {Γ : Nat × (Nat → Int32)} {d n0 bc bs : Nat} {Q : mQ} {σ : mS} (x2 : Int32) (x3 : Int64) (x5 : Int32) (h : (((σ.1 5 10) ≤ x5 → Q (.inl (some (.long x3))) 60 mSH σ) ∧ (¬ ((σ.1 5 10) ≤ x5) → ((40 ≤ x5 → Q (.inl (some (.long x3))) 60 mSH σ) ∧ (¬ (40 ≤ x5) → ((vp_in x5 40) ∧ (((σ.1 9 (x5).toNatClampNeg) = x2 → mK Γ M_X0_itemsWith (d + 2) Q n0 bc bs 5 [(0, .ref 5), (1, .ref 9), (2, .int x2), (3, .long (x3 ||| (f_X7_bit σ x5))), (5, .int (x5 + 1))] [] 60 mSH σ) ∧ (¬ ((σ.1 9 (x5).toNatClampNeg) = x2) → mK Γ M_X0_itemsWith (d + 2) Q n0 bc bs 5 [(0, .ref 5), (1, .ref 9), (2, .int x2), (3, .long (x3 ||| 0)), (5, .int (x5 + 1))] [] 60 mSH σ)))))))) : mK Γ M_X0_itemsWith (d + 2) Q n0 bc bs 5 [(0, .ref 5), (1, .ref 9), (2, .int x2), (3, .long x3), (5, .int x5)] [] 60 mSH σ := by
  refine mK_iload dX0_itemsWith_5 rfl (.tail _ (.tail _ (.tail _ (.tail _ (.head _))))) ?_
  refine mK_aload_n dX0_itemsWith_7 rfl rfl (.head _) ?_
  refine ru_getI (k := 10) (ci := 0) dX0_itemsWith_8 rfl rfl kw_152 ?_
  refine mK_icmp_ge (tgt := 47) dX0_itemsWith_11 rfl (by decide) (fun c1 => ?_) (fun c1 => ?_)
  · refine mK_lload_n dX0_itemsWith_47 rfl rfl (.tail _ (.tail _ (.tail _ (.head _)))) ?_
    exact mK_lret dX0_itemsWith_48 rfl (h.1 c1)
  · refine mK_iload dX0_itemsWith_14 rfl (.tail _ (.tail _ (.tail _ (.tail _ (.head _))))) ?_
    refine mK_aload_n dX0_itemsWith_16 rfl rfl (.tail _ (.head _)) ?_
    refine ru_alen (n := 40) (t := 0) dX0_itemsWith_17 rfl rfl ?_
    refine mK_icmp_ge (tgt := 47) dX0_itemsWith_18 rfl (by decide) (fun c2 => ?_) (fun c2 => ?_)
    · refine mK_lload_n dX0_itemsWith_47 rfl rfl (.tail _ (.tail _ (.tail _ (.head _)))) ?_
      exact mK_lret dX0_itemsWith_48 rfl ((h.2 c1).1 c2)
    · refine mK_lload_n dX0_itemsWith_21 rfl rfl (.tail _ (.tail _ (.tail _ (.head _)))) ?_
      refine mK_aload_n dX0_itemsWith_22 rfl rfl (.tail _ (.head _)) ?_
      refine mK_iload dX0_itemsWith_23 rfl (.tail _ (.tail _ (.tail _ (.tail _ (.head _))))) ?_
      refine ru_iald (n := 40) dX0_itemsWith_25 rfl rfl (((h.2 c1).2 c2).1) ?_
      refine mK_iload_n dX0_itemsWith_26 rfl rfl (.tail _ (.tail _ (.head _))) ?_
      refine ru_icmp_ne (tgt := 38) dX0_itemsWith_27 rfl (by decide) (fun c3 => ?_) (fun c3 => ?_)
      · refine mK_lconst dX0_itemsWith_38 rfl (v := 0) rfl ?_
        refine mK_lor dX0_itemsWith_39 rfl ?_
        refine ru_lstore_n (lv1 := [(0, .ref 5), (1, .ref 9), (2, .int x2), (3, .long (x3 ||| 0)), (5, .int x5)]) dX0_itemsWith_40 rfl rfl (by decide) rfl ?_
        refine ru_iinc (lv1 := [(0, .ref 5), (1, .ref 9), (2, .int x2), (3, .long (x3 ||| 0)), (5, .int (x5 + 1))]) dX0_itemsWith_41 rfl (.tail _ (.tail _ (.tail _ (.tail _ (.head _))))) qic_1 (by decide) rfl ?_
        refine mK_goto (tgt := 5) dX0_itemsWith_44 (by decide) ?_
        exact (((h.2 c1).2 c2).2.2 c3)
      · refine mK_iload dX0_itemsWith_30 rfl (.tail _ (.tail _ (.tail _ (.tail _ (.head _))))) ?_
        refine mK_invSN (J := M_X7_bit) (k := 1) (as := [.int x5]) (st := [.long x3]) (c1 := 0) (s1 := 0) dX0_itemsWith_32 rfl jw_X7_bit jn_X7_bit rfl (Nat.le_of_ble_eq_true rfl) (Nat.zero_le _) (Nat.zero_le _) rfl kn_634 kw_612 ?_
        refine S_X7_bit x5 ?_
        show mK Γ M_X0_itemsWith (d + 2) Q n0 bc bs 35 [(0, .ref 5), (1, .ref 9), (2, .int x2), (3, .long x3), (5, .int x5)] [.long (f_X7_bit σ x5), .long x3] 60 mSH σ
        refine mK_goto (tgt := 39) dX0_itemsWith_35 (by decide) ?_
        refine mK_lor dX0_itemsWith_39 rfl ?_
        refine ru_lstore_n (lv1 := [(0, .ref 5), (1, .ref 9), (2, .int x2), (3, .long (x3 ||| (f_X7_bit σ x5))), (5, .int x5)]) dX0_itemsWith_40 rfl rfl (by decide) rfl ?_
        refine ru_iinc (lv1 := [(0, .ref 5), (1, .ref 9), (2, .int x2), (3, .long (x3 ||| (f_X7_bit σ x5))), (5, .int (x5 + 1))]) dX0_itemsWith_41 rfl (.tail _ (.tail _ (.tail _ (.tail _ (.head _))))) qic_1 (by decide) rfl ?_
        refine mK_goto (tgt := 5) dX0_itemsWith_44 (by decide) ?_
        exact (((h.2 c1).2 c2).2.1 c3)
set_option maxRecDepth 20000 in
theorem E_X0_itemsWith_5_10 {Γ : Nat × (Nat → Int32)} {d : Nat} {Q : mQ} {σ : mS} (a2 : Int32) (h : mK Γ M_X0_itemsWith (d + 2) Q 60 0 0 5 [(0, .ref 5), (1, .ref 10), (2, .int a2), (3, .long 0), (5, .int 0)] [] 60 mSH σ) : mCall Γ M_X0_itemsWith (d + 2) 0 0 [.ref 5, .ref 10, .int a2] 60 mSH σ Q := by
  refine mCall_of rfl (by decide) (Nat.le_of_ble_eq_true rfl) (mOkC (mOk_lo (Nat.le_of_ble_eq_true rfl)) (mOkC (mOk_lo (Nat.le_of_ble_eq_true rfl)) (mOkC mOk_i mOkN))) ?_
  show mK Γ M_X0_itemsWith (d + 2) Q 60 0 0 0 [(0, .ref 5), (1, .ref 10), (2, .int a2)] [] 60 mSH σ
  refine mK_lconst dX0_itemsWith_0 rfl (v := 0) rfl ?_
  refine ru_lstore_n (lv1 := [(0, .ref 5), (1, .ref 10), (2, .int a2), (3, .long 0)]) dX0_itemsWith_1 rfl rfl (by decide) rfl ?_
  refine mK_iconst dX0_itemsWith_2 rfl qic_0 ?_
  refine ru_istore (lv1 := [(0, .ref 5), (1, .ref 10), (2, .int a2), (3, .long 0), (5, .int 0)]) dX0_itemsWith_3 rfl (by decide) rfl ?_
  exact h
set_option maxRecDepth 20000 in
theorem T_X0_itemsWith_5_10_5 {Γ : Nat × (Nat → Int32)} {d n0 bc bs : Nat} {Q : mQ} {σ : mS} (x2 : Int32) (x3 : Int64) (x5 : Int32) (h : (((σ.1 5 10) ≤ x5 → Q (.inl (some (.long x3))) 60 mSH σ) ∧ (¬ ((σ.1 5 10) ≤ x5) → ((40 ≤ x5 → Q (.inl (some (.long x3))) 60 mSH σ) ∧ (¬ (40 ≤ x5) → ((vp_in x5 40) ∧ (((σ.1 10 (x5).toNatClampNeg) = x2 → mK Γ M_X0_itemsWith (d + 2) Q n0 bc bs 5 [(0, .ref 5), (1, .ref 10), (2, .int x2), (3, .long (x3 ||| (f_X7_bit σ x5))), (5, .int (x5 + 1))] [] 60 mSH σ) ∧ (¬ ((σ.1 10 (x5).toNatClampNeg) = x2) → mK Γ M_X0_itemsWith (d + 2) Q n0 bc bs 5 [(0, .ref 5), (1, .ref 10), (2, .int x2), (3, .long (x3 ||| 0)), (5, .int (x5 + 1))] [] 60 mSH σ)))))))) : mK Γ M_X0_itemsWith (d + 2) Q n0 bc bs 5 [(0, .ref 5), (1, .ref 10), (2, .int x2), (3, .long x3), (5, .int x5)] [] 60 mSH σ := by
  refine mK_iload dX0_itemsWith_5 rfl (.tail _ (.tail _ (.tail _ (.tail _ (.head _))))) ?_
  refine mK_aload_n dX0_itemsWith_7 rfl rfl (.head _) ?_
  refine ru_getI (k := 10) (ci := 0) dX0_itemsWith_8 rfl rfl kw_152 ?_
  refine mK_icmp_ge (tgt := 47) dX0_itemsWith_11 rfl (by decide) (fun c1 => ?_) (fun c1 => ?_)
  · refine mK_lload_n dX0_itemsWith_47 rfl rfl (.tail _ (.tail _ (.tail _ (.head _)))) ?_
    exact mK_lret dX0_itemsWith_48 rfl (h.1 c1)
  · refine mK_iload dX0_itemsWith_14 rfl (.tail _ (.tail _ (.tail _ (.tail _ (.head _))))) ?_
    refine mK_aload_n dX0_itemsWith_16 rfl rfl (.tail _ (.head _)) ?_
    refine ru_alen (n := 40) (t := 0) dX0_itemsWith_17 rfl rfl ?_
    refine mK_icmp_ge (tgt := 47) dX0_itemsWith_18 rfl (by decide) (fun c2 => ?_) (fun c2 => ?_)
    · refine mK_lload_n dX0_itemsWith_47 rfl rfl (.tail _ (.tail _ (.tail _ (.head _)))) ?_
      exact mK_lret dX0_itemsWith_48 rfl ((h.2 c1).1 c2)
    · refine mK_lload_n dX0_itemsWith_21 rfl rfl (.tail _ (.tail _ (.tail _ (.head _)))) ?_
      refine mK_aload_n dX0_itemsWith_22 rfl rfl (.tail _ (.head _)) ?_
      refine mK_iload dX0_itemsWith_23 rfl (.tail _ (.tail _ (.tail _ (.tail _ (.head _))))) ?_
      refine ru_iald (n := 40) dX0_itemsWith_25 rfl rfl (((h.2 c1).2 c2).1) ?_
      refine mK_iload_n dX0_itemsWith_26 rfl rfl (.tail _ (.tail _ (.head _))) ?_
      refine ru_icmp_ne (tgt := 38) dX0_itemsWith_27 rfl (by decide) (fun c3 => ?_) (fun c3 => ?_)
      · refine mK_lconst dX0_itemsWith_38 rfl (v := 0) rfl ?_
        refine mK_lor dX0_itemsWith_39 rfl ?_
        refine ru_lstore_n (lv1 := [(0, .ref 5), (1, .ref 10), (2, .int x2), (3, .long (x3 ||| 0)), (5, .int x5)]) dX0_itemsWith_40 rfl rfl (by decide) rfl ?_
        refine ru_iinc (lv1 := [(0, .ref 5), (1, .ref 10), (2, .int x2), (3, .long (x3 ||| 0)), (5, .int (x5 + 1))]) dX0_itemsWith_41 rfl (.tail _ (.tail _ (.tail _ (.tail _ (.head _))))) qic_1 (by decide) rfl ?_
        refine mK_goto (tgt := 5) dX0_itemsWith_44 (by decide) ?_
        exact (((h.2 c1).2 c2).2.2 c3)
      · refine mK_iload dX0_itemsWith_30 rfl (.tail _ (.tail _ (.tail _ (.tail _ (.head _))))) ?_
        refine mK_invSN (J := M_X7_bit) (k := 1) (as := [.int x5]) (st := [.long x3]) (c1 := 0) (s1 := 0) dX0_itemsWith_32 rfl jw_X7_bit jn_X7_bit rfl (Nat.le_of_ble_eq_true rfl) (Nat.zero_le _) (Nat.zero_le _) rfl kn_634 kw_612 ?_
        refine S_X7_bit x5 ?_
        show mK Γ M_X0_itemsWith (d + 2) Q n0 bc bs 35 [(0, .ref 5), (1, .ref 10), (2, .int x2), (3, .long x3), (5, .int x5)] [.long (f_X7_bit σ x5), .long x3] 60 mSH σ
        refine mK_goto (tgt := 39) dX0_itemsWith_35 (by decide) ?_
        refine mK_lor dX0_itemsWith_39 rfl ?_
        refine ru_lstore_n (lv1 := [(0, .ref 5), (1, .ref 10), (2, .int x2), (3, .long (x3 ||| (f_X7_bit σ x5))), (5, .int x5)]) dX0_itemsWith_40 rfl rfl (by decide) rfl ?_
        refine ru_iinc (lv1 := [(0, .ref 5), (1, .ref 10), (2, .int x2), (3, .long (x3 ||| (f_X7_bit σ x5))), (5, .int (x5 + 1))]) dX0_itemsWith_41 rfl (.tail _ (.tail _ (.tail _ (.tail _ (.head _))))) qic_1 (by decide) rfl ?_
        refine mK_goto (tgt := 5) dX0_itemsWith_44 (by decide) ?_
        exact (((h.2 c1).2 c2).2.1 c3)
set_option maxRecDepth 20000 in
theorem E_X0_itemsWith_5_13 {Γ : Nat × (Nat → Int32)} {d : Nat} {Q : mQ} {σ : mS} (a2 : Int32) (h : mK Γ M_X0_itemsWith (d + 2) Q 60 0 0 5 [(0, .ref 5), (1, .ref 13), (2, .int a2), (3, .long 0), (5, .int 0)] [] 60 mSH σ) : mCall Γ M_X0_itemsWith (d + 2) 0 0 [.ref 5, .ref 13, .int a2] 60 mSH σ Q := by
  refine mCall_of rfl (by decide) (Nat.le_of_ble_eq_true rfl) (mOkC (mOk_lo (Nat.le_of_ble_eq_true rfl)) (mOkC (mOk_lo (Nat.le_of_ble_eq_true rfl)) (mOkC mOk_i mOkN))) ?_
  show mK Γ M_X0_itemsWith (d + 2) Q 60 0 0 0 [(0, .ref 5), (1, .ref 13), (2, .int a2)] [] 60 mSH σ
  refine mK_lconst dX0_itemsWith_0 rfl (v := 0) rfl ?_
  refine ru_lstore_n (lv1 := [(0, .ref 5), (1, .ref 13), (2, .int a2), (3, .long 0)]) dX0_itemsWith_1 rfl rfl (by decide) rfl ?_
  refine mK_iconst dX0_itemsWith_2 rfl qic_0 ?_
  refine ru_istore (lv1 := [(0, .ref 5), (1, .ref 13), (2, .int a2), (3, .long 0), (5, .int 0)]) dX0_itemsWith_3 rfl (by decide) rfl ?_
  exact h
set_option maxRecDepth 20000 in
theorem T_X0_itemsWith_5_13_5 {Γ : Nat × (Nat → Int32)} {d n0 bc bs : Nat} {Q : mQ} {σ : mS} (x2 : Int32) (x3 : Int64) (x5 : Int32) (h : (((σ.1 5 10) ≤ x5 → Q (.inl (some (.long x3))) 60 mSH σ) ∧ (¬ ((σ.1 5 10) ≤ x5) → ((40 ≤ x5 → Q (.inl (some (.long x3))) 60 mSH σ) ∧ (¬ (40 ≤ x5) → ((vp_in x5 40) ∧ (((σ.1 13 (x5).toNatClampNeg) = x2 → mK Γ M_X0_itemsWith (d + 2) Q n0 bc bs 5 [(0, .ref 5), (1, .ref 13), (2, .int x2), (3, .long (x3 ||| (f_X7_bit σ x5))), (5, .int (x5 + 1))] [] 60 mSH σ) ∧ (¬ ((σ.1 13 (x5).toNatClampNeg) = x2) → mK Γ M_X0_itemsWith (d + 2) Q n0 bc bs 5 [(0, .ref 5), (1, .ref 13), (2, .int x2), (3, .long (x3 ||| 0)), (5, .int (x5 + 1))] [] 60 mSH σ)))))))) : mK Γ M_X0_itemsWith (d + 2) Q n0 bc bs 5 [(0, .ref 5), (1, .ref 13), (2, .int x2), (3, .long x3), (5, .int x5)] [] 60 mSH σ := by
  refine mK_iload dX0_itemsWith_5 rfl (.tail _ (.tail _ (.tail _ (.tail _ (.head _))))) ?_
  refine mK_aload_n dX0_itemsWith_7 rfl rfl (.head _) ?_
  refine ru_getI (k := 10) (ci := 0) dX0_itemsWith_8 rfl rfl kw_152 ?_
  refine mK_icmp_ge (tgt := 47) dX0_itemsWith_11 rfl (by decide) (fun c1 => ?_) (fun c1 => ?_)
  · refine mK_lload_n dX0_itemsWith_47 rfl rfl (.tail _ (.tail _ (.tail _ (.head _)))) ?_
    exact mK_lret dX0_itemsWith_48 rfl (h.1 c1)
  · refine mK_iload dX0_itemsWith_14 rfl (.tail _ (.tail _ (.tail _ (.tail _ (.head _))))) ?_
    refine mK_aload_n dX0_itemsWith_16 rfl rfl (.tail _ (.head _)) ?_
    refine ru_alen (n := 40) (t := 0) dX0_itemsWith_17 rfl rfl ?_
    refine mK_icmp_ge (tgt := 47) dX0_itemsWith_18 rfl (by decide) (fun c2 => ?_) (fun c2 => ?_)
    · refine mK_lload_n dX0_itemsWith_47 rfl rfl (.tail _ (.tail _ (.tail _ (.head _)))) ?_
      exact mK_lret dX0_itemsWith_48 rfl ((h.2 c1).1 c2)
    · refine mK_lload_n dX0_itemsWith_21 rfl rfl (.tail _ (.tail _ (.tail _ (.head _)))) ?_
      refine mK_aload_n dX0_itemsWith_22 rfl rfl (.tail _ (.head _)) ?_
      refine mK_iload dX0_itemsWith_23 rfl (.tail _ (.tail _ (.tail _ (.tail _ (.head _))))) ?_
      refine ru_iald (n := 40) dX0_itemsWith_25 rfl rfl (((h.2 c1).2 c2).1) ?_
      refine mK_iload_n dX0_itemsWith_26 rfl rfl (.tail _ (.tail _ (.head _))) ?_
      refine ru_icmp_ne (tgt := 38) dX0_itemsWith_27 rfl (by decide) (fun c3 => ?_) (fun c3 => ?_)
      · refine mK_lconst dX0_itemsWith_38 rfl (v := 0) rfl ?_
        refine mK_lor dX0_itemsWith_39 rfl ?_
        refine ru_lstore_n (lv1 := [(0, .ref 5), (1, .ref 13), (2, .int x2), (3, .long (x3 ||| 0)), (5, .int x5)]) dX0_itemsWith_40 rfl rfl (by decide) rfl ?_
        refine ru_iinc (lv1 := [(0, .ref 5), (1, .ref 13), (2, .int x2), (3, .long (x3 ||| 0)), (5, .int (x5 + 1))]) dX0_itemsWith_41 rfl (.tail _ (.tail _ (.tail _ (.tail _ (.head _))))) qic_1 (by decide) rfl ?_
        refine mK_goto (tgt := 5) dX0_itemsWith_44 (by decide) ?_
        exact (((h.2 c1).2 c2).2.2 c3)
      · refine mK_iload dX0_itemsWith_30 rfl (.tail _ (.tail _ (.tail _ (.tail _ (.head _))))) ?_
        refine mK_invSN (J := M_X7_bit) (k := 1) (as := [.int x5]) (st := [.long x3]) (c1 := 0) (s1 := 0) dX0_itemsWith_32 rfl jw_X7_bit jn_X7_bit rfl (Nat.le_of_ble_eq_true rfl) (Nat.zero_le _) (Nat.zero_le _) rfl kn_634 kw_612 ?_
        refine S_X7_bit x5 ?_
        show mK Γ M_X0_itemsWith (d + 2) Q n0 bc bs 35 [(0, .ref 5), (1, .ref 13), (2, .int x2), (3, .long x3), (5, .int x5)] [.long (f_X7_bit σ x5), .long x3] 60 mSH σ
        refine mK_goto (tgt := 39) dX0_itemsWith_35 (by decide) ?_
        refine mK_lor dX0_itemsWith_39 rfl ?_
        refine ru_lstore_n (lv1 := [(0, .ref 5), (1, .ref 13), (2, .int x2), (3, .long (x3 ||| (f_X7_bit σ x5))), (5, .int x5)]) dX0_itemsWith_40 rfl rfl (by decide) rfl ?_
        refine ru_iinc (lv1 := [(0, .ref 5), (1, .ref 13), (2, .int x2), (3, .long (x3 ||| (f_X7_bit σ x5))), (5, .int (x5 + 1))]) dX0_itemsWith_41 rfl (.tail _ (.tail _ (.tail _ (.tail _ (.head _))))) qic_1 (by decide) rfl ?_
        refine mK_goto (tgt := 5) dX0_itemsWith_44 (by decide) ?_
        exact (((h.2 c1).2 c2).2.1 c3)
set_option maxRecDepth 20000 in
theorem E_X0_itemsWithin_5 {Γ : Nat × (Nat → Int32)} {d : Nat} {Q : mQ} {σ : mS} (a1 : Int32) (h : mK Γ M_X0_itemsWithin (d + 4) Q 60 0 0 5 [(0, .ref 5), (1, .int a1), (2, .long 0), (4, .int 0)] [] 60 mSH σ) : mCall Γ M_X0_itemsWithin (d + 4) 0 0 [.ref 5, .int a1] 60 mSH σ Q := by
  refine mCall_of rfl (by decide) (Nat.le_of_ble_eq_true rfl) (mOkC (mOk_lo (Nat.le_of_ble_eq_true rfl)) (mOkC mOk_i mOkN)) ?_
  show mK Γ M_X0_itemsWithin (d + 4) Q 60 0 0 0 [(0, .ref 5), (1, .int a1)] [] 60 mSH σ
  refine mK_lconst dX0_itemsWithin_0 rfl (v := 0) rfl ?_
  refine ru_lstore_n (lv1 := [(0, .ref 5), (1, .int a1), (2, .long 0)]) dX0_itemsWithin_1 rfl rfl (by decide) rfl ?_
  refine mK_iconst dX0_itemsWithin_2 rfl qic_0 ?_
  refine ru_istore (lv1 := [(0, .ref 5), (1, .int a1), (2, .long 0), (4, .int 0)]) dX0_itemsWithin_3 rfl (by decide) rfl ?_
  exact h
set_option maxRecDepth 20000 in
theorem T_X0_itemsWithin_5_5 {Γ : Nat × (Nat → Int32)} {d n0 bc bs : Nat} {Q : mQ} {σ : mS} (x1 : Int32) (x2 : Int64) (x4 : Int32) (h : (((σ.1 5 10) ≤ x4 → Q (.inl (some (.long x2))) 60 mSH σ) ∧ (¬ ((σ.1 5 10) ≤ x4) → ((x1 < (f_X0_leastForceOn_5 σ x4) → mK Γ M_X0_itemsWithin (d + 4) Q n0 bc bs 5 [(0, .ref 5), (1, .int x1), (2, .long (x2 ||| 0)), (4, .int (x4 + 1))] [] 60 mSH σ) ∧ (¬ (x1 < (f_X0_leastForceOn_5 σ x4)) → mK Γ M_X0_itemsWithin (d + 4) Q n0 bc bs 5 [(0, .ref 5), (1, .int x1), (2, .long (x2 ||| (f_X7_bit σ x4))), (4, .int (x4 + 1))] [] 60 mSH σ))))) : mK Γ M_X0_itemsWithin (d + 4) Q n0 bc bs 5 [(0, .ref 5), (1, .int x1), (2, .long x2), (4, .int x4)] [] 60 mSH σ := by
  refine mK_iload dX0_itemsWithin_5 rfl (.tail _ (.tail _ (.tail _ (.head _)))) ?_
  refine mK_aload_n dX0_itemsWithin_7 rfl rfl (.head _) ?_
  refine ru_getI (k := 10) (ci := 0) dX0_itemsWithin_8 rfl rfl kw_152 ?_
  refine mK_icmp_ge (tgt := 42) dX0_itemsWithin_11 rfl (by decide) (fun c1 => ?_) (fun c1 => ?_)
  · refine mK_lload_n dX0_itemsWithin_42 rfl rfl (.tail _ (.tail _ (.head _))) ?_
    exact mK_lret dX0_itemsWithin_43 rfl (h.1 c1)
  · refine mK_lload_n dX0_itemsWithin_14 rfl rfl (.tail _ (.tail _ (.head _))) ?_
    refine mK_aload_n dX0_itemsWithin_15 rfl rfl (.head _) ?_
    refine mK_iload dX0_itemsWithin_16 rfl (.tail _ (.tail _ (.tail _ (.head _)))) ?_
    refine mK_invV (J := M_X0_leastForceOn) (k := 1) (as := [.int x4]) (st := [.long x2]) (c1 := 0) (s1 := 0) dX0_itemsWithin_18 rfl jw_X0_leastForceOn jn_X0_leastForceOn rfl (Nat.le_of_ble_eq_true rfl) (Nat.zero_le _) (Nat.zero_le _) rfl kw_557 kw_558 kw_559 (b := 5) (Nat.le_of_ble_eq_true rfl) (Nat.le_of_ble_eq_true rfl) rfl ?_
    refine S_X0_leastForceOn_5 x4 ?_
    show mK Γ M_X0_itemsWithin (d + 4) Q n0 bc bs 21 [(0, .ref 5), (1, .int x1), (2, .long x2), (4, .int x4)] [.int (f_X0_leastForceOn_5 σ x4), .long x2] 60 mSH σ
    refine mK_iload_n dX0_itemsWithin_21 rfl rfl (.tail _ (.head _)) ?_
    refine mK_icmp_gt (tgt := 33) dX0_itemsWithin_22 rfl (by decide) (fun c2 => ?_) (fun c2 => ?_)
    · refine mK_lconst dX0_itemsWithin_33 rfl (v := 0) rfl ?_
      refine mK_lor dX0_itemsWithin_34 rfl ?_
      refine ru_lstore_n (lv1 := [(0, .ref 5), (1, .int x1), (2, .long (x2 ||| 0)), (4, .int x4)]) dX0_itemsWithin_35 rfl rfl (by decide) rfl ?_
      refine ru_iinc (lv1 := [(0, .ref 5), (1, .int x1), (2, .long (x2 ||| 0)), (4, .int (x4 + 1))]) dX0_itemsWithin_36 rfl (.tail _ (.tail _ (.tail _ (.head _)))) qic_1 (by decide) rfl ?_
      refine mK_goto (tgt := 5) dX0_itemsWithin_39 (by decide) ?_
      exact ((h.2 c1).1 c2)
    · refine mK_iload dX0_itemsWithin_25 rfl (.tail _ (.tail _ (.tail _ (.head _)))) ?_
      refine mK_invSN (J := M_X7_bit) (k := 1) (as := [.int x4]) (st := [.long x2]) (c1 := 0) (s1 := 0) dX0_itemsWithin_27 rfl jw_X7_bit jn_X7_bit rfl (Nat.le_of_ble_eq_true rfl) (Nat.zero_le _) (Nat.zero_le _) rfl kn_634 kw_612 ?_
      refine S_X7_bit x4 ?_
      show mK Γ M_X0_itemsWithin (d + 4) Q n0 bc bs 30 [(0, .ref 5), (1, .int x1), (2, .long x2), (4, .int x4)] [.long (f_X7_bit σ x4), .long x2] 60 mSH σ
      refine mK_goto (tgt := 34) dX0_itemsWithin_30 (by decide) ?_
      refine mK_lor dX0_itemsWithin_34 rfl ?_
      refine ru_lstore_n (lv1 := [(0, .ref 5), (1, .int x1), (2, .long (x2 ||| (f_X7_bit σ x4))), (4, .int x4)]) dX0_itemsWithin_35 rfl rfl (by decide) rfl ?_
      refine ru_iinc (lv1 := [(0, .ref 5), (1, .int x1), (2, .long (x2 ||| (f_X7_bit σ x4))), (4, .int (x4 + 1))]) dX0_itemsWithin_36 rfl (.tail _ (.tail _ (.tail _ (.head _)))) qic_1 (by decide) rfl ?_
      refine mK_goto (tgt := 5) dX0_itemsWithin_39 (by decide) ?_
      exact ((h.2 c1).2 c2)
