set_option maxRecDepth 20000 in
theorem E_X4_scoreOf_16 {Γ : Nat × (Nat → Int32)} {d : Nat} {Q : mQ} {σ : mS} (a1 : Int32) (h : mK Γ M_X4_scoreOf (d + 4) Q 60 0 0 14 [(0, .ref 16), (1, .int a1), (2, .int ((f_X0_timeOf_5 σ a1) / 60)), (3, .int 0)] [] 60 mSH σ) : mCall Γ M_X4_scoreOf (d + 4) 0 0 [.ref 16, .int a1] 60 mSH σ Q := by
  refine mCall_of rfl (by decide) (Nat.le_of_ble_eq_true rfl) (mOkC (mOk_lo (Nat.le_of_ble_eq_true rfl)) (mOkC mOk_i mOkN)) ?_
  show mK Γ M_X4_scoreOf (d + 4) Q 60 0 0 0 [(0, .ref 16), (1, .int a1)] [] 60 mSH σ
  refine mK_aload_n dX4_scoreOf_0 rfl rfl (.head _) ?_
  refine ru_getR (k := 0) (ci := 3) (a := 5) dX4_scoreOf_1 rfl rfl rfl kw_200 ?_
  refine mK_iload_n dX4_scoreOf_4 rfl rfl (.tail _ (.head _)) ?_
  refine mK_invV (J := M_X0_timeOf) (k := 1) (as := [.int a1]) (st := []) (c1 := 0) (s1 := 0) dX4_scoreOf_5 rfl jw_X0_timeOf jn_X0_timeOf rfl (Nat.le_of_ble_eq_true rfl) (Nat.zero_le _) (Nat.zero_le _) rfl kw_706 kw_538 kw_539 (b := 5) (Nat.le_of_ble_eq_true rfl) (Nat.le_of_ble_eq_true rfl) rfl ?_
  refine S_X0_timeOf_5 a1 ?_
  show mK Γ M_X4_scoreOf (d + 4) Q 60 0 0 8 [(0, .ref 16), (1, .int a1)] [.int (f_X0_timeOf_5 σ a1)] 60 mSH σ
  refine mK_bipush dX4_scoreOf_8 rfl qbi_60 ?_
  refine mK_idiv dX4_scoreOf_10 rfl (by decide) ?_
  refine ru_istore_n (lv1 := [(0, .ref 16), (1, .int a1), (2, .int ((f_X0_timeOf_5 σ a1) / 60))]) dX4_scoreOf_11 rfl rfl (by decide) rfl ?_
  refine mK_iconst dX4_scoreOf_12 rfl qic_0 ?_
  refine ru_istore_n (lv1 := [(0, .ref 16), (1, .int a1), (2, .int ((f_X0_timeOf_5 σ a1) / 60)), (3, .int 0)]) dX4_scoreOf_13 rfl rfl (by decide) rfl ?_
  exact h
set_option maxRecDepth 20000 in
theorem T_X4_scoreOf_16_14 {Γ : Nat × (Nat → Int32)} {d n0 bc bs : Nat} {Q : mQ} {σ : mS} (x1 : Int32) (x2 : Int32) (x3 : Int32) (h : (((f_X0_items_5 σ) ≤ x3 → Q (.inl (some (.int x2))) 60 mSH σ) ∧ (¬ ((f_X0_items_5 σ) ≤ x3) → (((f_X0_speakerOf_5 σ x3) = x1 → (((f_X0_speakerOf_5 σ (f_X0_targetOf_5 σ x3)) = x1 → mK Γ M_X4_scoreOf (d + 4) Q n0 bc bs 14 [(0, .ref 16), (1, .int x1), (2, .int ((x2 + (f_X4_worthOf_16 σ x3)) + (f_X4_helpOf_16 σ x3))), (3, .int (x3 + 1))] [] 60 mSH σ) ∧ (¬ ((f_X0_speakerOf_5 σ (f_X0_targetOf_5 σ x3)) = x1) → mK Γ M_X4_scoreOf (d + 4) Q n0 bc bs 14 [(0, .ref 16), (1, .int x1), (2, .int (x2 + (f_X4_worthOf_16 σ x3))), (3, .int (x3 + 1))] [] 60 mSH σ))) ∧ (¬ ((f_X0_speakerOf_5 σ x3) = x1) → (((f_X0_speakerOf_5 σ (f_X0_targetOf_5 σ x3)) = x1 → mK Γ M_X4_scoreOf (d + 4) Q n0 bc bs 14 [(0, .ref 16), (1, .int x1), (2, .int (x2 + (f_X4_helpOf_16 σ x3))), (3, .int (x3 + 1))] [] 60 mSH σ) ∧ (¬ ((f_X0_speakerOf_5 σ (f_X0_targetOf_5 σ x3)) = x1) → mK Γ M_X4_scoreOf (d + 4) Q n0 bc bs 14 [(0, .ref 16), (1, .int x1), (2, .int x2), (3, .int (x3 + 1))] [] 60 mSH σ))))))) : mK Γ M_X4_scoreOf (d + 4) Q n0 bc bs 14 [(0, .ref 16), (1, .int x1), (2, .int x2), (3, .int x3)] [] 60 mSH σ := by
  refine mK_iload_n dX4_scoreOf_14 rfl rfl (.tail _ (.tail _ (.tail _ (.head _)))) ?_
  refine mK_aload_n dX4_scoreOf_15 rfl rfl (.head _) ?_
  refine ru_getR (k := 0) (ci := 3) (a := 5) dX4_scoreOf_16 rfl rfl rfl kw_200 ?_
  refine mK_invV (J := M_X0_items) (k := 0) (as := []) (st := [.int x3]) (c1 := 0) (s1 := 0) dX4_scoreOf_19 rfl jw_X0_items jn_X0_items rfl (Nat.le_of_ble_eq_true rfl) (Nat.zero_le _) (Nat.zero_le _) rfl kw_602 kw_529 kw_530 (b := 5) (Nat.le_of_ble_eq_true rfl) (Nat.le_of_ble_eq_true rfl) rfl ?_
  refine S_X0_items_5  ?_
  show mK Γ M_X4_scoreOf (d + 4) Q n0 bc bs 22 [(0, .ref 16), (1, .int x1), (2, .int x2), (3, .int x3)] [.int (f_X0_items_5 σ), .int x3] 60 mSH σ
  refine mK_icmp_ge (tgt := 78) dX4_scoreOf_22 rfl (by decide) (fun c1 => ?_) (fun c1 => ?_)
  · refine mK_iload_n dX4_scoreOf_78 rfl rfl (.tail _ (.tail _ (.head _))) ?_
    exact mK_iret dX4_scoreOf_79 rfl (h.1 c1)
  · refine mK_aload_n dX4_scoreOf_25 rfl rfl (.head _) ?_
    refine ru_getR (k := 0) (ci := 3) (a := 5) dX4_scoreOf_26 rfl rfl rfl kw_200 ?_
    refine mK_iload_n dX4_scoreOf_29 rfl rfl (.tail _ (.tail _ (.tail _ (.head _)))) ?_
    refine mK_invV (J := M_X0_speakerOf) (k := 1) (as := [.int x3]) (st := []) (c1 := 0) (s1 := 0) dX4_scoreOf_30 rfl jw_X0_speakerOf jn_X0_speakerOf rfl (Nat.le_of_ble_eq_true rfl) (Nat.zero_le _) (Nat.zero_le _) rfl kw_707 kw_585 kw_586 (b := 5) (Nat.le_of_ble_eq_true rfl) (Nat.le_of_ble_eq_true rfl) rfl ?_
    refine S_X0_speakerOf_5 x3 ?_
    show mK Γ M_X4_scoreOf (d + 4) Q n0 bc bs 33 [(0, .ref 16), (1, .int x1), (2, .int x2), (3, .int x3)] [.int (f_X0_speakerOf_5 σ x3)] 60 mSH σ
    refine mK_iload_n dX4_scoreOf_33 rfl rfl (.tail _ (.head _)) ?_
    refine ru_icmp_ne (tgt := 45) dX4_scoreOf_34 rfl (by decide) (fun c2 => ?_) (fun c2 => ?_)
    · refine mK_aload_n dX4_scoreOf_45 rfl rfl (.head _) ?_
      refine ru_getR (k := 0) (ci := 3) (a := 5) dX4_scoreOf_46 rfl rfl rfl kw_200 ?_
      refine mK_aload_n dX4_scoreOf_49 rfl rfl (.head _) ?_
      refine ru_getR (k := 0) (ci := 3) (a := 5) dX4_scoreOf_50 rfl rfl rfl kw_200 ?_
      refine mK_iload_n dX4_scoreOf_53 rfl rfl (.tail _ (.tail _ (.tail _ (.head _)))) ?_
      refine mK_invV (J := M_X0_targetOf) (k := 1) (as := [.int x3]) (st := [.ref 5]) (c1 := 0) (s1 := 0) dX4_scoreOf_54 rfl jw_X0_targetOf jn_X0_targetOf rfl (Nat.le_of_ble_eq_true rfl) (Nat.zero_le _) (Nat.zero_le _) rfl kw_607 kw_608 kw_609 (b := 5) (Nat.le_of_ble_eq_true rfl) (Nat.le_of_ble_eq_true rfl) rfl ?_
      refine S_X0_targetOf_5 x3 ?_
      show mK Γ M_X4_scoreOf (d + 4) Q n0 bc bs 57 [(0, .ref 16), (1, .int x1), (2, .int x2), (3, .int x3)] [.int (f_X0_targetOf_5 σ x3), .ref 5] 60 mSH σ
      refine mK_invV (J := M_X0_speakerOf) (k := 1) (as := [.int (f_X0_targetOf_5 σ x3)]) (st := []) (c1 := 0) (s1 := 0) dX4_scoreOf_57 rfl jw_X0_speakerOf jn_X0_speakerOf rfl (Nat.le_of_ble_eq_true rfl) (Nat.zero_le _) (Nat.zero_le _) rfl kw_707 kw_585 kw_586 (b := 5) (Nat.le_of_ble_eq_true rfl) (Nat.le_of_ble_eq_true rfl) rfl ?_
      refine S_X0_speakerOf_5 (f_X0_targetOf_5 σ x3) ?_
      show mK Γ M_X4_scoreOf (d + 4) Q n0 bc bs 60 [(0, .ref 16), (1, .int x1), (2, .int x2), (3, .int x3)] [.int (f_X0_speakerOf_5 σ (f_X0_targetOf_5 σ x3))] 60 mSH σ
      refine mK_iload_n dX4_scoreOf_60 rfl rfl (.tail _ (.head _)) ?_
      refine ru_icmp_ne (tgt := 72) dX4_scoreOf_61 rfl (by decide) (fun c3 => ?_) (fun c3 => ?_)
      · refine ru_iinc (lv1 := [(0, .ref 16), (1, .int x1), (2, .int x2), (3, .int (x3 + 1))]) dX4_scoreOf_72 rfl (.tail _ (.tail _ (.tail _ (.head _)))) qic_1 (by decide) rfl ?_
        refine mK_goto (tgt := 14) dX4_scoreOf_75 (by decide) ?_
        exact (((h.2 c1).2 c2).2 c3)
      · refine mK_iload_n dX4_scoreOf_64 rfl rfl (.tail _ (.tail _ (.head _))) ?_
        refine mK_aload_n dX4_scoreOf_65 rfl rfl (.head _) ?_
        refine mK_iload_n dX4_scoreOf_66 rfl rfl (.tail _ (.tail _ (.tail _ (.head _)))) ?_
        refine mK_invV (J := M_X4_helpOf) (k := 1) (as := [.int x3]) (st := [.int x2]) (c1 := 0) (s1 := 0) dX4_scoreOf_67 rfl jw_X4_helpOf jn_X4_helpOf rfl (Nat.le_of_ble_eq_true rfl) (Nat.zero_le _) (Nat.zero_le _) rfl kw_714 kw_716 kw_30 (b := 16) (Nat.le_of_ble_eq_true rfl) (Nat.le_of_ble_eq_true rfl) rfl ?_
        refine S_X4_helpOf_16 x3 ?_
        show mK Γ M_X4_scoreOf (d + 4) Q n0 bc bs 70 [(0, .ref 16), (1, .int x1), (2, .int x2), (3, .int x3)] [.int (f_X4_helpOf_16 σ x3), .int x2] 60 mSH σ
        refine mK_iadd dX4_scoreOf_70 rfl ?_
        refine ru_istore_n (lv1 := [(0, .ref 16), (1, .int x1), (2, .int (x2 + (f_X4_helpOf_16 σ x3))), (3, .int x3)]) dX4_scoreOf_71 rfl rfl (by decide) rfl ?_
        refine ru_iinc (lv1 := [(0, .ref 16), (1, .int x1), (2, .int (x2 + (f_X4_helpOf_16 σ x3))), (3, .int (x3 + 1))]) dX4_scoreOf_72 rfl (.tail _ (.tail _ (.tail _ (.head _)))) qic_1 (by decide) rfl ?_
        refine mK_goto (tgt := 14) dX4_scoreOf_75 (by decide) ?_
        exact (((h.2 c1).2 c2).1 c3)
    · refine mK_iload_n dX4_scoreOf_37 rfl rfl (.tail _ (.tail _ (.head _))) ?_
      refine mK_aload_n dX4_scoreOf_38 rfl rfl (.head _) ?_
      refine mK_iload_n dX4_scoreOf_39 rfl rfl (.tail _ (.tail _ (.tail _ (.head _)))) ?_
      refine mK_invV (J := M_X4_worthOf) (k := 1) (as := [.int x3]) (st := [.int x2]) (c1 := 0) (s1 := 0) dX4_scoreOf_40 rfl jw_X4_worthOf jn_X4_worthOf rfl (Nat.le_of_ble_eq_true rfl) (Nat.zero_le _) (Nat.zero_le _) rfl kw_708 kw_710 kw_29 (b := 16) (Nat.le_of_ble_eq_true rfl) (Nat.le_of_ble_eq_true rfl) rfl ?_
      refine S_X4_worthOf_16 x3 ?_
      show mK Γ M_X4_scoreOf (d + 4) Q n0 bc bs 43 [(0, .ref 16), (1, .int x1), (2, .int x2), (3, .int x3)] [.int (f_X4_worthOf_16 σ x3), .int x2] 60 mSH σ
      refine mK_iadd dX4_scoreOf_43 rfl ?_
      refine ru_istore_n (lv1 := [(0, .ref 16), (1, .int x1), (2, .int (x2 + (f_X4_worthOf_16 σ x3))), (3, .int x3)]) dX4_scoreOf_44 rfl rfl (by decide) rfl ?_
      refine mK_aload_n dX4_scoreOf_45 rfl rfl (.head _) ?_
      refine ru_getR (k := 0) (ci := 3) (a := 5) dX4_scoreOf_46 rfl rfl rfl kw_200 ?_
      refine mK_aload_n dX4_scoreOf_49 rfl rfl (.head _) ?_
      refine ru_getR (k := 0) (ci := 3) (a := 5) dX4_scoreOf_50 rfl rfl rfl kw_200 ?_
      refine mK_iload_n dX4_scoreOf_53 rfl rfl (.tail _ (.tail _ (.tail _ (.head _)))) ?_
      refine mK_invV (J := M_X0_targetOf) (k := 1) (as := [.int x3]) (st := [.ref 5]) (c1 := 0) (s1 := 0) dX4_scoreOf_54 rfl jw_X0_targetOf jn_X0_targetOf rfl (Nat.le_of_ble_eq_true rfl) (Nat.zero_le _) (Nat.zero_le _) rfl kw_607 kw_608 kw_609 (b := 5) (Nat.le_of_ble_eq_true rfl) (Nat.le_of_ble_eq_true rfl) rfl ?_
      refine S_X0_targetOf_5 x3 ?_
      show mK Γ M_X4_scoreOf (d + 4) Q n0 bc bs 57 [(0, .ref 16), (1, .int x1), (2, .int (x2 + (f_X4_worthOf_16 σ x3))), (3, .int x3)] [.int (f_X0_targetOf_5 σ x3), .ref 5] 60 mSH σ
      refine mK_invV (J := M_X0_speakerOf) (k := 1) (as := [.int (f_X0_targetOf_5 σ x3)]) (st := []) (c1 := 0) (s1 := 0) dX4_scoreOf_57 rfl jw_X0_speakerOf jn_X0_speakerOf rfl (Nat.le_of_ble_eq_true rfl) (Nat.zero_le _) (Nat.zero_le _) rfl kw_707 kw_585 kw_586 (b := 5) (Nat.le_of_ble_eq_true rfl) (Nat.le_of_ble_eq_true rfl) rfl ?_
      refine S_X0_speakerOf_5 (f_X0_targetOf_5 σ x3) ?_
      show mK Γ M_X4_scoreOf (d + 4) Q n0 bc bs 60 [(0, .ref 16), (1, .int x1), (2, .int (x2 + (f_X4_worthOf_16 σ x3))), (3, .int x3)] [.int (f_X0_speakerOf_5 σ (f_X0_targetOf_5 σ x3))] 60 mSH σ
      refine mK_iload_n dX4_scoreOf_60 rfl rfl (.tail _ (.head _)) ?_
      refine ru_icmp_ne (tgt := 72) dX4_scoreOf_61 rfl (by decide) (fun c4 => ?_) (fun c4 => ?_)
      · refine ru_iinc (lv1 := [(0, .ref 16), (1, .int x1), (2, .int (x2 + (f_X4_worthOf_16 σ x3))), (3, .int (x3 + 1))]) dX4_scoreOf_72 rfl (.tail _ (.tail _ (.tail _ (.head _)))) qic_1 (by decide) rfl ?_
        refine mK_goto (tgt := 14) dX4_scoreOf_75 (by decide) ?_
        exact (((h.2 c1).1 c2).2 c4)
      · refine mK_iload_n dX4_scoreOf_64 rfl rfl (.tail _ (.tail _ (.head _))) ?_
        refine mK_aload_n dX4_scoreOf_65 rfl rfl (.head _) ?_
        refine mK_iload_n dX4_scoreOf_66 rfl rfl (.tail _ (.tail _ (.tail _ (.head _)))) ?_
        refine mK_invV (J := M_X4_helpOf) (k := 1) (as := [.int x3]) (st := [.int (x2 + (f_X4_worthOf_16 σ x3))]) (c1 := 0) (s1 := 0) dX4_scoreOf_67 rfl jw_X4_helpOf jn_X4_helpOf rfl (Nat.le_of_ble_eq_true rfl) (Nat.zero_le _) (Nat.zero_le _) rfl kw_714 kw_716 kw_30 (b := 16) (Nat.le_of_ble_eq_true rfl) (Nat.le_of_ble_eq_true rfl) rfl ?_
        refine S_X4_helpOf_16 x3 ?_
        show mK Γ M_X4_scoreOf (d + 4) Q n0 bc bs 70 [(0, .ref 16), (1, .int x1), (2, .int (x2 + (f_X4_worthOf_16 σ x3))), (3, .int x3)] [.int (f_X4_helpOf_16 σ x3), .int (x2 + (f_X4_worthOf_16 σ x3))] 60 mSH σ
        refine mK_iadd dX4_scoreOf_70 rfl ?_
        refine ru_istore_n (lv1 := [(0, .ref 16), (1, .int x1), (2, .int ((x2 + (f_X4_worthOf_16 σ x3)) + (f_X4_helpOf_16 σ x3))), (3, .int x3)]) dX4_scoreOf_71 rfl rfl (by decide) rfl ?_
        refine ru_iinc (lv1 := [(0, .ref 16), (1, .int x1), (2, .int ((x2 + (f_X4_worthOf_16 σ x3)) + (f_X4_helpOf_16 σ x3))), (3, .int (x3 + 1))]) dX4_scoreOf_72 rfl (.tail _ (.tail _ (.tail _ (.head _)))) qic_1 (by decide) rfl ?_
        refine mK_goto (tgt := 14) dX4_scoreOf_75 (by decide) ?_
        exact (((h.2 c1).1 c2).1 c4)
set_option maxRecDepth 20000 in
theorem E_X4_scoreOf_18 {Γ : Nat × (Nat → Int32)} {d : Nat} {Q : mQ} {σ : mS} (a1 : Int32) (h : mK Γ M_X4_scoreOf (d + 4) Q 60 0 0 14 [(0, .ref 18), (1, .int a1), (2, .int ((f_X0_timeOf_5 σ a1) / 60)), (3, .int 0)] [] 60 mSH σ) : mCall Γ M_X4_scoreOf (d + 4) 0 0 [.ref 18, .int a1] 60 mSH σ Q := by
  refine mCall_of rfl (by decide) (Nat.le_of_ble_eq_true rfl) (mOkC (mOk_lo (Nat.le_of_ble_eq_true rfl)) (mOkC mOk_i mOkN)) ?_
  show mK Γ M_X4_scoreOf (d + 4) Q 60 0 0 0 [(0, .ref 18), (1, .int a1)] [] 60 mSH σ
  refine mK_aload_n dX4_scoreOf_0 rfl rfl (.head _) ?_
  refine ru_getR (k := 0) (ci := 3) (a := 5) dX4_scoreOf_1 rfl rfl rfl kw_200 ?_
  refine mK_iload_n dX4_scoreOf_4 rfl rfl (.tail _ (.head _)) ?_
  refine mK_invV (J := M_X0_timeOf) (k := 1) (as := [.int a1]) (st := []) (c1 := 0) (s1 := 0) dX4_scoreOf_5 rfl jw_X0_timeOf jn_X0_timeOf rfl (Nat.le_of_ble_eq_true rfl) (Nat.zero_le _) (Nat.zero_le _) rfl kw_706 kw_538 kw_539 (b := 5) (Nat.le_of_ble_eq_true rfl) (Nat.le_of_ble_eq_true rfl) rfl ?_
  refine S_X0_timeOf_5 a1 ?_
  show mK Γ M_X4_scoreOf (d + 4) Q 60 0 0 8 [(0, .ref 18), (1, .int a1)] [.int (f_X0_timeOf_5 σ a1)] 60 mSH σ
  refine mK_bipush dX4_scoreOf_8 rfl qbi_60 ?_
  refine mK_idiv dX4_scoreOf_10 rfl (by decide) ?_
  refine ru_istore_n (lv1 := [(0, .ref 18), (1, .int a1), (2, .int ((f_X0_timeOf_5 σ a1) / 60))]) dX4_scoreOf_11 rfl rfl (by decide) rfl ?_
  refine mK_iconst dX4_scoreOf_12 rfl qic_0 ?_
  refine ru_istore_n (lv1 := [(0, .ref 18), (1, .int a1), (2, .int ((f_X0_timeOf_5 σ a1) / 60)), (3, .int 0)]) dX4_scoreOf_13 rfl rfl (by decide) rfl ?_
  exact h
set_option maxRecDepth 20000 in
theorem T_X4_scoreOf_18_14 {Γ : Nat × (Nat → Int32)} {d n0 bc bs : Nat} {Q : mQ} {σ : mS} (x1 : Int32) (x2 : Int32) (x3 : Int32) (h : (((f_X0_items_5 σ) ≤ x3 → Q (.inl (some (.int x2))) 60 mSH σ) ∧ (¬ ((f_X0_items_5 σ) ≤ x3) → (((f_X0_speakerOf_5 σ x3) = x1 → (((f_X0_speakerOf_5 σ (f_X0_targetOf_5 σ x3)) = x1 → mK Γ M_X4_scoreOf (d + 4) Q n0 bc bs 14 [(0, .ref 18), (1, .int x1), (2, .int ((x2 + (f_X4_worthOf_18 σ x3)) + (f_X4_helpOf_18 σ x3))), (3, .int (x3 + 1))] [] 60 mSH σ) ∧ (¬ ((f_X0_speakerOf_5 σ (f_X0_targetOf_5 σ x3)) = x1) → mK Γ M_X4_scoreOf (d + 4) Q n0 bc bs 14 [(0, .ref 18), (1, .int x1), (2, .int (x2 + (f_X4_worthOf_18 σ x3))), (3, .int (x3 + 1))] [] 60 mSH σ))) ∧ (¬ ((f_X0_speakerOf_5 σ x3) = x1) → (((f_X0_speakerOf_5 σ (f_X0_targetOf_5 σ x3)) = x1 → mK Γ M_X4_scoreOf (d + 4) Q n0 bc bs 14 [(0, .ref 18), (1, .int x1), (2, .int (x2 + (f_X4_helpOf_18 σ x3))), (3, .int (x3 + 1))] [] 60 mSH σ) ∧ (¬ ((f_X0_speakerOf_5 σ (f_X0_targetOf_5 σ x3)) = x1) → mK Γ M_X4_scoreOf (d + 4) Q n0 bc bs 14 [(0, .ref 18), (1, .int x1), (2, .int x2), (3, .int (x3 + 1))] [] 60 mSH σ))))))) : mK Γ M_X4_scoreOf (d + 4) Q n0 bc bs 14 [(0, .ref 18), (1, .int x1), (2, .int x2), (3, .int x3)] [] 60 mSH σ := by
  refine mK_iload_n dX4_scoreOf_14 rfl rfl (.tail _ (.tail _ (.tail _ (.head _)))) ?_
  refine mK_aload_n dX4_scoreOf_15 rfl rfl (.head _) ?_
  refine ru_getR (k := 0) (ci := 3) (a := 5) dX4_scoreOf_16 rfl rfl rfl kw_200 ?_
  refine mK_invV (J := M_X0_items) (k := 0) (as := []) (st := [.int x3]) (c1 := 0) (s1 := 0) dX4_scoreOf_19 rfl jw_X0_items jn_X0_items rfl (Nat.le_of_ble_eq_true rfl) (Nat.zero_le _) (Nat.zero_le _) rfl kw_602 kw_529 kw_530 (b := 5) (Nat.le_of_ble_eq_true rfl) (Nat.le_of_ble_eq_true rfl) rfl ?_
  refine S_X0_items_5  ?_
  show mK Γ M_X4_scoreOf (d + 4) Q n0 bc bs 22 [(0, .ref 18), (1, .int x1), (2, .int x2), (3, .int x3)] [.int (f_X0_items_5 σ), .int x3] 60 mSH σ
  refine mK_icmp_ge (tgt := 78) dX4_scoreOf_22 rfl (by decide) (fun c1 => ?_) (fun c1 => ?_)
  · refine mK_iload_n dX4_scoreOf_78 rfl rfl (.tail _ (.tail _ (.head _))) ?_
    exact mK_iret dX4_scoreOf_79 rfl (h.1 c1)
  · refine mK_aload_n dX4_scoreOf_25 rfl rfl (.head _) ?_
    refine ru_getR (k := 0) (ci := 3) (a := 5) dX4_scoreOf_26 rfl rfl rfl kw_200 ?_
    refine mK_iload_n dX4_scoreOf_29 rfl rfl (.tail _ (.tail _ (.tail _ (.head _)))) ?_
    refine mK_invV (J := M_X0_speakerOf) (k := 1) (as := [.int x3]) (st := []) (c1 := 0) (s1 := 0) dX4_scoreOf_30 rfl jw_X0_speakerOf jn_X0_speakerOf rfl (Nat.le_of_ble_eq_true rfl) (Nat.zero_le _) (Nat.zero_le _) rfl kw_707 kw_585 kw_586 (b := 5) (Nat.le_of_ble_eq_true rfl) (Nat.le_of_ble_eq_true rfl) rfl ?_
    refine S_X0_speakerOf_5 x3 ?_
    show mK Γ M_X4_scoreOf (d + 4) Q n0 bc bs 33 [(0, .ref 18), (1, .int x1), (2, .int x2), (3, .int x3)] [.int (f_X0_speakerOf_5 σ x3)] 60 mSH σ
    refine mK_iload_n dX4_scoreOf_33 rfl rfl (.tail _ (.head _)) ?_
    refine ru_icmp_ne (tgt := 45) dX4_scoreOf_34 rfl (by decide) (fun c2 => ?_) (fun c2 => ?_)
    · refine mK_aload_n dX4_scoreOf_45 rfl rfl (.head _) ?_
      refine ru_getR (k := 0) (ci := 3) (a := 5) dX4_scoreOf_46 rfl rfl rfl kw_200 ?_
      refine mK_aload_n dX4_scoreOf_49 rfl rfl (.head _) ?_
      refine ru_getR (k := 0) (ci := 3) (a := 5) dX4_scoreOf_50 rfl rfl rfl kw_200 ?_
      refine mK_iload_n dX4_scoreOf_53 rfl rfl (.tail _ (.tail _ (.tail _ (.head _)))) ?_
      refine mK_invV (J := M_X0_targetOf) (k := 1) (as := [.int x3]) (st := [.ref 5]) (c1 := 0) (s1 := 0) dX4_scoreOf_54 rfl jw_X0_targetOf jn_X0_targetOf rfl (Nat.le_of_ble_eq_true rfl) (Nat.zero_le _) (Nat.zero_le _) rfl kw_607 kw_608 kw_609 (b := 5) (Nat.le_of_ble_eq_true rfl) (Nat.le_of_ble_eq_true rfl) rfl ?_
      refine S_X0_targetOf_5 x3 ?_
      show mK Γ M_X4_scoreOf (d + 4) Q n0 bc bs 57 [(0, .ref 18), (1, .int x1), (2, .int x2), (3, .int x3)] [.int (f_X0_targetOf_5 σ x3), .ref 5] 60 mSH σ
      refine mK_invV (J := M_X0_speakerOf) (k := 1) (as := [.int (f_X0_targetOf_5 σ x3)]) (st := []) (c1 := 0) (s1 := 0) dX4_scoreOf_57 rfl jw_X0_speakerOf jn_X0_speakerOf rfl (Nat.le_of_ble_eq_true rfl) (Nat.zero_le _) (Nat.zero_le _) rfl kw_707 kw_585 kw_586 (b := 5) (Nat.le_of_ble_eq_true rfl) (Nat.le_of_ble_eq_true rfl) rfl ?_
      refine S_X0_speakerOf_5 (f_X0_targetOf_5 σ x3) ?_
      show mK Γ M_X4_scoreOf (d + 4) Q n0 bc bs 60 [(0, .ref 18), (1, .int x1), (2, .int x2), (3, .int x3)] [.int (f_X0_speakerOf_5 σ (f_X0_targetOf_5 σ x3))] 60 mSH σ
      refine mK_iload_n dX4_scoreOf_60 rfl rfl (.tail _ (.head _)) ?_
      refine ru_icmp_ne (tgt := 72) dX4_scoreOf_61 rfl (by decide) (fun c3 => ?_) (fun c3 => ?_)
      · refine ru_iinc (lv1 := [(0, .ref 18), (1, .int x1), (2, .int x2), (3, .int (x3 + 1))]) dX4_scoreOf_72 rfl (.tail _ (.tail _ (.tail _ (.head _)))) qic_1 (by decide) rfl ?_
        refine mK_goto (tgt := 14) dX4_scoreOf_75 (by decide) ?_
        exact (((h.2 c1).2 c2).2 c3)
      · refine mK_iload_n dX4_scoreOf_64 rfl rfl (.tail _ (.tail _ (.head _))) ?_
        refine mK_aload_n dX4_scoreOf_65 rfl rfl (.head _) ?_
        refine mK_iload_n dX4_scoreOf_66 rfl rfl (.tail _ (.tail _ (.tail _ (.head _)))) ?_
        refine mK_invV (J := M_X4_helpOf) (k := 1) (as := [.int x3]) (st := [.int x2]) (c1 := 0) (s1 := 0) dX4_scoreOf_67 rfl jw_X4_helpOf jn_X4_helpOf rfl (Nat.le_of_ble_eq_true rfl) (Nat.zero_le _) (Nat.zero_le _) rfl kw_714 kw_716 kw_30 (b := 18) (Nat.le_of_ble_eq_true rfl) (Nat.le_of_ble_eq_true rfl) rfl ?_
        refine S_X4_helpOf_18 x3 ?_
        show mK Γ M_X4_scoreOf (d + 4) Q n0 bc bs 70 [(0, .ref 18), (1, .int x1), (2, .int x2), (3, .int x3)] [.int (f_X4_helpOf_18 σ x3), .int x2] 60 mSH σ
        refine mK_iadd dX4_scoreOf_70 rfl ?_
        refine ru_istore_n (lv1 := [(0, .ref 18), (1, .int x1), (2, .int (x2 + (f_X4_helpOf_18 σ x3))), (3, .int x3)]) dX4_scoreOf_71 rfl rfl (by decide) rfl ?_
        refine ru_iinc (lv1 := [(0, .ref 18), (1, .int x1), (2, .int (x2 + (f_X4_helpOf_18 σ x3))), (3, .int (x3 + 1))]) dX4_scoreOf_72 rfl (.tail _ (.tail _ (.tail _ (.head _)))) qic_1 (by decide) rfl ?_
        refine mK_goto (tgt := 14) dX4_scoreOf_75 (by decide) ?_
        exact (((h.2 c1).2 c2).1 c3)
    · refine mK_iload_n dX4_scoreOf_37 rfl rfl (.tail _ (.tail _ (.head _))) ?_
      refine mK_aload_n dX4_scoreOf_38 rfl rfl (.head _) ?_
      refine mK_iload_n dX4_scoreOf_39 rfl rfl (.tail _ (.tail _ (.tail _ (.head _)))) ?_
      refine mK_invV (J := M_X4_worthOf) (k := 1) (as := [.int x3]) (st := [.int x2]) (c1 := 0) (s1 := 0) dX4_scoreOf_40 rfl jw_X4_worthOf jn_X4_worthOf rfl (Nat.le_of_ble_eq_true rfl) (Nat.zero_le _) (Nat.zero_le _) rfl kw_708 kw_710 kw_29 (b := 18) (Nat.le_of_ble_eq_true rfl) (Nat.le_of_ble_eq_true rfl) rfl ?_
      refine S_X4_worthOf_18 x3 ?_
      show mK Γ M_X4_scoreOf (d + 4) Q n0 bc bs 43 [(0, .ref 18), (1, .int x1), (2, .int x2), (3, .int x3)] [.int (f_X4_worthOf_18 σ x3), .int x2] 60 mSH σ
      refine mK_iadd dX4_scoreOf_43 rfl ?_
      refine ru_istore_n (lv1 := [(0, .ref 18), (1, .int x1), (2, .int (x2 + (f_X4_worthOf_18 σ x3))), (3, .int x3)]) dX4_scoreOf_44 rfl rfl (by decide) rfl ?_
      refine mK_aload_n dX4_scoreOf_45 rfl rfl (.head _) ?_
      refine ru_getR (k := 0) (ci := 3) (a := 5) dX4_scoreOf_46 rfl rfl rfl kw_200 ?_
      refine mK_aload_n dX4_scoreOf_49 rfl rfl (.head _) ?_
      refine ru_getR (k := 0) (ci := 3) (a := 5) dX4_scoreOf_50 rfl rfl rfl kw_200 ?_
      refine mK_iload_n dX4_scoreOf_53 rfl rfl (.tail _ (.tail _ (.tail _ (.head _)))) ?_
      refine mK_invV (J := M_X0_targetOf) (k := 1) (as := [.int x3]) (st := [.ref 5]) (c1 := 0) (s1 := 0) dX4_scoreOf_54 rfl jw_X0_targetOf jn_X0_targetOf rfl (Nat.le_of_ble_eq_true rfl) (Nat.zero_le _) (Nat.zero_le _) rfl kw_607 kw_608 kw_609 (b := 5) (Nat.le_of_ble_eq_true rfl) (Nat.le_of_ble_eq_true rfl) rfl ?_
      refine S_X0_targetOf_5 x3 ?_
      show mK Γ M_X4_scoreOf (d + 4) Q n0 bc bs 57 [(0, .ref 18), (1, .int x1), (2, .int (x2 + (f_X4_worthOf_18 σ x3))), (3, .int x3)] [.int (f_X0_targetOf_5 σ x3), .ref 5] 60 mSH σ
      refine mK_invV (J := M_X0_speakerOf) (k := 1) (as := [.int (f_X0_targetOf_5 σ x3)]) (st := []) (c1 := 0) (s1 := 0) dX4_scoreOf_57 rfl jw_X0_speakerOf jn_X0_speakerOf rfl (Nat.le_of_ble_eq_true rfl) (Nat.zero_le _) (Nat.zero_le _) rfl kw_707 kw_585 kw_586 (b := 5) (Nat.le_of_ble_eq_true rfl) (Nat.le_of_ble_eq_true rfl) rfl ?_
      refine S_X0_speakerOf_5 (f_X0_targetOf_5 σ x3) ?_
      show mK Γ M_X4_scoreOf (d + 4) Q n0 bc bs 60 [(0, .ref 18), (1, .int x1), (2, .int (x2 + (f_X4_worthOf_18 σ x3))), (3, .int x3)] [.int (f_X0_speakerOf_5 σ (f_X0_targetOf_5 σ x3))] 60 mSH σ
      refine mK_iload_n dX4_scoreOf_60 rfl rfl (.tail _ (.head _)) ?_
      refine ru_icmp_ne (tgt := 72) dX4_scoreOf_61 rfl (by decide) (fun c4 => ?_) (fun c4 => ?_)
      · refine ru_iinc (lv1 := [(0, .ref 18), (1, .int x1), (2, .int (x2 + (f_X4_worthOf_18 σ x3))), (3, .int (x3 + 1))]) dX4_scoreOf_72 rfl (.tail _ (.tail _ (.tail _ (.head _)))) qic_1 (by decide) rfl ?_
        refine mK_goto (tgt := 14) dX4_scoreOf_75 (by decide) ?_
        exact (((h.2 c1).1 c2).2 c4)
      · refine mK_iload_n dX4_scoreOf_64 rfl rfl (.tail _ (.tail _ (.head _))) ?_
        refine mK_aload_n dX4_scoreOf_65 rfl rfl (.head _) ?_
        refine mK_iload_n dX4_scoreOf_66 rfl rfl (.tail _ (.tail _ (.tail _ (.head _)))) ?_
        refine mK_invV (J := M_X4_helpOf) (k := 1) (as := [.int x3]) (st := [.int (x2 + (f_X4_worthOf_18 σ x3))]) (c1 := 0) (s1 := 0) dX4_scoreOf_67 rfl jw_X4_helpOf jn_X4_helpOf rfl (Nat.le_of_ble_eq_true rfl) (Nat.zero_le _) (Nat.zero_le _) rfl kw_714 kw_716 kw_30 (b := 18) (Nat.le_of_ble_eq_true rfl) (Nat.le_of_ble_eq_true rfl) rfl ?_
        refine S_X4_helpOf_18 x3 ?_
        show mK Γ M_X4_scoreOf (d + 4) Q n0 bc bs 70 [(0, .ref 18), (1, .int x1), (2, .int (x2 + (f_X4_worthOf_18 σ x3))), (3, .int x3)] [.int (f_X4_helpOf_18 σ x3), .int (x2 + (f_X4_worthOf_18 σ x3))] 60 mSH σ
        refine mK_iadd dX4_scoreOf_70 rfl ?_
        refine ru_istore_n (lv1 := [(0, .ref 18), (1, .int x1), (2, .int ((x2 + (f_X4_worthOf_18 σ x3)) + (f_X4_helpOf_18 σ x3))), (3, .int x3)]) dX4_scoreOf_71 rfl rfl (by decide) rfl ?_
        refine ru_iinc (lv1 := [(0, .ref 18), (1, .int x1), (2, .int ((x2 + (f_X4_worthOf_18 σ x3)) + (f_X4_helpOf_18 σ x3))), (3, .int (x3 + 1))]) dX4_scoreOf_72 rfl (.tail _ (.tail _ (.tail _ (.head _)))) qic_1 (by decide) rfl ?_
        refine mK_goto (tgt := 14) dX4_scoreOf_75 (by decide) ?_
        exact (((h.2 c1).1 c2).1 c4)
