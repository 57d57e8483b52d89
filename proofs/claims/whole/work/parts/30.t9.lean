set_option maxRecDepth 20000 in
theorem E_X9_farOf_26 {Γ : Nat × (Nat → Int32)} {d : Nat} {Q : mQ} {σ : mS} (a1 : Int32) (h : mK Γ M_X9_farOf (d + 1) Q 60 0 0 4 [(0, .ref 26), (2, .int 0), (3, .int a1)] [] 60 mSH σ) : mCall Γ M_X9_farOf (d + 1) 0 0 [.ref 26, .int a1] 60 mSH σ Q := by
  refine mCall_of rfl (by decide) (Nat.le_of_ble_eq_true rfl) (mOkC (mOk_lo (Nat.le_of_ble_eq_true rfl)) (mOkC mOk_i mOkN)) ?_
  show mK Γ M_X9_farOf (d + 1) Q 60 0 0 0 [(0, .ref 26), (1, .int a1)] [] 60 mSH σ
  refine mK_iconst dX9_farOf_0 rfl qic_0 ?_
  refine ru_istore_n (lv1 := [(0, .ref 26), (1, .int a1), (2, .int 0)]) dX9_farOf_1 rfl rfl (by decide) rfl ?_
  refine mK_iload_n dX9_farOf_2 rfl rfl (.tail _ (.head _)) ?_
  refine ru_istore_n (lv1 := [(0, .ref 26), (1, .int a1), (2, .int 0), (3, .int a1)]) dX9_farOf_3 rfl rfl (by decide) rfl ?_
  exact ru_pick [0, 2, 3] rfl h
set_option maxRecDepth 20000 in
theorem T_X9_farOf_26_4 {Γ : Nat × (Nat → Int32)} {d n0 bc bs : Nat} {Q : mQ} {σ : mS} (x2 : Int32) (x3 : Int32) (h : ((vp_in x3 40) ∧ (((σ.1 36 (x3).toNatClampNeg) = 0 → Q (.inl (some (.int x2))) 60 mSH σ) ∧ (¬ ((σ.1 36 (x3).toNatClampNeg) = 0) → mK Γ M_X9_farOf (d + 1) Q n0 bc bs 4 [(0, .ref 26), (2, .int (x2 + 1)), (3, .int (σ.1 40 (x3).toNatClampNeg))] [] 60 mSH σ)))) : mK Γ M_X9_farOf (d + 1) Q n0 bc bs 4 [(0, .ref 26), (2, .int x2), (3, .int x3)] [] 60 mSH σ := by
  refine mK_aload_n dX9_farOf_4 rfl rfl (.head _) ?_
  refine ru_getR (k := 11) (ci := 8) (a := 32) dX9_farOf_5 rfl rfl rfl kw_1138 ?_
  refine ru_getRN (k := 5) (ci := 7) (a := 36) dX9_farOf_8 rfl rfl rfl kn_1090 ?_
  refine mK_iload_n dX9_farOf_11 rfl rfl (.tail _ (.tail _ (.head _))) ?_
  refine ru_iald (n := 40) dX9_farOf_12 rfl rfl (h.1) ?_
  refine mK_if_eq (tgt := 32) dX9_farOf_13 rfl (by decide) (fun c1 => ?_) (fun c1 => ?_)
  · refine mK_iload_n dX9_farOf_32 rfl rfl (.tail _ (.head _)) ?_
    exact mK_iret dX9_farOf_33 rfl (h.2.1 c1)
  · refine ru_iinc (lv1 := [(0, .ref 26), (2, .int (x2 + 1)), (3, .int x3)]) dX9_farOf_16 rfl (.tail _ (.head _)) qic_1 (by decide) rfl ?_
    refine mK_aload_n dX9_farOf_19 rfl rfl (.head _) ?_
    refine ru_getR (k := 11) (ci := 8) (a := 32) dX9_farOf_20 rfl rfl rfl kw_1138 ?_
    refine ru_getRN (k := 9) (ci := 7) (a := 40) dX9_farOf_23 rfl rfl rfl kn_1098 ?_
    refine mK_iload_n dX9_farOf_26 rfl rfl (.tail _ (.tail _ (.head _))) ?_
    refine ru_iald (n := 40) dX9_farOf_27 rfl rfl (h.1) ?_
    refine ru_istore_n (lv1 := [(0, .ref 26), (2, .int (x2 + 1)), (3, .int (σ.1 40 (x3).toNatClampNeg))]) dX9_farOf_28 rfl rfl (by decide) rfl ?_
    refine mK_goto (tgt := 4) dX9_farOf_29 (by decide) ?_
    exact (h.2.2 c1)
set_option maxRecDepth 20000 in
theorem E_X9_whyOf_26 {Γ : Nat × (Nat → Int32)} {d : Nat} {Q : mQ} {σ : mS} (a1 : Int32) (h : ((vp_in a1 40) ∧ (((σ.1 52 (a1).toNatClampNeg) = 2 → mK Γ M_X9_whyOf (d + 2) Q 60 0 0 14 [(0, .ref 26), (1, .int a1), (2, .int 0)] [] 60 mSH σ) ∧ (¬ ((σ.1 52 (a1).toNatClampNeg) = 2) → Q (.inl (some (.int (-1)))) 60 mSH σ)))) : mCall Γ M_X9_whyOf (d + 2) 0 0 [.ref 26, .int a1] 60 mSH σ Q := by
  refine mCall_of rfl (by decide) (Nat.le_of_ble_eq_true rfl) (mOkC (mOk_lo (Nat.le_of_ble_eq_true rfl)) (mOkC mOk_i mOkN)) ?_
  show mK Γ M_X9_whyOf (d + 2) Q 60 0 0 0 [(0, .ref 26), (1, .int a1)] [] 60 mSH σ
  refine mK_aload_n dX9_whyOf_0 rfl rfl (.head _) ?_
  refine ru_getR (k := 13) (ci := 8) (a := 52) dX9_whyOf_1 rfl rfl rfl kw_1140 ?_
  refine mK_iload_n dX9_whyOf_4 rfl rfl (.tail _ (.head _)) ?_
  refine ru_iald (n := 40) dX9_whyOf_5 rfl rfl (h.1) ?_
  refine mK_iconst dX9_whyOf_6 rfl qic_2 ?_
  refine mK_icmp_eq (tgt := 12) dX9_whyOf_7 rfl (by decide) (fun c1 => ?_) (fun c1 => ?_)
  · refine mK_iconst dX9_whyOf_12 rfl qic_0 ?_
    refine ru_istore_n (lv1 := [(0, .ref 26), (1, .int a1), (2, .int 0)]) dX9_whyOf_13 rfl rfl (by decide) rfl ?_
    exact (h.2.1 c1)
  · refine mK_iconst dX9_whyOf_10 rfl qic_m1 ?_
    exact mK_iret dX9_whyOf_11 rfl (h.2.2 c1)
set_option maxRecDepth 20000 in
theorem T_X9_whyOf_26_14 {Γ : Nat × (Nat → Int32)} {d n0 bc bs : Nat} {Q : mQ} {σ : mS} (x1 : Int32) (x2 : Int32) (h : (((σ.1 32 3) ≤ x2 → ((vp_in x1 40) ∧ (((σ.1 41 (x1).toNatClampNeg) = 1 → Q (.inl (some (.int (-2)))) 60 mSH σ) ∧ (¬ ((σ.1 41 (x1).toNatClampNeg) = 1) → Q (.inl (some (.int (-3)))) 60 mSH σ)))) ∧ (¬ ((σ.1 32 3) ≤ x2) → ((vp_in x2 40) ∧ (((σ.1 52 (x2).toNatClampNeg) = 1 → ((((σ.1 36 (x2).toNatClampNeg) = 1) → vp_in (σ.1 40 (x2).toNatClampNeg) 40) ∧ (((f_X8_isStrong_32 σ x2) = 0 → mK Γ M_X9_whyOf (d + 2) Q n0 bc bs 14 [(0, .ref 26), (1, .int x1), (2, .int (x2 + 1))] [] 60 mSH σ) ∧ (¬ ((f_X8_isStrong_32 σ x2) = 0) → (((σ.1 40 (x2).toNatClampNeg) = x1 → Q (.inl (some (.int x2))) 60 mSH σ) ∧ (¬ ((σ.1 40 (x2).toNatClampNeg) = x1) → mK Γ M_X9_whyOf (d + 2) Q n0 bc bs 14 [(0, .ref 26), (1, .int x1), (2, .int (x2 + 1))] [] 60 mSH σ)))))) ∧ (¬ ((σ.1 52 (x2).toNatClampNeg) = 1) → mK Γ M_X9_whyOf (d + 2) Q n0 bc bs 14 [(0, .ref 26), (1, .int x1), (2, .int (x2 + 1))] [] 60 mSH σ)))))) : mK Γ M_X9_whyOf (d + 2) Q n0 bc bs 14 [(0, .ref 26), (1, .int x1), (2, .int x2)] [] 60 mSH σ := by
  refine mK_iload_n dX9_whyOf_14 rfl rfl (.tail _ (.tail _ (.head _))) ?_
  refine mK_aload_n dX9_whyOf_15 rfl rfl (.head _) ?_
  refine ru_getR (k := 11) (ci := 8) (a := 32) dX9_whyOf_16 rfl rfl rfl kw_1138 ?_
  refine ru_getIN (k := 3) (ci := 7) dX9_whyOf_19 rfl rfl kn_1086 ?_
  refine mK_icmp_ge (tgt := 67) dX9_whyOf_22 rfl (by decide) (fun c1 => ?_) (fun c1 => ?_)
  · refine mK_aload_n dX9_whyOf_67 rfl rfl (.head _) ?_
    refine ru_getR (k := 11) (ci := 8) (a := 32) dX9_whyOf_68 rfl rfl rfl kw_1138 ?_
    refine ru_getRN (k := 10) (ci := 7) (a := 41) dX9_whyOf_71 rfl rfl rfl kn_1100 ?_
    refine mK_iload_n dX9_whyOf_74 rfl rfl (.tail _ (.head _)) ?_
    refine ru_iald (n := 40) dX9_whyOf_75 rfl rfl ((h.1 c1).1) ?_
    refine mK_iconst dX9_whyOf_76 rfl qic_1 ?_
    refine ru_icmp_ne (tgt := 85) dX9_whyOf_77 rfl (by decide) (fun c2 => ?_) (fun c2 => ?_)
    · refine mK_bipush dX9_whyOf_85 rfl qbi_m3 ?_
      exact mK_iret dX9_whyOf_87 rfl ((h.1 c1).2.2 c2)
    · refine mK_bipush dX9_whyOf_80 rfl qbi_m2 ?_
      refine mK_goto (tgt := 87) dX9_whyOf_82 (by decide) ?_
      exact mK_iret dX9_whyOf_87 rfl ((h.1 c1).2.1 c2)
  · refine mK_aload_n dX9_whyOf_25 rfl rfl (.head _) ?_
    refine ru_getR (k := 13) (ci := 8) (a := 52) dX9_whyOf_26 rfl rfl rfl kw_1140 ?_
    refine mK_iload_n dX9_whyOf_29 rfl rfl (.tail _ (.tail _ (.head _))) ?_
    refine ru_iald (n := 40) dX9_whyOf_30 rfl rfl ((h.2 c1).1) ?_
    refine mK_iconst dX9_whyOf_31 rfl qic_1 ?_
    refine ru_icmp_ne (tgt := 61) dX9_whyOf_32 rfl (by decide) (fun c3 => ?_) (fun c3 => ?_)
    · refine ru_iinc (lv1 := [(0, .ref 26), (1, .int x1), (2, .int (x2 + 1))]) dX9_whyOf_61 rfl (.tail _ (.tail _ (.head _))) qic_1 (by decide) rfl ?_
      refine mK_goto (tgt := 14) dX9_whyOf_64 (by decide) ?_
      exact ((h.2 c1).2.2 c3)
    · refine mK_aload_n dX9_whyOf_35 rfl rfl (.head _) ?_
      refine ru_getR (k := 11) (ci := 8) (a := 32) dX9_whyOf_36 rfl rfl rfl kw_1138 ?_
      refine mK_iload_n dX9_whyOf_39 rfl rfl (.tail _ (.tail _ (.head _))) ?_
      refine mK_invV (J := M_X8_isStrong) (k := 1) (as := [.int x2]) (st := []) (c1 := 0) (s1 := 0) dX9_whyOf_40 rfl jw_X8_isStrong jn_X8_isStrong rfl (Nat.le_of_ble_eq_true rfl) (Nat.zero_le _) (Nat.zero_le _) rfl kw_1429 kw_1430 kw_1431 (b := 32) (Nat.le_of_ble_eq_true rfl) (Nat.le_of_ble_eq_true rfl) rfl ?_
      refine S_X8_isStrong_32 x2 ((h.2 c1).1) (((h.2 c1).2.1 c3).1) ?_
      show mK Γ M_X9_whyOf (d + 2) Q n0 bc bs 43 [(0, .ref 26), (1, .int x1), (2, .int x2)] [.int (f_X8_isStrong_32 σ x2)] 60 mSH σ
      refine mK_if_eq (tgt := 61) dX9_whyOf_43 rfl (by decide) (fun c4 => ?_) (fun c4 => ?_)
      · refine ru_iinc (lv1 := [(0, .ref 26), (1, .int x1), (2, .int (x2 + 1))]) dX9_whyOf_61 rfl (.tail _ (.tail _ (.head _))) qic_1 (by decide) rfl ?_
        refine mK_goto (tgt := 14) dX9_whyOf_64 (by decide) ?_
        exact (((h.2 c1).2.1 c3).2.1 c4)
      · refine mK_aload_n dX9_whyOf_46 rfl rfl (.head _) ?_
        refine ru_getR (k := 11) (ci := 8) (a := 32) dX9_whyOf_47 rfl rfl rfl kw_1138 ?_
        refine ru_getRN (k := 9) (ci := 7) (a := 40) dX9_whyOf_50 rfl rfl rfl kn_1098 ?_
        refine mK_iload_n dX9_whyOf_53 rfl rfl (.tail _ (.tail _ (.head _))) ?_
        refine ru_iald (n := 40) dX9_whyOf_54 rfl rfl ((h.2 c1).1) ?_
        refine mK_iload_n dX9_whyOf_55 rfl rfl (.tail _ (.head _)) ?_
        refine ru_icmp_ne (tgt := 61) dX9_whyOf_56 rfl (by decide) (fun c5 => ?_) (fun c5 => ?_)
        · refine ru_iinc (lv1 := [(0, .ref 26), (1, .int x1), (2, .int (x2 + 1))]) dX9_whyOf_61 rfl (.tail _ (.tail _ (.head _))) qic_1 (by decide) rfl ?_
          refine mK_goto (tgt := 14) dX9_whyOf_64 (by decide) ?_
          exact ((((h.2 c1).2.1 c3).2.2 c4).2 c5)
        · refine mK_iload_n dX9_whyOf_59 rfl rfl (.tail _ (.tail _ (.head _))) ?_
          exact mK_iret dX9_whyOf_60 rfl ((((h.2 c1).2.1 c3).2.2 c4).1 c5)
set_option maxRecDepth 20000 in
theorem E_X9_on_26 {Γ : Nat × (Nat → Int32)} {d : Nat} {Q : mQ} {σ : mS} (a1 : Int32) (a2 : Int32) (h : mK Γ M_X9_on (d + 1) Q 60 0 0 5 [(0, .ref 26), (1, .int a1), (2, .int a2), (3, .int 0), (4, .int 0)] [] 60 mSH σ) : mCall Γ M_X9_on (d + 1) 0 0 [.ref 26, .int a1, .int a2] 60 mSH σ Q := by
  refine mCall_of rfl (by decide) (Nat.le_of_ble_eq_true rfl) (mOkC (mOk_lo (Nat.le_of_ble_eq_true rfl)) (mOkC mOk_i (mOkC mOk_i mOkN))) ?_
  show mK Γ M_X9_on (d + 1) Q 60 0 0 0 [(0, .ref 26), (1, .int a1), (2, .int a2)] [] 60 mSH σ
  refine mK_iconst dX9_on_0 rfl qic_0 ?_
  refine ru_istore_n (lv1 := [(0, .ref 26), (1, .int a1), (2, .int a2), (3, .int 0)]) dX9_on_1 rfl rfl (by decide) rfl ?_
  refine mK_iconst dX9_on_2 rfl qic_0 ?_
  refine ru_istore (lv1 := [(0, .ref 26), (1, .int a1), (2, .int a2), (3, .int 0), (4, .int 0)]) dX9_on_3 rfl (by decide) rfl ?_
  exact h
set_option maxRecDepth 20000 in
theorem T_X9_on_26_5 {Γ : Nat × (Nat → Int32)} {d n0 bc bs : Nat} {Q : mQ} {σ : mS} (x1 : Int32) (x2 : Int32) (x3 : Int32) (x4 : Int32) (h : (((σ.1 32 3) ≤ x4 → Q (.inl (some (.int x3))) 60 mSH σ) ∧ (¬ ((σ.1 32 3) ≤ x4) → ((vp_in x4 40) ∧ (((σ.1 36 (x4).toNatClampNeg) = x2 → (((σ.1 40 (x4).toNatClampNeg) = x1 → mK Γ M_X9_on (d + 1) Q n0 bc bs 5 [(0, .ref 26), (1, .int x1), (2, .int x2), (3, .int (x3 + 1)), (4, .int (x4 + 1))] [] 60 mSH σ) ∧ (¬ ((σ.1 40 (x4).toNatClampNeg) = x1) → mK Γ M_X9_on (d + 1) Q n0 bc bs 5 [(0, .ref 26), (1, .int x1), (2, .int x2), (3, .int (x3 + 0)), (4, .int (x4 + 1))] [] 60 mSH σ))) ∧ (¬ ((σ.1 36 (x4).toNatClampNeg) = x2) → mK Γ M_X9_on (d + 1) Q n0 bc bs 5 [(0, .ref 26), (1, .int x1), (2, .int x2), (3, .int (x3 + 0)), (4, .int (x4 + 1))] [] 60 mSH σ)))))) : mK Γ M_X9_on (d + 1) Q n0 bc bs 5 [(0, .ref 26), (1, .int x1), (2, .int x2), (3, .int x3), (4, .int x4)] [] 60 mSH σ := by
  refine mK_iload dX9_on_5 rfl (.tail _ (.tail _ (.tail _ (.tail _ (.head _))))) ?_
  refine mK_aload_n dX9_on_7 rfl rfl (.head _) ?_
  refine ru_getR (k := 11) (ci := 8) (a := 32) dX9_on_8 rfl rfl rfl kw_1138 ?_
  refine ru_getIN (k := 3) (ci := 7) dX9_on_11 rfl rfl kn_1086 ?_
  refine mK_icmp_ge (tgt := 59) dX9_on_14 rfl (by decide) (fun c1 => ?_) (fun c1 => ?_)
  · refine mK_iload_n dX9_on_59 rfl rfl (.tail _ (.tail _ (.tail _ (.head _)))) ?_
    exact mK_iret dX9_on_60 rfl (h.1 c1)
  · refine mK_iload_n dX9_on_17 rfl rfl (.tail _ (.tail _ (.tail _ (.head _)))) ?_
    refine mK_aload_n dX9_on_18 rfl rfl (.head _) ?_
    refine ru_getR (k := 11) (ci := 8) (a := 32) dX9_on_19 rfl rfl rfl kw_1138 ?_
    refine ru_getRN (k := 5) (ci := 7) (a := 36) dX9_on_22 rfl rfl rfl kn_1090 ?_
    refine mK_iload dX9_on_25 rfl (.tail _ (.tail _ (.tail _ (.tail _ (.head _))))) ?_
    refine ru_iald (n := 40) dX9_on_27 rfl rfl ((h.2 c1).1) ?_
    refine mK_iload_n dX9_on_28 rfl rfl (.tail _ (.tail _ (.head _))) ?_
    refine ru_icmp_ne (tgt := 50) dX9_on_29 rfl (by decide) (fun c2 => ?_) (fun c2 => ?_)
    · refine mK_iconst dX9_on_50 rfl qic_0 ?_
      refine mK_iadd dX9_on_51 rfl ?_
      refine ru_istore_n (lv1 := [(0, .ref 26), (1, .int x1), (2, .int x2), (3, .int (x3 + 0)), (4, .int x4)]) dX9_on_52 rfl rfl (by decide) rfl ?_
      refine ru_iinc (lv1 := [(0, .ref 26), (1, .int x1), (2, .int x2), (3, .int (x3 + 0)), (4, .int (x4 + 1))]) dX9_on_53 rfl (.tail _ (.tail _ (.tail _ (.tail _ (.head _))))) qic_1 (by decide) rfl ?_
      refine mK_goto (tgt := 5) dX9_on_56 (by decide) ?_
      exact ((h.2 c1).2.2 c2)
    · refine mK_aload_n dX9_on_32 rfl rfl (.head _) ?_
      refine ru_getR (k := 11) (ci := 8) (a := 32) dX9_on_33 rfl rfl rfl kw_1138 ?_
      refine ru_getRN (k := 9) (ci := 7) (a := 40) dX9_on_36 rfl rfl rfl kn_1098 ?_
      refine mK_iload dX9_on_39 rfl (.tail _ (.tail _ (.tail _ (.tail _ (.head _))))) ?_
      refine ru_iald (n := 40) dX9_on_41 rfl rfl ((h.2 c1).1) ?_
      refine mK_iload_n dX9_on_42 rfl rfl (.tail _ (.head _)) ?_
      refine ru_icmp_ne (tgt := 50) dX9_on_43 rfl (by decide) (fun c3 => ?_) (fun c3 => ?_)
      · refine mK_iconst dX9_on_50 rfl qic_0 ?_
        refine mK_iadd dX9_on_51 rfl ?_
        refine ru_istore_n (lv1 := [(0, .ref 26), (1, .int x1), (2, .int x2), (3, .int (x3 + 0)), (4, .int x4)]) dX9_on_52 rfl rfl (by decide) rfl ?_
        refine ru_iinc (lv1 := [(0, .ref 26), (1, .int x1), (2, .int x2), (3, .int (x3 + 0)), (4, .int (x4 + 1))]) dX9_on_53 rfl (.tail _ (.tail _ (.tail _ (.tail _ (.head _))))) qic_1 (by decide) rfl ?_
        refine mK_goto (tgt := 5) dX9_on_56 (by decide) ?_
        exact (((h.2 c1).2.1 c2).2 c3)
      · refine mK_iconst dX9_on_46 rfl qic_1 ?_
        refine mK_goto (tgt := 51) dX9_on_47 (by decide) ?_
        refine mK_iadd dX9_on_51 rfl ?_
        refine ru_istore_n (lv1 := [(0, .ref 26), (1, .int x1), (2, .int x2), (3, .int (x3 + 1)), (4, .int x4)]) dX9_on_52 rfl rfl (by decide) rfl ?_
        refine ru_iinc (lv1 := [(0, .ref 26), (1, .int x1), (2, .int x2), (3, .int (x3 + 1)), (4, .int (x4 + 1))]) dX9_on_53 rfl (.tail _ (.tail _ (.tail _ (.tail _ (.head _))))) qic_1 (by decide) rfl ?_
        refine mK_goto (tgt := 5) dX9_on_56 (by decide) ?_
        exact (((h.2 c1).2.1 c2).1 c3)
