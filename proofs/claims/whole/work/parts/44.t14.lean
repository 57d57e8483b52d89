set_option maxRecDepth 20000 in
theorem E_X9_leadWith_26 {Γ : Nat × (Nat → Int32)} {d : Nat} {Q : mQ} {σ : mS} (a1 : Int32) (a2 : Int32) (h : mCall Γ M_X9_stand (d + 1) 0 0 [.ref 26, .ref 54, .ref 55] 60 mSH (mPI σ 26 18 a1) (mRt Γ M_X9_leadWith (d + 2) Q 60 0 0 17 [(0, .ref 26), (1, .int a1), (2, .int a2)] [])) : mCall Γ M_X9_leadWith (d + 2) 0 0 [.ref 26, .int a1, .int a2] 60 mSH σ Q := by
  refine mCall_of rfl (by decide) (Nat.le_of_ble_eq_true rfl) (mOkC (mOk_lo (Nat.le_of_ble_eq_true rfl)) (mOkC mOk_i (mOkC mOk_i mOkN))) ?_
  show mK Γ M_X9_leadWith (d + 2) Q 60 0 0 0 [(0, .ref 26), (1, .int a1), (2, .int a2)] [] 60 mSH σ
  refine mK_aload_n dX9_leadWith_0 rfl rfl (.head _) ?_
  refine mK_iload_n dX9_leadWith_1 rfl rfl (.tail _ (.head _)) ?_
  refine ru_putI (k := 18) (ci := 8) dX9_leadWith_2 rfl rfl rfl kw_1145 ?_
  refine mK_aload_n dX9_leadWith_5 rfl rfl (.head _) ?_
  refine mK_aload_n dX9_leadWith_6 rfl rfl (.head _) ?_
  refine ru_getR (k := 16) (ci := 8) (a := 54) dX9_leadWith_7 rfl rfl rfl kw_1143 ?_
  refine mK_aload_n dX9_leadWith_10 rfl rfl (.head _) ?_
  refine ru_getR (k := 17) (ci := 8) (a := 55) dX9_leadWith_11 rfl rfl rfl kw_1144 ?_
  refine mK_invV (J := M_X9_stand) (k := 2) (as := [.ref 54, .ref 55]) (st := []) (c1 := 0) (s1 := 0) dX9_leadWith_14 rfl jw_X9_stand jn_X9_stand rfl (Nat.le_of_ble_eq_true rfl) (Nat.zero_le _) (Nat.zero_le _) rfl kw_1425 kw_1427 kw_63 (b := 26) (Nat.le_of_ble_eq_true rfl) (Nat.le_of_ble_eq_true rfl) rfl ?_
  exact h
set_option maxRecDepth 20000 in
theorem T_X9_leadWith_26_17a {Γ : Nat × (Nat → Int32)} {d n0 bc bs : Nat} {Q : mQ} {σ : mS} (x1 : Int32) (x2 : Int32) (r : Int32) (h : mCall Γ M_X9_lead (d + 1) 0 0 [.ref 26, .int x2, .ref 54] 60 mSH σ (mRt Γ M_X9_leadWith (d + 2) Q n0 bc bs 27 [(0, .ref 26), (1, .int x1), (2, .int x2)] [])) : mRt Γ M_X9_leadWith (d + 2) Q n0 bc bs 17 [(0, .ref 26), (1, .int x1), (2, .int x2)] [] (.inl (some (.int r))) 60 mSH σ := by
  show mK Γ M_X9_leadWith (d + 2) Q n0 bc bs 17 [(0, .ref 26), (1, .int x1), (2, .int x2)] [.int r] 60 mSH σ
  refine mK_pop dX9_leadWith_17 rfl rfl ?_
  refine mK_aload_n dX9_leadWith_18 rfl rfl (.head _) ?_
  refine mK_iload_n dX9_leadWith_19 rfl rfl (.tail _ (.tail _ (.head _))) ?_
  refine mK_aload_n dX9_leadWith_20 rfl rfl (.head _) ?_
  refine ru_getR (k := 16) (ci := 8) (a := 54) dX9_leadWith_21 rfl rfl rfl kw_1143 ?_
  refine mK_invV (J := M_X9_lead) (k := 2) (as := [.int x2, .ref 54]) (st := []) (c1 := 0) (s1 := 0) dX9_leadWith_24 rfl jw_X9_lead jn_X9_lead rfl (Nat.le_of_ble_eq_true rfl) (Nat.zero_le _) (Nat.zero_le _) rfl kw_1485 kw_1487 kw_74 (b := 26) (Nat.le_of_ble_eq_true rfl) (Nat.le_of_ble_eq_true rfl) rfl ?_
  exact h
set_option maxRecDepth 20000 in
theorem T_X9_leadWith_26_27a {Γ : Nat × (Nat → Int32)} {d n0 bc bs : Nat} {Q : mQ} {σ : mS} (x1 : Int32) (x2 : Int32) (r : Int32) (h : Q (.inl (some (.int r))) 60 mSH (mPI σ 26 18 (-1))) : mRt Γ M_X9_leadWith (d + 2) Q n0 bc bs 27 [(0, .ref 26), (1, .int x1), (2, .int x2)] [] (.inl (some (.int r))) 60 mSH σ := by
  show mK Γ M_X9_leadWith (d + 2) Q n0 bc bs 27 [(0, .ref 26), (1, .int x1), (2, .int x2)] [.int r] 60 mSH σ
  refine ru_istore_n (lv1 := [(0, .ref 26), (1, .int x1), (2, .int x2), (3, .int r)]) dX9_leadWith_27 rfl rfl (by decide) rfl ?_
  refine mK_aload_n dX9_leadWith_28 rfl rfl (.head _) ?_
  refine mK_iconst dX9_leadWith_29 rfl qic_m1 ?_
  refine ru_putI (k := 18) (ci := 8) dX9_leadWith_30 rfl rfl rfl kw_1145 ?_
  refine mK_iload_n dX9_leadWith_33 rfl rfl (.tail _ (.tail _ (.tail _ (.head _)))) ?_
  exact mK_iret dX9_leadWith_34 rfl h
set_option maxRecDepth 20000 in
theorem E_X9_concede_26 {Γ : Nat × (Nat → Int32)} {d : Nat} {Q : mQ} {σ : mS} (a1 : Int32) (h : (((f_X9_isIn (mPI σ 26 0 0) a1 0 (((mPI σ 26 0 0).1 32 0) - 1)) = 0 ∨ (f_X9_isIn (mPI σ 26 0 0) a1 0 (((mPI σ 26 0 0).1 32 0) - 1)) = 1) ∧ (((f_X9_isSpeaker_26 (mPI σ 26 0 0) a1) = 0 → Q (.inl (some (.int (h_X9_no_26 (mPI σ 26 0 0) 1).1))) 60 mSH (h_X9_no_26 (mPI σ 26 0 0) 1).2) ∧ (¬ ((f_X9_isSpeaker_26 (mPI σ 26 0 0) a1) = 0) → mCall Γ M_X9_lead (d + 2) 0 0 [.ref 26, .int a1, .ref 52] 60 mSH (mPI σ 26 0 0) (mRt Γ M_X9_concede (d + 3) Q 60 0 0 28 [(0, .ref 26), (1, .int a1)] []))))) : mCall Γ M_X9_concede (d + 3) 0 0 [.ref 26, .int a1] 60 mSH σ Q := by
  refine mCall_of rfl (by decide) (Nat.le_of_ble_eq_true rfl) (mOkC (mOk_lo (Nat.le_of_ble_eq_true rfl)) (mOkC mOk_i mOkN)) ?_
  show mK Γ M_X9_concede (d + 3) Q 60 0 0 0 [(0, .ref 26), (1, .int a1)] [] 60 mSH σ
  refine mK_aload_n dX9_concede_0 rfl rfl (.head _) ?_
  refine mK_iconst dX9_concede_1 rfl qic_0 ?_
  refine ru_putI (k := 0) (ci := 8) dX9_concede_2 rfl rfl rfl kw_1127 ?_
  refine mK_aload_n dX9_concede_5 rfl rfl (.head _) ?_
  refine mK_iload_n dX9_concede_6 rfl rfl (.tail _ (.head _)) ?_
  refine mK_invV (J := M_X9_isSpeaker) (k := 1) (as := [.int a1]) (st := []) (c1 := 0) (s1 := 0) dX9_concede_7 rfl jw_X9_isSpeaker jn_X9_isSpeaker rfl (Nat.le_of_ble_eq_true rfl) (Nat.zero_le _) (Nat.zero_le _) rfl kw_1473 kw_1475 kw_71 (b := 26) (Nat.le_of_ble_eq_true rfl) (Nat.le_of_ble_eq_true rfl) rfl ?_
  refine S_X9_isSpeaker_26 a1 (h.1) ?_
  show mK Γ M_X9_concede (d + 3) Q 60 0 0 10 [(0, .ref 26), (1, .int a1)] [.int (f_X9_isSpeaker_26 (mPI σ 26 0 0) a1)] 60 mSH (mPI σ 26 0 0)
  refine ru_if_ne (tgt := 19) dX9_concede_10 rfl (by decide) (fun c1 => ?_) (fun c1 => ?_)
  · refine mK_aload_n dX9_concede_19 rfl rfl (.head _) ?_
    refine mK_iload_n dX9_concede_20 rfl rfl (.tail _ (.head _)) ?_
    refine mK_aload_n dX9_concede_21 rfl rfl (.head _) ?_
    refine ru_getR (k := 13) (ci := 8) (a := 52) dX9_concede_22 rfl rfl rfl kw_1140 ?_
    refine mK_invV (J := M_X9_lead) (k := 2) (as := [.int a1, .ref 52]) (st := []) (c1 := 0) (s1 := 0) dX9_concede_25 rfl jw_X9_lead jn_X9_lead rfl (Nat.le_of_ble_eq_true rfl) (Nat.zero_le _) (Nat.zero_le _) rfl kw_1485 kw_1487 kw_74 (b := 26) (Nat.le_of_ble_eq_true rfl) (Nat.le_of_ble_eq_true rfl) rfl ?_
    exact (h.2.2 c1)
  · refine mK_aload_n dX9_concede_13 rfl rfl (.head _) ?_
    refine mK_iconst dX9_concede_14 rfl qic_1 ?_
    refine mK_invV (J := M_X9_no) (k := 1) (as := [.int 1]) (st := []) (c1 := 0) (s1 := 0) dX9_concede_15 rfl jw_X9_no jn_X9_no rfl (Nat.le_of_ble_eq_true rfl) (Nat.zero_le _) (Nat.zero_le _) rfl kw_1208 kw_1210 kw_38 (b := 26) (Nat.le_of_ble_eq_true rfl) (Nat.le_of_ble_eq_true rfl) rfl ?_
    refine S_X9_no_26 1 ?_
    show mK Γ M_X9_concede (d + 3) Q 60 0 0 18 [(0, .ref 26), (1, .int a1)] [.int (h_X9_no_26 (mPI σ 26 0 0) 1).1] 60 mSH (h_X9_no_26 (mPI σ 26 0 0) 1).2
    exact mK_iret dX9_concede_18 rfl (h.2.1 c1)
set_option maxRecDepth 20000 in
theorem T_X9_concede_26_28a {Γ : Nat × (Nat → Int32)} {d n0 bc bs : Nat} {Q : mQ} {σ : mS} (x1 : Int32) (r : Int32) (h : mK Γ M_X9_concede (d + 3) Q n0 bc bs 34 [(0, .ref 26), (1, .int x1), (2, .int r), (3, .int (-1)), (4, .int 0)] [] 60 mSH σ) : mRt Γ M_X9_concede (d + 3) Q n0 bc bs 28 [(0, .ref 26), (1, .int x1)] [] (.inl (some (.int r))) 60 mSH σ := by
  show mK Γ M_X9_concede (d + 3) Q n0 bc bs 28 [(0, .ref 26), (1, .int x1)] [.int r] 60 mSH σ
  refine ru_istore_n (lv1 := [(0, .ref 26), (1, .int x1), (2, .int r)]) dX9_concede_28 rfl rfl (by decide) rfl ?_
  refine mK_iconst dX9_concede_29 rfl qic_m1 ?_
  refine ru_istore_n (lv1 := [(0, .ref 26), (1, .int x1), (2, .int r), (3, .int (-1))]) dX9_concede_30 rfl rfl (by decide) rfl ?_
  refine mK_iconst dX9_concede_31 rfl qic_0 ?_
  refine ru_istore (lv1 := [(0, .ref 26), (1, .int x1), (2, .int r), (3, .int (-1)), (4, .int 0)]) dX9_concede_32 rfl (by decide) rfl ?_
  exact h
set_option maxRecDepth 20000 in
theorem T_X9_concede_26_34 {Γ : Nat × (Nat → Int32)} {d n0 bc bs : Nat} {Q : mQ} {σ : mS} (x1 : Int32) (x2 : Int32) (x3 : Int32) (x4 : Int32) (h : (((σ.1 32 3) ≤ x4 → Q (.inl (some (.int x3))) 60 mSH σ) ∧ (¬ ((σ.1 32 3) ≤ x4) → ((vp_in x4 40) ∧ (((σ.1 37 (x4).toNatClampNeg) = x1 → mCall Γ M_X9_leadWith (d + 2) 0 0 [.ref 26, .int x4, .int x1] 60 mSH σ (mRt Γ M_X9_concede (d + 3) Q n0 bc bs 70 [(0, .ref 26), (1, .int x1), (2, .int x2), (3, .int x3), (4, .int x4)] [])) ∧ (¬ ((σ.1 37 (x4).toNatClampNeg) = x1) → mK Γ M_X9_concede (d + 3) Q n0 bc bs 34 [(0, .ref 26), (1, .int x1), (2, .int x2), (3, .int x3), (4, .int (x4 + 1))] [] 60 mSH σ)))))) : mK Γ M_X9_concede (d + 3) Q n0 bc bs 34 [(0, .ref 26), (1, .int x1), (2, .int x2), (3, .int x3), (4, .int x4)] [] 60 mSH σ := by
  refine mK_iload dX9_concede_34 rfl (.tail _ (.tail _ (.tail _ (.tail _ (.head _))))) ?_
  refine mK_aload_n dX9_concede_36 rfl rfl (.head _) ?_
  refine ru_getR (k := 11) (ci := 8) (a := 32) dX9_concede_37 rfl rfl rfl kw_1138 ?_
  refine ru_getIN (k := 3) (ci := 7) dX9_concede_40 rfl rfl kn_1086 ?_
  refine mK_icmp_ge (tgt := 93) dX9_concede_43 rfl (by decide) (fun c1 => ?_) (fun c1 => ?_)
  · refine mK_iload_n dX9_concede_93 rfl rfl (.tail _ (.tail _ (.tail _ (.head _)))) ?_
    exact mK_iret dX9_concede_94 rfl (h.1 c1)
  · refine mK_aload_n dX9_concede_46 rfl rfl (.head _) ?_
    refine ru_getR (k := 11) (ci := 8) (a := 32) dX9_concede_47 rfl rfl rfl kw_1138 ?_
    refine ru_getRN (k := 6) (ci := 7) (a := 37) dX9_concede_50 rfl rfl rfl kn_1092 ?_
    refine mK_iload dX9_concede_53 rfl (.tail _ (.tail _ (.tail _ (.tail _ (.head _))))) ?_
    refine ru_iald (n := 40) dX9_concede_55 rfl rfl ((h.2 c1).1) ?_
    refine mK_iload_n dX9_concede_56 rfl rfl (.tail _ (.head _)) ?_
    refine mK_icmp_eq (tgt := 63) dX9_concede_57 rfl (by decide) (fun c2 => ?_) (fun c2 => ?_)
    · refine mK_aload_n dX9_concede_63 rfl rfl (.head _) ?_
      refine mK_iload dX9_concede_64 rfl (.tail _ (.tail _ (.tail _ (.tail _ (.head _))))) ?_
      refine mK_iload_n dX9_concede_66 rfl rfl (.tail _ (.head _)) ?_
      refine mK_invV (J := M_X9_leadWith) (k := 2) (as := [.int x4, .int x1]) (st := []) (c1 := 0) (s1 := 0) dX9_concede_67 rfl jw_X9_leadWith jn_X9_leadWith rfl (Nat.le_of_ble_eq_true rfl) (Nat.zero_le _) (Nat.zero_le _) rfl kw_1539 kw_1541 kw_80 (b := 26) (Nat.le_of_ble_eq_true rfl) (Nat.le_of_ble_eq_true rfl) rfl ?_
      exact ((h.2 c1).2.1 c2)
    · refine mK_goto (tgt := 87) dX9_concede_60 (by decide) ?_
      refine ru_iinc (lv1 := [(0, .ref 26), (1, .int x1), (2, .int x2), (3, .int x3), (4, .int (x4 + 1))]) dX9_concede_87 rfl (.tail _ (.tail _ (.tail _ (.tail _ (.head _))))) qic_1 (by decide) rfl ?_
      refine mK_goto (tgt := 34) dX9_concede_90 (by decide) ?_
      exact ((h.2 c1).2.2 c2)
set_option maxRecDepth 20000 in
theorem T_X9_concede_26_70a {Γ : Nat × (Nat → Int32)} {d n0 bc bs : Nat} {Q : mQ} {σ : mS} (x1 : Int32) (x2 : Int32) (x3 : Int32) (x4 : Int32) (r : Int32) (h : ((x2 < r → mK Γ M_X9_concede (d + 3) Q n0 bc bs 34 [(0, .ref 26), (1, .int x1), (2, .int r), (3, .int x4), (4, .int (x4 + 1))] [] 60 mSH σ) ∧ (¬ (x2 < r) → mK Γ M_X9_concede (d + 3) Q n0 bc bs 34 [(0, .ref 26), (1, .int x1), (2, .int x2), (3, .int x3), (4, .int (x4 + 1))] [] 60 mSH σ))) : mRt Γ M_X9_concede (d + 3) Q n0 bc bs 70 [(0, .ref 26), (1, .int x1), (2, .int x2), (3, .int x3), (4, .int x4)] [] (.inl (some (.int r))) 60 mSH σ := by
  show mK Γ M_X9_concede (d + 3) Q n0 bc bs 70 [(0, .ref 26), (1, .int x1), (2, .int x2), (3, .int x3), (4, .int x4)] [.int r] 60 mSH σ
  refine ru_istore (lv1 := [(0, .ref 26), (1, .int x1), (2, .int x2), (3, .int x3), (4, .int x4), (5, .int r)]) dX9_concede_70 rfl (by decide) rfl ?_
  refine mK_iload dX9_concede_72 rfl (.tail _ (.tail _ (.tail _ (.tail _ (.tail _ (.head _)))))) ?_
  refine mK_iload_n dX9_concede_74 rfl rfl (.tail _ (.tail _ (.head _))) ?_
  refine mK_icmp_gt (tgt := 81) dX9_concede_75 rfl (by decide) (fun c1 => ?_) (fun c1 => ?_)
  · refine mK_iload dX9_concede_81 rfl (.tail _ (.tail _ (.tail _ (.tail _ (.tail _ (.head _)))))) ?_
    refine ru_istore_n (lv1 := [(0, .ref 26), (1, .int x1), (2, .int r), (3, .int x3), (4, .int x4), (5, .int r)]) dX9_concede_83 rfl rfl (by decide) rfl ?_
    refine mK_iload dX9_concede_84 rfl (.tail _ (.tail _ (.tail _ (.tail _ (.head _))))) ?_
    refine ru_istore_n (lv1 := [(0, .ref 26), (1, .int x1), (2, .int r), (3, .int x4), (4, .int x4), (5, .int r)]) dX9_concede_86 rfl rfl (by decide) rfl ?_
    refine ru_iinc (lv1 := [(0, .ref 26), (1, .int x1), (2, .int r), (3, .int x4), (4, .int (x4 + 1)), (5, .int r)]) dX9_concede_87 rfl (.tail _ (.tail _ (.tail _ (.tail _ (.head _))))) qic_1 (by decide) rfl ?_
    refine mK_goto (tgt := 34) dX9_concede_90 (by decide) ?_
    exact ru_pick [0, 1, 2, 3, 4] rfl (h.1 c1)
  · refine mK_goto (tgt := 87) dX9_concede_78 (by decide) ?_
    refine ru_iinc (lv1 := [(0, .ref 26), (1, .int x1), (2, .int x2), (3, .int x3), (4, .int (x4 + 1)), (5, .int r)]) dX9_concede_87 rfl (.tail _ (.tail _ (.tail _ (.tail _ (.head _))))) qic_1 (by decide) rfl ?_
    refine mK_goto (tgt := 34) dX9_concede_90 (by decide) ?_
    exact ru_pick [0, 1, 2, 3, 4] rfl (h.2 c1)
set_option maxRecDepth 20000 in
theorem E_X9_advise_26 {Γ : Nat × (Nat → Int32)} {d : Nat} {Q : mQ} {σ : mS} (a1 : Int32) (a2 : Int32) (h : (((f_X9_isIn (mPI σ 26 0 0) a1 0 (((mPI σ 26 0 0).1 32 0) - 1)) = 0 ∨ (f_X9_isIn (mPI σ 26 0 0) a1 0 (((mPI σ 26 0 0).1 32 0) - 1)) = 1) ∧ (((f_X9_isSpeaker_26 (mPI σ 26 0 0) a1) = 0 → Q (.inl (some (.int (h_X9_no_26 (mPI σ 26 0 0) 1).1))) 60 mSH (h_X9_no_26 (mPI σ 26 0 0) 1).2) ∧ (¬ ((f_X9_isSpeaker_26 (mPI σ 26 0 0) a1) = 0) → (((f_X9_isIn (mPI σ 26 0 0) a2 1 50) = 0 → Q (.inl (some (.int (h_X9_no_26 (mPI σ 26 0 0) 2).1))) 60 mSH (h_X9_no_26 (mPI σ 26 0 0) 2).2) ∧ (¬ ((f_X9_isIn (mPI σ 26 0 0) a2 1 50) = 0) → mCall Γ M_X9_lead (d + 2) 0 0 [.ref 26, .int a1, .ref 52] 60 mSH (mPI σ 26 0 0) (mRt Γ M_X9_advise (d + 3) Q 60 0 0 44 [(0, .ref 26), (1, .int a1), (2, .int a2)] []))))))) : mCall Γ M_X9_advise (d + 3) 0 0 [.ref 26, .int a1, .int a2] 60 mSH σ Q := by
  refine mCall_of rfl (by decide) (Nat.le_of_ble_eq_true rfl) (mOkC (mOk_lo (Nat.le_of_ble_eq_true rfl)) (mOkC mOk_i (mOkC mOk_i mOkN))) ?_
  show mK Γ M_X9_advise (d + 3) Q 60 0 0 0 [(0, .ref 26), (1, .int a1), (2, .int a2)] [] 60 mSH σ
  refine mK_aload_n dX9_advise_0 rfl rfl (.head _) ?_
  refine mK_iconst dX9_advise_1 rfl qic_0 ?_
  refine ru_putI (k := 0) (ci := 8) dX9_advise_2 rfl rfl rfl kw_1127 ?_
  refine mK_aload_n dX9_advise_5 rfl rfl (.head _) ?_
  refine mK_iload_n dX9_advise_6 rfl rfl (.tail _ (.head _)) ?_
  refine mK_invV (J := M_X9_isSpeaker) (k := 1) (as := [.int a1]) (st := []) (c1 := 0) (s1 := 0) dX9_advise_7 rfl jw_X9_isSpeaker jn_X9_isSpeaker rfl (Nat.le_of_ble_eq_true rfl) (Nat.zero_le _) (Nat.zero_le _) rfl kw_1473 kw_1475 kw_71 (b := 26) (Nat.le_of_ble_eq_true rfl) (Nat.le_of_ble_eq_true rfl) rfl ?_
  refine S_X9_isSpeaker_26 a1 (h.1) ?_
  show mK Γ M_X9_advise (d + 3) Q 60 0 0 10 [(0, .ref 26), (1, .int a1), (2, .int a2)] [.int (f_X9_isSpeaker_26 (mPI σ 26 0 0) a1)] 60 mSH (mPI σ 26 0 0)
  refine ru_if_ne (tgt := 19) dX9_advise_10 rfl (by decide) (fun c1 => ?_) (fun c1 => ?_)
  · refine mK_iload_n dX9_advise_19 rfl rfl (.tail _ (.tail _ (.head _))) ?_
    refine mK_iconst dX9_advise_20 rfl qic_1 ?_
    refine mK_bipush dX9_advise_21 rfl qbi_50 ?_
    refine mK_invS (J := M_X9_isIn) (k := 3) (as := [.int a2, .int 1, .int 50]) (st := []) (c1 := 0) (s1 := 0) dX9_advise_23 rfl jw_X9_isIn jn_X9_isIn rfl (Nat.le_of_ble_eq_true rfl) (Nat.zero_le _) (Nat.zero_le _) rfl kw_1216 kw_1217 ?_
    refine S_X9_isIn a2 1 50 ?_
    show mK Γ M_X9_advise (d + 3) Q 60 0 0 26 [(0, .ref 26), (1, .int a1), (2, .int a2)] [.int (f_X9_isIn (mPI σ 26 0 0) a2 1 50)] 60 mSH (mPI σ 26 0 0)
    refine ru_if_ne (tgt := 35) dX9_advise_26 rfl (by decide) (fun c2 => ?_) (fun c2 => ?_)
    · refine mK_aload_n dX9_advise_35 rfl rfl (.head _) ?_
      refine mK_iload_n dX9_advise_36 rfl rfl (.tail _ (.head _)) ?_
      refine mK_aload_n dX9_advise_37 rfl rfl (.head _) ?_
      refine ru_getR (k := 13) (ci := 8) (a := 52) dX9_advise_38 rfl rfl rfl kw_1140 ?_
      refine mK_invV (J := M_X9_lead) (k := 2) (as := [.int a1, .ref 52]) (st := []) (c1 := 0) (s1 := 0) dX9_advise_41 rfl jw_X9_lead jn_X9_lead rfl (Nat.le_of_ble_eq_true rfl) (Nat.zero_le _) (Nat.zero_le _) rfl kw_1485 kw_1487 kw_74 (b := 26) (Nat.le_of_ble_eq_true rfl) (Nat.le_of_ble_eq_true rfl) rfl ?_
      exact ((h.2.2 c1).2 c2)
    · refine mK_aload_n dX9_advise_29 rfl rfl (.head _) ?_
      refine mK_iconst dX9_advise_30 rfl qic_2 ?_
      refine mK_invV (J := M_X9_no) (k := 1) (as := [.int 2]) (st := []) (c1 := 0) (s1 := 0) dX9_advise_31 rfl jw_X9_no jn_X9_no rfl (Nat.le_of_ble_eq_true rfl) (Nat.zero_le _) (Nat.zero_le _) rfl kw_1208 kw_1210 kw_38 (b := 26) (Nat.le_of_ble_eq_true rfl) (Nat.le_of_ble_eq_true rfl) rfl ?_
      refine S_X9_no_26 2 ?_
      show mK Γ M_X9_advise (d + 3) Q 60 0 0 34 [(0, .ref 26), (1, .int a1), (2, .int a2)] [.int (h_X9_no_26 (mPI σ 26 0 0) 2).1] 60 mSH (h_X9_no_26 (mPI σ 26 0 0) 2).2
      exact mK_iret dX9_advise_34 rfl ((h.2.2 c1).1 c2)
  · refine mK_aload_n dX9_advise_13 rfl rfl (.head _) ?_
    refine mK_iconst dX9_advise_14 rfl qic_1 ?_
    refine mK_invV (J := M_X9_no) (k := 1) (as := [.int 1]) (st := []) (c1 := 0) (s1 := 0) dX9_advise_15 rfl jw_X9_no jn_X9_no rfl (Nat.le_of_ble_eq_true rfl) (Nat.zero_le _) (Nat.zero_le _) rfl kw_1208 kw_1210 kw_38 (b := 26) (Nat.le_of_ble_eq_true rfl) (Nat.le_of_ble_eq_true rfl) rfl ?_
    refine S_X9_no_26 1 ?_
    show mK Γ M_X9_advise (d + 3) Q 60 0 0 18 [(0, .ref 26), (1, .int a1), (2, .int a2)] [.int (h_X9_no_26 (mPI σ 26 0 0) 1).1] 60 mSH (h_X9_no_26 (mPI σ 26 0 0) 1).2
    exact mK_iret dX9_advise_18 rfl (h.2.1 c1)
set_option maxRecDepth 20000 in
theorem T_X9_advise_26_44a {Γ : Nat × (Nat → Int32)} {d n0 bc bs : Nat} {Q : mQ} {σ : mS} (x1 : Int32) (x2 : Int32) (r : Int32) (h : mK Γ M_X9_advise (d + 3) Q n0 bc bs 51 [(0, .ref 26), (1, .int x1), (2, .int x2), (3, .int r), (4, .int (-1)), (5, .int 0)] [] 60 mSH σ) : mRt Γ M_X9_advise (d + 3) Q n0 bc bs 44 [(0, .ref 26), (1, .int x1), (2, .int x2)] [] (.inl (some (.int r))) 60 mSH σ := by
  show mK Γ M_X9_advise (d + 3) Q n0 bc bs 44 [(0, .ref 26), (1, .int x1), (2, .int x2)] [.int r] 60 mSH σ
  refine ru_istore_n (lv1 := [(0, .ref 26), (1, .int x1), (2, .int x2), (3, .int r)]) dX9_advise_44 rfl rfl (by decide) rfl ?_
  refine mK_iconst dX9_advise_45 rfl qic_m1 ?_
  refine ru_istore (lv1 := [(0, .ref 26), (1, .int x1), (2, .int x2), (3, .int r), (4, .int (-1))]) dX9_advise_46 rfl (by decide) rfl ?_
  refine mK_iconst dX9_advise_48 rfl qic_0 ?_
  refine ru_istore (lv1 := [(0, .ref 26), (1, .int x1), (2, .int x2), (3, .int r), (4, .int (-1)), (5, .int 0)]) dX9_advise_49 rfl (by decide) rfl ?_
  exact h
set_option maxRecDepth 20000 in
theorem T_X9_advise_26_51 {Γ : Nat × (Nat → Int32)} {d n0 bc bs : Nat} {Q : mQ} {σ : mS} (x1 : Int32) (x2 : Int32) (x3 : Int32) (x4 : Int32) (x5 : Int32) (h : (((σ.1 32 3) ≤ x5 → Q (.inl (some (.int x4))) 60 mSH (mPI σ 26 20 (-1))) ∧ (¬ ((σ.1 32 3) ≤ x5) → ((vp_in x5 40) ∧ (((σ.1 37 (x5).toNatClampNeg) = x1 → mK Γ M_X9_advise (d + 3) Q n0 bc bs 51 [(0, .ref 26), (1, .int x1), (2, .int x2), (3, .int x3), (4, .int x4), (5, .int (x5 + 1))] [] 60 mSH σ) ∧ (¬ ((σ.1 37 (x5).toNatClampNeg) = x1) → (((f_X9_leastOf_26 σ x5) ≤ x2 → mCall Γ M_X9_stand (d + 2) 0 0 [.ref 26, .ref 54, .ref 55] 60 mSH (mPI σ 26 20 x5) (mRt Γ M_X9_advise (d + 3) Q n0 bc bs 108 [(0, .ref 26), (1, .int x1), (2, .int x2), (3, .int x3), (4, .int x4), (5, .int x5)] [])) ∧ (¬ ((f_X9_leastOf_26 σ x5) ≤ x2) → mK Γ M_X9_advise (d + 3) Q n0 bc bs 51 [(0, .ref 26), (1, .int x1), (2, .int x2), (3, .int x3), (4, .int x4), (5, .int (x5 + 1))] [] 60 mSH σ)))))))) : mK Γ M_X9_advise (d + 3) Q n0 bc bs 51 [(0, .ref 26), (1, .int x1), (2, .int x2), (3, .int x3), (4, .int x4), (5, .int x5)] [] 60 mSH σ := by
  refine mK_iload dX9_advise_51 rfl (.tail _ (.tail _ (.tail _ (.tail _ (.tail _ (.head _)))))) ?_
  refine mK_aload_n dX9_advise_53 rfl rfl (.head _) ?_
  refine ru_getR (k := 11) (ci := 8) (a := 32) dX9_advise_54 rfl rfl rfl kw_1138 ?_
  refine ru_getIN (k := 3) (ci := 7) dX9_advise_57 rfl rfl kn_1086 ?_
  refine mK_icmp_ge (tgt := 142) dX9_advise_60 rfl (by decide) (fun c1 => ?_) (fun c1 => ?_)
  · refine mK_aload_n dX9_advise_142 rfl rfl (.head _) ?_
    refine mK_iconst dX9_advise_143 rfl qic_m1 ?_
    refine ru_putI (k := 20) (ci := 8) dX9_advise_144 rfl rfl rfl kw_1147 ?_
    refine mK_iload dX9_advise_147 rfl (.tail _ (.tail _ (.tail _ (.tail _ (.head _))))) ?_
    exact mK_iret dX9_advise_149 rfl (h.1 c1)
  · refine mK_aload_n dX9_advise_63 rfl rfl (.head _) ?_
    refine ru_getR (k := 11) (ci := 8) (a := 32) dX9_advise_64 rfl rfl rfl kw_1138 ?_
    refine ru_getRN (k := 6) (ci := 7) (a := 37) dX9_advise_67 rfl rfl rfl kn_1092 ?_
    refine mK_iload dX9_advise_70 rfl (.tail _ (.tail _ (.tail _ (.tail _ (.tail _ (.head _)))))) ?_
    refine ru_iald (n := 40) dX9_advise_72 rfl rfl ((h.2 c1).1) ?_
    refine mK_iload_n dX9_advise_73 rfl rfl (.tail _ (.head _)) ?_
    refine mK_icmp_eq (tgt := 136) dX9_advise_74 rfl (by decide) (fun c2 => ?_) (fun c2 => ?_)
    · refine ru_iinc (lv1 := [(0, .ref 26), (1, .int x1), (2, .int x2), (3, .int x3), (4, .int x4), (5, .int (x5 + 1))]) dX9_advise_136 rfl (.tail _ (.tail _ (.tail _ (.tail _ (.tail _ (.head _)))))) qic_1 (by decide) rfl ?_
      refine mK_goto (tgt := 51) dX9_advise_139 (by decide) ?_
      exact ((h.2 c1).2.1 c2)
    · refine mK_aload_n dX9_advise_77 rfl rfl (.head _) ?_
      refine mK_iload dX9_advise_78 rfl (.tail _ (.tail _ (.tail _ (.tail _ (.tail _ (.head _)))))) ?_
      refine mK_invV (J := M_X9_leastOf) (k := 1) (as := [.int x5]) (st := []) (c1 := 0) (s1 := 0) dX9_advise_80 rfl jw_X9_leastOf jn_X9_leastOf rfl (Nat.le_of_ble_eq_true rfl) (Nat.zero_le _) (Nat.zero_le _) rfl kw_1551 kw_1553 kw_81 (b := 26) (Nat.le_of_ble_eq_true rfl) (Nat.le_of_ble_eq_true rfl) rfl ?_
      refine S_X9_leastOf_26 x5 ((h.2 c1).1) ?_
      show mK Γ M_X9_advise (d + 3) Q n0 bc bs 83 [(0, .ref 26), (1, .int x1), (2, .int x2), (3, .int x3), (4, .int x4), (5, .int x5)] [.int (f_X9_leastOf_26 σ x5)] 60 mSH σ
      refine mK_iload_n dX9_advise_83 rfl rfl (.tail _ (.tail _ (.head _))) ?_
      refine mK_icmp_le (tgt := 90) dX9_advise_84 rfl (by decide) (fun c3 => ?_) (fun c3 => ?_)
      · refine mK_aload_n dX9_advise_90 rfl rfl (.head _) ?_
        refine mK_iload dX9_advise_91 rfl (.tail _ (.tail _ (.tail _ (.tail _ (.tail _ (.head _)))))) ?_
        refine ru_putI (k := 20) (ci := 8) dX9_advise_93 rfl rfl rfl kw_1147 ?_
        refine mK_aload_n dX9_advise_96 rfl rfl (.head _) ?_
        refine mK_aload_n dX9_advise_97 rfl rfl (.head _) ?_
        refine ru_getR (k := 16) (ci := 8) (a := 54) dX9_advise_98 rfl rfl rfl kw_1143 ?_
        refine mK_aload_n dX9_advise_101 rfl rfl (.head _) ?_
        refine ru_getR (k := 17) (ci := 8) (a := 55) dX9_advise_102 rfl rfl rfl kw_1144 ?_
        refine mK_invV (J := M_X9_stand) (k := 2) (as := [.ref 54, .ref 55]) (st := []) (c1 := 0) (s1 := 0) dX9_advise_105 rfl jw_X9_stand jn_X9_stand rfl (Nat.le_of_ble_eq_true rfl) (Nat.zero_le _) (Nat.zero_le _) rfl kw_1425 kw_1427 kw_63 (b := 26) (Nat.le_of_ble_eq_true rfl) (Nat.le_of_ble_eq_true rfl) rfl ?_
        exact (((h.2 c1).2.2 c2).1 c3)
      · refine mK_goto (tgt := 136) dX9_advise_87 (by decide) ?_
        refine ru_iinc (lv1 := [(0, .ref 26), (1, .int x1), (2, .int x2), (3, .int x3), (4, .int x4), (5, .int (x5 + 1))]) dX9_advise_136 rfl (.tail _ (.tail _ (.tail _ (.tail _ (.tail _ (.head _)))))) qic_1 (by decide) rfl ?_
        refine mK_goto (tgt := 51) dX9_advise_139 (by decide) ?_
        exact (((h.2 c1).2.2 c2).2 c3)
set_option maxRecDepth 20000 in
theorem T_X9_advise_26_108a {Γ : Nat × (Nat → Int32)} {d n0 bc bs : Nat} {Q : mQ} {σ : mS} (x1 : Int32) (x2 : Int32) (x3 : Int32) (x4 : Int32) (x5 : Int32) (r : Int32) (h : mCall Γ M_X9_lead (d + 2) 0 0 [.ref 26, .int x1, .ref 54] 60 mSH σ (mRt Γ M_X9_advise (d + 3) Q n0 bc bs 118 [(0, .ref 26), (1, .int x1), (2, .int x2), (3, .int x3), (4, .int x4), (5, .int x5)] [])) : mRt Γ M_X9_advise (d + 3) Q n0 bc bs 108 [(0, .ref 26), (1, .int x1), (2, .int x2), (3, .int x3), (4, .int x4), (5, .int x5)] [] (.inl (some (.int r))) 60 mSH σ := by
  show mK Γ M_X9_advise (d + 3) Q n0 bc bs 108 [(0, .ref 26), (1, .int x1), (2, .int x2), (3, .int x3), (4, .int x4), (5, .int x5)] [.int r] 60 mSH σ
  refine mK_pop dX9_advise_108 rfl rfl ?_
  refine mK_aload_n dX9_advise_109 rfl rfl (.head _) ?_
  refine mK_iload_n dX9_advise_110 rfl rfl (.tail _ (.head _)) ?_
  refine mK_aload_n dX9_advise_111 rfl rfl (.head _) ?_
  refine ru_getR (k := 16) (ci := 8) (a := 54) dX9_advise_112 rfl rfl rfl kw_1143 ?_
  refine mK_invV (J := M_X9_lead) (k := 2) (as := [.int x1, .ref 54]) (st := []) (c1 := 0) (s1 := 0) dX9_advise_115 rfl jw_X9_lead jn_X9_lead rfl (Nat.le_of_ble_eq_true rfl) (Nat.zero_le _) (Nat.zero_le _) rfl kw_1485 kw_1487 kw_74 (b := 26) (Nat.le_of_ble_eq_true rfl) (Nat.le_of_ble_eq_true rfl) rfl ?_
  exact h
set_option maxRecDepth 20000 in
theorem T_X9_advise_26_118a {Γ : Nat × (Nat → Int32)} {d n0 bc bs : Nat} {Q : mQ} {σ : mS} (x1 : Int32) (x2 : Int32) (x3 : Int32) (x4 : Int32) (x5 : Int32) (r : Int32) (h : ((x3 < r → mK Γ M_X9_advise (d + 3) Q n0 bc bs 51 [(0, .ref 26), (1, .int x1), (2, .int x2), (3, .int r), (4, .int x5), (5, .int (x5 + 1))] [] 60 mSH σ) ∧ (¬ (x3 < r) → mK Γ M_X9_advise (d + 3) Q n0 bc bs 51 [(0, .ref 26), (1, .int x1), (2, .int x2), (3, .int x3), (4, .int x4), (5, .int (x5 + 1))] [] 60 mSH σ))) : mRt Γ M_X9_advise (d + 3) Q n0 bc bs 118 [(0, .ref 26), (1, .int x1), (2, .int x2), (3, .int x3), (4, .int x4), (5, .int x5)] [] (.inl (some (.int r))) 60 mSH σ := by
  show mK Γ M_X9_advise (d + 3) Q n0 bc bs 118 [(0, .ref 26), (1, .int x1), (2, .int x2), (3, .int x3), (4, .int x4), (5, .int x5)] [.int r] 60 mSH σ
  refine ru_istore (lv1 := [(0, .ref 26), (1, .int x1), (2, .int x2), (3, .int x3), (4, .int x4), (5, .int x5), (6, .int r)]) dX9_advise_118 rfl (by decide) rfl ?_
  refine mK_iload dX9_advise_120 rfl (.tail _ (.tail _ (.tail _ (.tail _ (.tail _ (.tail _ (.head _))))))) ?_
  refine mK_iload_n dX9_advise_122 rfl rfl (.tail _ (.tail _ (.tail _ (.head _)))) ?_
  refine mK_icmp_gt (tgt := 129) dX9_advise_123 rfl (by decide) (fun c1 => ?_) (fun c1 => ?_)
  · refine mK_iload dX9_advise_129 rfl (.tail _ (.tail _ (.tail _ (.tail _ (.tail _ (.tail _ (.head _))))))) ?_
    refine ru_istore_n (lv1 := [(0, .ref 26), (1, .int x1), (2, .int x2), (3, .int r), (4, .int x4), (5, .int x5), (6, .int r)]) dX9_advise_131 rfl rfl (by decide) rfl ?_
    refine mK_iload dX9_advise_132 rfl (.tail _ (.tail _ (.tail _ (.tail _ (.tail _ (.head _)))))) ?_
    refine ru_istore (lv1 := [(0, .ref 26), (1, .int x1), (2, .int x2), (3, .int r), (4, .int x5), (5, .int x5), (6, .int r)]) dX9_advise_134 rfl (by decide) rfl ?_
    refine ru_iinc (lv1 := [(0, .ref 26), (1, .int x1), (2, .int x2), (3, .int r), (4, .int x5), (5, .int (x5 + 1)), (6, .int r)]) dX9_advise_136 rfl (.tail _ (.tail _ (.tail _ (.tail _ (.tail _ (.head _)))))) qic_1 (by decide) rfl ?_
    refine mK_goto (tgt := 51) dX9_advise_139 (by decide) ?_
    exact ru_pick [0, 1, 2, 3, 4, 5] rfl (h.1 c1)
  · refine mK_goto (tgt := 136) dX9_advise_126 (by decide) ?_
    refine ru_iinc (lv1 := [(0, .ref 26), (1, .int x1), (2, .int x2), (3, .int x3), (4, .int x4), (5, .int (x5 + 1)), (6, .int r)]) dX9_advise_136 rfl (.tail _ (.tail _ (.tail _ (.tail _ (.tail _ (.head _)))))) qic_1 (by decide) rfl ?_
    refine mK_goto (tgt := 51) dX9_advise_139 (by decide) ?_
    exact ru_pick [0, 1, 2, 3, 4, 5] rfl (h.2 c1)
set_option maxRecDepth 20000 in
theorem E_X9_isFree_26 {Γ : Nat × (Nat → Int32)} {d : Nat} {Q : mQ} {σ : mS} (a1 : Int32) (h : mCall Γ M_X9_stand (d + 1) 0 0 [.ref 26, .ref 54, .ref 55] 60 mSH σ (mRt Γ M_X9_isFree (d + 2) Q 60 0 0 12 [(0, .ref 26), (1, .int a1)] [])) : mCall Γ M_X9_isFree (d + 2) 0 0 [.ref 26, .int a1] 60 mSH σ Q := by
  refine mCall_of rfl (by decide) (Nat.le_of_ble_eq_true rfl) (mOkC (mOk_lo (Nat.le_of_ble_eq_true rfl)) (mOkC mOk_i mOkN)) ?_
  show mK Γ M_X9_isFree (d + 2) Q 60 0 0 0 [(0, .ref 26), (1, .int a1)] [] 60 mSH σ
  refine mK_aload_n dX9_isFree_0 rfl rfl (.head _) ?_
  refine mK_aload_n dX9_isFree_1 rfl rfl (.head _) ?_
  refine ru_getR (k := 16) (ci := 8) (a := 54) dX9_isFree_2 rfl rfl rfl kw_1143 ?_
  refine mK_aload_n dX9_isFree_5 rfl rfl (.head _) ?_
  refine ru_getR (k := 17) (ci := 8) (a := 55) dX9_isFree_6 rfl rfl rfl kw_1144 ?_
  refine mK_invV (J := M_X9_stand) (k := 2) (as := [.ref 54, .ref 55]) (st := []) (c1 := 0) (s1 := 0) dX9_isFree_9 rfl jw_X9_stand jn_X9_stand rfl (Nat.le_of_ble_eq_true rfl) (Nat.zero_le _) (Nat.zero_le _) rfl kw_1425 kw_1427 kw_63 (b := 26) (Nat.le_of_ble_eq_true rfl) (Nat.le_of_ble_eq_true rfl) rfl ?_
  exact h
set_option maxRecDepth 20000 in
theorem T_X9_isFree_26_12a {Γ : Nat × (Nat → Int32)} {d n0 bc bs : Nat} {Q : mQ} {σ : mS} (x1 : Int32) (r : Int32) (h : ((vp_in x1 40) ∧ (((σ.1 54 (x1).toNatClampNeg) = 1 → Q (.inl (some (.int 1))) 60 mSH σ) ∧ (¬ ((σ.1 54 (x1).toNatClampNeg) = 1) → Q (.inl (some (.int 0))) 60 mSH σ)))) : mRt Γ M_X9_isFree (d + 2) Q n0 bc bs 12 [(0, .ref 26), (1, .int x1)] [] (.inl (some (.int r))) 60 mSH σ := by
  show mK Γ M_X9_isFree (d + 2) Q n0 bc bs 12 [(0, .ref 26), (1, .int x1)] [.int r] 60 mSH σ
  refine mK_pop dX9_isFree_12 rfl rfl ?_
  refine mK_aload_n dX9_isFree_13 rfl rfl (.head _) ?_
  refine ru_getR (k := 16) (ci := 8) (a := 54) dX9_isFree_14 rfl rfl rfl kw_1143 ?_
  refine mK_iload_n dX9_isFree_17 rfl rfl (.tail _ (.head _)) ?_
  refine ru_iald (n := 40) dX9_isFree_18 rfl rfl (h.1) ?_
  refine mK_iconst dX9_isFree_19 rfl qic_1 ?_
  refine ru_icmp_ne (tgt := 27) dX9_isFree_20 rfl (by decide) (fun c1 => ?_) (fun c1 => ?_)
  · refine mK_iconst dX9_isFree_27 rfl qic_0 ?_
    exact mK_zret dX9_isFree_28 rfl (by decide) (h.2.2 c1)
  · refine mK_iconst dX9_isFree_23 rfl qic_1 ?_
    refine mK_goto (tgt := 28) dX9_isFree_24 (by decide) ?_
    exact mK_zret dX9_isFree_28 rfl (by decide) (h.2.1 c1)
set_option maxRecDepth 20000 in
theorem E_X9_freed_26 {Γ : Nat × (Nat → Int32)} {d : Nat} {Q : mQ} {σ : mS} (a1 : Int32) (h : mK Γ M_X9_freed (d + 2) Q 60 0 0 5 [(0, .ref 26), (1, .int a1)] [] 60 mSH (mPI σ 26 18 0)) : mCall Γ M_X9_freed (d + 2) 0 0 [.ref 26, .int a1] 60 mSH σ Q := by
  refine mCall_of rfl (by decide) (Nat.le_of_ble_eq_true rfl) (mOkC (mOk_lo (Nat.le_of_ble_eq_true rfl)) (mOkC mOk_i mOkN)) ?_
  show mK Γ M_X9_freed (d + 2) Q 60 0 0 0 [(0, .ref 26), (1, .int a1)] [] 60 mSH σ
  refine mK_aload_n dX9_freed_0 rfl rfl (.head _) ?_
  refine mK_iconst dX9_freed_1 rfl qic_0 ?_
  refine ru_putI (k := 18) (ci := 8) dX9_freed_2 rfl rfl rfl kw_1145 ?_
  exact h
set_option maxRecDepth 20000 in
theorem T_X9_freed_26_5 {Γ : Nat × (Nat → Int32)} {d n0 bc bs : Nat} {Q : mQ} {σ : mS} (x1 : Int32) (h : (((σ.1 32 3) ≤ (σ.1 26 18) → mK Γ M_X9_freed (d + 2) Q n0 bc bs 60 [(0, .ref 26), (1, .int x1)] [] 60 mSH (mPI σ 26 18 0)) ∧ (¬ ((σ.1 32 3) ≤ (σ.1 26 18)) → (((σ.1 26 18) = x1 → mK Γ M_X9_freed (d + 2) Q n0 bc bs 5 [(0, .ref 26), (1, .int x1)] [] 60 mSH (mPI σ 26 18 ((σ.1 26 18) + 1))) ∧ (¬ ((σ.1 26 18) = x1) → mCall Γ M_X9_isFree (d + 1) 0 0 [.ref 26, .int x1] 60 mSH σ (mRt Γ M_X9_freed (d + 2) Q n0 bc bs 32 [(0, .ref 26), (1, .int x1)] [])))))) : mK Γ M_X9_freed (d + 2) Q n0 bc bs 5 [(0, .ref 26), (1, .int x1)] [] 60 mSH σ := by
  refine mK_aload_n dX9_freed_5 rfl rfl (.head _) ?_
  refine ru_getI (k := 18) (ci := 8) dX9_freed_6 rfl rfl kw_1145 ?_
  refine mK_aload_n dX9_freed_9 rfl rfl (.head _) ?_
  refine ru_getR (k := 11) (ci := 8) (a := 32) dX9_freed_10 rfl rfl rfl kw_1138 ?_
  refine ru_getIN (k := 3) (ci := 7) dX9_freed_13 rfl rfl kn_1086 ?_
  refine mK_icmp_ge (tgt := 55) dX9_freed_16 rfl (by decide) (fun c1 => ?_) (fun c1 => ?_)
  · refine mK_aload_n dX9_freed_55 rfl rfl (.head _) ?_
    refine mK_iconst dX9_freed_56 rfl qic_0 ?_
    refine ru_putI (k := 18) (ci := 8) dX9_freed_57 rfl rfl rfl kw_1145 ?_
    exact (h.1 c1)
  · refine mK_aload_n dX9_freed_19 rfl rfl (.head _) ?_
    refine ru_getI (k := 18) (ci := 8) dX9_freed_20 rfl rfl kw_1145 ?_
    refine mK_iload_n dX9_freed_23 rfl rfl (.tail _ (.head _)) ?_
    refine mK_icmp_eq (tgt := 42) dX9_freed_24 rfl (by decide) (fun c2 => ?_) (fun c2 => ?_)
    · refine mK_aload_n dX9_freed_42 rfl rfl (.head _) ?_
      refine mK_dup dX9_freed_43 rfl rfl ?_
      refine ru_getI (k := 18) (ci := 8) dX9_freed_44 rfl rfl kw_1145 ?_
      refine mK_iconst dX9_freed_47 rfl qic_1 ?_
      refine mK_iadd dX9_freed_48 rfl ?_
      refine ru_putI (k := 18) (ci := 8) dX9_freed_49 rfl rfl rfl kw_1145 ?_
      refine mK_goto (tgt := 5) dX9_freed_52 (by decide) ?_
      exact ((h.2 c1).1 c2)
    · refine mK_aload_n dX9_freed_27 rfl rfl (.head _) ?_
      refine mK_iload_n dX9_freed_28 rfl rfl (.tail _ (.head _)) ?_
      refine mK_invV (J := M_X9_isFree) (k := 1) (as := [.int x1]) (st := []) (c1 := 0) (s1 := 0) dX9_freed_29 rfl jw_X9_isFree jn_X9_isFree rfl (Nat.le_of_ble_eq_true rfl) (Nat.zero_le _) (Nat.zero_le _) rfl kw_1567 kw_1569 kw_83 (b := 26) (Nat.le_of_ble_eq_true rfl) (Nat.le_of_ble_eq_true rfl) rfl ?_
      exact ((h.2 c1).2 c2)
set_option maxRecDepth 20000 in
theorem T_X9_freed_26_60 {Γ : Nat × (Nat → Int32)} {d n0 bc bs : Nat} {Q : mQ} {σ : mS} (x1 : Int32) (h : (((σ.1 32 3) ≤ (σ.1 26 18) → Q (.inl (some (.int (-1)))) 60 mSH σ) ∧ (¬ ((σ.1 32 3) ≤ (σ.1 26 18)) → mK Γ M_X9_freed (d + 2) Q n0 bc bs 84 [(0, .ref 26), (1, .int x1)] [] 60 mSH (mPI σ 26 19 ((σ.1 26 18) + 1))))) : mK Γ M_X9_freed (d + 2) Q n0 bc bs 60 [(0, .ref 26), (1, .int x1)] [] 60 mSH σ := by
  refine mK_aload_n dX9_freed_60 rfl rfl (.head _) ?_
  refine ru_getI (k := 18) (ci := 8) dX9_freed_61 rfl rfl kw_1145 ?_
  refine mK_aload_n dX9_freed_64 rfl rfl (.head _) ?_
  refine ru_getR (k := 11) (ci := 8) (a := 32) dX9_freed_65 rfl rfl rfl kw_1138 ?_
  refine ru_getIN (k := 3) (ci := 7) dX9_freed_68 rfl rfl kn_1086 ?_
  refine mK_icmp_ge (tgt := 165) dX9_freed_71 rfl (by decide) (fun c1 => ?_) (fun c1 => ?_)
  · refine mK_iconst dX9_freed_165 rfl qic_m1 ?_
    exact mK_iret dX9_freed_166 rfl (h.1 c1)
  · refine mK_aload_n dX9_freed_74 rfl rfl (.head _) ?_
    refine mK_aload_n dX9_freed_75 rfl rfl (.head _) ?_
    refine ru_getI (k := 18) (ci := 8) dX9_freed_76 rfl rfl kw_1145 ?_
    refine mK_iconst dX9_freed_79 rfl qic_1 ?_
    refine mK_iadd dX9_freed_80 rfl ?_
    refine ru_putI (k := 19) (ci := 8) dX9_freed_81 rfl rfl rfl kw_1146 ?_
    exact (h.2 c1)
set_option maxRecDepth 20000 in
theorem T_X9_freed_26_32a {Γ : Nat × (Nat → Int32)} {d n0 bc bs : Nat} {Q : mQ} {σ : mS} (x1 : Int32) (r : Int32) (h : ((r = 0 → mK Γ M_X9_freed (d + 2) Q n0 bc bs 5 [(0, .ref 26), (1, .int x1)] [] 60 mSH (mPI σ 26 18 ((σ.1 26 18) + 1))) ∧ (¬ (r = 0) → Q (.inl (some (.int (1 + (σ.1 26 18))))) 60 mSH σ))) : mRt Γ M_X9_freed (d + 2) Q n0 bc bs 32 [(0, .ref 26), (1, .int x1)] [] (.inl (some (.int r))) 60 mSH σ := by
  show mK Γ M_X9_freed (d + 2) Q n0 bc bs 32 [(0, .ref 26), (1, .int x1)] [.int r] 60 mSH σ
  refine mK_if_eq (tgt := 42) dX9_freed_32 rfl (by decide) (fun c1 => ?_) (fun c1 => ?_)
  · refine mK_aload_n dX9_freed_42 rfl rfl (.head _) ?_
    refine mK_dup dX9_freed_43 rfl rfl ?_
    refine ru_getI (k := 18) (ci := 8) dX9_freed_44 rfl rfl kw_1145 ?_
    refine mK_iconst dX9_freed_47 rfl qic_1 ?_
    refine mK_iadd dX9_freed_48 rfl ?_
    refine ru_putI (k := 18) (ci := 8) dX9_freed_49 rfl rfl rfl kw_1145 ?_
    refine mK_goto (tgt := 5) dX9_freed_52 (by decide) ?_
    exact (h.1 c1)
  · refine mK_iconst dX9_freed_35 rfl qic_1 ?_
    refine mK_aload_n dX9_freed_36 rfl rfl (.head _) ?_
    refine ru_getI (k := 18) (ci := 8) dX9_freed_37 rfl rfl kw_1145 ?_
    refine mK_iadd dX9_freed_40 rfl ?_
    exact mK_iret dX9_freed_41 rfl (h.2 c1)
set_option maxRecDepth 20000 in
theorem T_X9_freed_26_84 {Γ : Nat × (Nat → Int32)} {d n0 bc bs : Nat} {Q : mQ} {σ : mS} (x1 : Int32) (h : (((σ.1 32 3) ≤ (σ.1 26 19) → mK Γ M_X9_freed (d + 2) Q n0 bc bs 60 [(0, .ref 26), (1, .int x1)] [] 60 mSH (mPI σ 26 18 ((σ.1 26 18) + 1))) ∧ (¬ ((σ.1 32 3) ≤ (σ.1 26 19)) → (((σ.1 26 18) = x1 → mK Γ M_X9_freed (d + 2) Q n0 bc bs 84 [(0, .ref 26), (1, .int x1)] [] 60 mSH (mPI σ 26 19 ((σ.1 26 19) + 1))) ∧ (¬ ((σ.1 26 18) = x1) → (((σ.1 26 19) = x1 → mK Γ M_X9_freed (d + 2) Q n0 bc bs 84 [(0, .ref 26), (1, .int x1)] [] 60 mSH (mPI σ 26 19 ((σ.1 26 19) + 1))) ∧ (¬ ((σ.1 26 19) = x1) → mCall Γ M_X9_isFree (d + 1) 0 0 [.ref 26, .int x1] 60 mSH σ (mRt Γ M_X9_freed (d + 2) Q n0 bc bs 119 [(0, .ref 26), (1, .int x1)] [])))))))) : mK Γ M_X9_freed (d + 2) Q n0 bc bs 84 [(0, .ref 26), (1, .int x1)] [] 60 mSH σ := by
  refine mK_aload_n dX9_freed_84 rfl rfl (.head _) ?_
  refine ru_getI (k := 19) (ci := 8) dX9_freed_85 rfl rfl kw_1146 ?_
  refine mK_aload_n dX9_freed_88 rfl rfl (.head _) ?_
  refine ru_getR (k := 11) (ci := 8) (a := 32) dX9_freed_89 rfl rfl rfl kw_1138 ?_
  refine ru_getIN (k := 3) (ci := 7) dX9_freed_92 rfl rfl kn_1086 ?_
  refine mK_icmp_ge (tgt := 152) dX9_freed_95 rfl (by decide) (fun c1 => ?_) (fun c1 => ?_)
  · refine mK_aload_n dX9_freed_152 rfl rfl (.head _) ?_
    refine mK_dup dX9_freed_153 rfl rfl ?_
    refine ru_getI (k := 18) (ci := 8) dX9_freed_154 rfl rfl kw_1145 ?_
    refine mK_iconst dX9_freed_157 rfl qic_1 ?_
    refine mK_iadd dX9_freed_158 rfl ?_
    refine ru_putI (k := 18) (ci := 8) dX9_freed_159 rfl rfl rfl kw_1145 ?_
    refine mK_goto (tgt := 60) dX9_freed_162 (by decide) ?_
    exact (h.1 c1)
  · refine mK_aload_n dX9_freed_98 rfl rfl (.head _) ?_
    refine ru_getI (k := 18) (ci := 8) dX9_freed_99 rfl rfl kw_1145 ?_
    refine mK_iload_n dX9_freed_102 rfl rfl (.tail _ (.head _)) ?_
    refine mK_icmp_eq (tgt := 139) dX9_freed_103 rfl (by decide) (fun c2 => ?_) (fun c2 => ?_)
    · refine mK_aload_n dX9_freed_139 rfl rfl (.head _) ?_
      refine mK_dup dX9_freed_140 rfl rfl ?_
      refine ru_getI (k := 19) (ci := 8) dX9_freed_141 rfl rfl kw_1146 ?_
      refine mK_iconst dX9_freed_144 rfl qic_1 ?_
      refine mK_iadd dX9_freed_145 rfl ?_
      refine ru_putI (k := 19) (ci := 8) dX9_freed_146 rfl rfl rfl kw_1146 ?_
      refine mK_goto (tgt := 84) dX9_freed_149 (by decide) ?_
      exact ((h.2 c1).1 c2)
    · refine mK_aload_n dX9_freed_106 rfl rfl (.head _) ?_
      refine ru_getI (k := 19) (ci := 8) dX9_freed_107 rfl rfl kw_1146 ?_
      refine mK_iload_n dX9_freed_110 rfl rfl (.tail _ (.head _)) ?_
      refine mK_icmp_eq (tgt := 139) dX9_freed_111 rfl (by decide) (fun c3 => ?_) (fun c3 => ?_)
      · refine mK_aload_n dX9_freed_139 rfl rfl (.head _) ?_
        refine mK_dup dX9_freed_140 rfl rfl ?_
        refine ru_getI (k := 19) (ci := 8) dX9_freed_141 rfl rfl kw_1146 ?_
        refine mK_iconst dX9_freed_144 rfl qic_1 ?_
        refine mK_iadd dX9_freed_145 rfl ?_
        refine ru_putI (k := 19) (ci := 8) dX9_freed_146 rfl rfl rfl kw_1146 ?_
        refine mK_goto (tgt := 84) dX9_freed_149 (by decide) ?_
        exact (((h.2 c1).2 c2).1 c3)
      · refine mK_aload_n dX9_freed_114 rfl rfl (.head _) ?_
        refine mK_iload_n dX9_freed_115 rfl rfl (.tail _ (.head _)) ?_
        refine mK_invV (J := M_X9_isFree) (k := 1) (as := [.int x1]) (st := []) (c1 := 0) (s1 := 0) dX9_freed_116 rfl jw_X9_isFree jn_X9_isFree rfl (Nat.le_of_ble_eq_true rfl) (Nat.zero_le _) (Nat.zero_le _) rfl kw_1567 kw_1569 kw_83 (b := 26) (Nat.le_of_ble_eq_true rfl) (Nat.le_of_ble_eq_true rfl) rfl ?_
        exact (((h.2 c1).2 c2).2 c3)
set_option maxRecDepth 20000 in
theorem T_X9_freed_26_119a {Γ : Nat × (Nat → Int32)} {d n0 bc bs : Nat} {Q : mQ} {σ : mS} (x1 : Int32) (r : Int32) (h : ((r = 0 → mK Γ M_X9_freed (d + 2) Q n0 bc bs 84 [(0, .ref 26), (1, .int x1)] [] 60 mSH (mPI σ 26 19 ((σ.1 26 19) + 1))) ∧ (¬ (r = 0) → Q (.inl (some (.int (((100 * (1 + (σ.1 26 18))) + 1) + (σ.1 26 19))))) 60 mSH σ))) : mRt Γ M_X9_freed (d + 2) Q n0 bc bs 119 [(0, .ref 26), (1, .int x1)] [] (.inl (some (.int r))) 60 mSH σ := by
  show mK Γ M_X9_freed (d + 2) Q n0 bc bs 119 [(0, .ref 26), (1, .int x1)] [.int r] 60 mSH σ
  refine mK_if_eq (tgt := 139) dX9_freed_119 rfl (by decide) (fun c1 => ?_) (fun c1 => ?_)
  · refine mK_aload_n dX9_freed_139 rfl rfl (.head _) ?_
    refine mK_dup dX9_freed_140 rfl rfl ?_
    refine ru_getI (k := 19) (ci := 8) dX9_freed_141 rfl rfl kw_1146 ?_
    refine mK_iconst dX9_freed_144 rfl qic_1 ?_
    refine mK_iadd dX9_freed_145 rfl ?_
    refine ru_putI (k := 19) (ci := 8) dX9_freed_146 rfl rfl rfl kw_1146 ?_
    refine mK_goto (tgt := 84) dX9_freed_149 (by decide) ?_
    exact (h.1 c1)
  · refine mK_bipush dX9_freed_122 rfl qbi_100 ?_
    refine mK_iconst dX9_freed_124 rfl qic_1 ?_
    refine mK_aload_n dX9_freed_125 rfl rfl (.head _) ?_
    refine ru_getI (k := 18) (ci := 8) dX9_freed_126 rfl rfl kw_1145 ?_
    refine mK_iadd dX9_freed_129 rfl ?_
    refine mK_imul dX9_freed_130 rfl ?_
    refine mK_iconst dX9_freed_131 rfl qic_1 ?_
    refine mK_iadd dX9_freed_132 rfl ?_
    refine mK_aload_n dX9_freed_133 rfl rfl (.head _) ?_
    refine ru_getI (k := 19) (ci := 8) dX9_freed_134 rfl rfl kw_1146 ?_
    refine mK_iadd dX9_freed_137 rfl ?_
    exact mK_iret dX9_freed_138 rfl (h.2 c1)
set_option maxRecDepth 20000 in
theorem E_X9_frees_26 {Γ : Nat × (Nat → Int32)} {d : Nat} {Q : mQ} {σ : mS} (a1 : Int32) (h : (((f_X9_isIn (mPI σ 26 0 0) a1 0 (((mPI σ 26 0 0).1 32 3) - 1)) = 0 ∨ (f_X9_isIn (mPI σ 26 0 0) a1 0 (((mPI σ 26 0 0).1 32 3) - 1)) = 1) ∧ (((f_X9_isItem_26 (mPI σ 26 0 0) a1) = 0 → Q (.inl (some (.int (h_X9_no_26 (mPI σ 26 0 0) 1).1))) 60 mSH (h_X9_no_26 (mPI σ 26 0 0) 1).2) ∧ (¬ ((f_X9_isItem_26 (mPI σ 26 0 0) a1) = 0) → ((vp_in a1 40) ∧ (((σ.1 52 (a1).toNatClampNeg) = 1 → Q (.inl (some (.int 0))) 60 mSH (mPI σ 26 0 0)) ∧ (¬ ((σ.1 52 (a1).toNatClampNeg) = 1) → mCall Γ M_X9_freed (d + 2) 0 0 [.ref 26, .int a1] 60 mSH (mPI σ 26 0 0) (mRt Γ M_X9_frees (d + 3) Q 60 0 0 36 [(0, .ref 26), (1, .int a1)] [])))))))) : mCall Γ M_X9_frees (d + 3) 0 0 [.ref 26, .int a1] 60 mSH σ Q := by
  refine mCall_of rfl (by decide) (Nat.le_of_ble_eq_true rfl) (mOkC (mOk_lo (Nat.le_of_ble_eq_true rfl)) (mOkC mOk_i mOkN)) ?_
  show mK Γ M_X9_frees (d + 3) Q 60 0 0 0 [(0, .ref 26), (1, .int a1)] [] 60 mSH σ
  refine mK_aload_n dX9_frees_0 rfl rfl (.head _) ?_
  refine mK_iconst dX9_frees_1 rfl qic_0 ?_
  refine ru_putI (k := 0) (ci := 8) dX9_frees_2 rfl rfl rfl kw_1127 ?_
  refine mK_aload_n dX9_frees_5 rfl rfl (.head _) ?_
  refine mK_iload_n dX9_frees_6 rfl rfl (.tail _ (.head _)) ?_
  refine mK_invV (J := M_X9_isItem) (k := 1) (as := [.int a1]) (st := []) (c1 := 0) (s1 := 0) dX9_frees_7 rfl jw_X9_isItem jn_X9_isItem rfl (Nat.le_of_ble_eq_true rfl) (Nat.zero_le _) (Nat.zero_le _) rfl kw_1495 kw_1497 kw_75 (b := 26) (Nat.le_of_ble_eq_true rfl) (Nat.le_of_ble_eq_true rfl) rfl ?_
  refine S_X9_isItem_26 a1 (h.1) ?_
  show mK Γ M_X9_frees (d + 3) Q 60 0 0 10 [(0, .ref 26), (1, .int a1)] [.int (f_X9_isItem_26 (mPI σ 26 0 0) a1)] 60 mSH (mPI σ 26 0 0)
  refine ru_if_ne (tgt := 19) dX9_frees_10 rfl (by decide) (fun c1 => ?_) (fun c1 => ?_)
  · refine mK_aload_n dX9_frees_19 rfl rfl (.head _) ?_
    refine ru_getR (k := 13) (ci := 8) (a := 52) dX9_frees_20 rfl rfl rfl kw_1140 ?_
    refine mK_iload_n dX9_frees_23 rfl rfl (.tail _ (.head _)) ?_
    refine ru_iald (n := 40) dX9_frees_24 rfl rfl ((h.2.2 c1).1) ?_
    refine mK_iconst dX9_frees_25 rfl qic_1 ?_
    refine ru_icmp_ne (tgt := 31) dX9_frees_26 rfl (by decide) (fun c2 => ?_) (fun c2 => ?_)
    · refine mK_aload_n dX9_frees_31 rfl rfl (.head _) ?_
      refine mK_iload_n dX9_frees_32 rfl rfl (.tail _ (.head _)) ?_
      refine mK_invV (J := M_X9_freed) (k := 1) (as := [.int a1]) (st := []) (c1 := 0) (s1 := 0) dX9_frees_33 rfl jw_X9_freed jn_X9_freed rfl (Nat.le_of_ble_eq_true rfl) (Nat.zero_le _) (Nat.zero_le _) rfl kw_1563 kw_1565 kw_82 (b := 26) (Nat.le_of_ble_eq_true rfl) (Nat.le_of_ble_eq_true rfl) rfl ?_
      exact ((h.2.2 c1).2.2 c2)
    · refine mK_iconst dX9_frees_29 rfl qic_0 ?_
      exact mK_iret dX9_frees_30 rfl ((h.2.2 c1).2.1 c2)
  · refine mK_aload_n dX9_frees_13 rfl rfl (.head _) ?_
    refine mK_iconst dX9_frees_14 rfl qic_1 ?_
    refine mK_invV (J := M_X9_no) (k := 1) (as := [.int 1]) (st := []) (c1 := 0) (s1 := 0) dX9_frees_15 rfl jw_X9_no jn_X9_no rfl (Nat.le_of_ble_eq_true rfl) (Nat.zero_le _) (Nat.zero_le _) rfl kw_1208 kw_1210 kw_38 (b := 26) (Nat.le_of_ble_eq_true rfl) (Nat.le_of_ble_eq_true rfl) rfl ?_
    refine S_X9_no_26 1 ?_
    show mK Γ M_X9_frees (d + 3) Q 60 0 0 18 [(0, .ref 26), (1, .int a1)] [.int (h_X9_no_26 (mPI σ 26 0 0) 1).1] 60 mSH (h_X9_no_26 (mPI σ 26 0 0) 1).2
    exact mK_iret dX9_frees_18 rfl (h.2.1 c1)
set_option maxRecDepth 20000 in
theorem T_X9_frees_26_36a {Γ : Nat × (Nat → Int32)} {d n0 bc bs : Nat} {Q : mQ} {σ : mS} (x1 : Int32) (r : Int32) (h : Q (.inl (some (.int r))) 60 mSH (mPI (mPI σ 26 18 (-1)) 26 19 (-1))) : mRt Γ M_X9_frees (d + 3) Q n0 bc bs 36 [(0, .ref 26), (1, .int x1)] [] (.inl (some (.int r))) 60 mSH σ := by
  show mK Γ M_X9_frees (d + 3) Q n0 bc bs 36 [(0, .ref 26), (1, .int x1)] [.int r] 60 mSH σ
  refine ru_istore_n (lv1 := [(0, .ref 26), (1, .int x1), (2, .int r)]) dX9_frees_36 rfl rfl (by decide) rfl ?_
  refine mK_aload_n dX9_frees_37 rfl rfl (.head _) ?_
  refine mK_iconst dX9_frees_38 rfl qic_m1 ?_
  refine ru_putI (k := 18) (ci := 8) dX9_frees_39 rfl rfl rfl kw_1145 ?_
  refine mK_aload_n dX9_frees_42 rfl rfl (.head _) ?_
  refine mK_iconst dX9_frees_43 rfl qic_m1 ?_
  refine ru_putI (k := 19) (ci := 8) dX9_frees_44 rfl rfl rfl kw_1146 ?_
  refine mK_iload_n dX9_frees_47 rfl rfl (.tail _ (.tail _ (.head _))) ?_
  exact mK_iret dX9_frees_48 rfl h
set_option maxRecDepth 20000 in
theorem E_X9_conceding_26 {Γ : Nat × (Nat → Int32)} {d : Nat} {Q : mQ} {σ : mS} (a1 : Int32) (a2 : Int32) (h : (((f_X9_isIn (mPI σ 26 0 0) a1 0 (((mPI σ 26 0 0).1 32 3) - 1)) = 0 ∨ (f_X9_isIn (mPI σ 26 0 0) a1 0 (((mPI σ 26 0 0).1 32 3) - 1)) = 1) ∧ (((f_X9_isItem_26 (mPI σ 26 0 0) a1) = 0 → Q (.inl (some (.int (h_X9_no_26 (mPI σ 26 0 0) 1).1))) 60 mSH (h_X9_no_26 (mPI σ 26 0 0) 1).2) ∧ (¬ ((f_X9_isItem_26 (mPI σ 26 0 0) a1) = 0) → (((f_X9_isIn (mPI σ 26 0 0) a2 0 (((mPI σ 26 0 0).1 32 0) - 1)) = 0 ∨ (f_X9_isIn (mPI σ 26 0 0) a2 0 (((mPI σ 26 0 0).1 32 0) - 1)) = 1) ∧ (((f_X9_isSpeaker_26 (mPI σ 26 0 0) a2) = 0 → Q (.inl (some (.int (h_X9_no_26 (mPI σ 26 0 0) 1).1))) 60 mSH (h_X9_no_26 (mPI σ 26 0 0) 1).2) ∧ (¬ ((f_X9_isSpeaker_26 (mPI σ 26 0 0) a2) = 0) → mCall Γ M_X9_leadWith (d + 2) 0 0 [.ref 26, .int a1, .int a2] 60 mSH (mPI σ 26 0 0) (mRt Γ M_X9_conceding (d + 3) Q 60 0 0 33 [(0, .ref 26), (1, .int a1), (2, .int a2)] [])))))))) : mCall Γ M_X9_conceding (d + 3) 0 0 [.ref 26, .int a1, .int a2] 60 mSH σ Q := by
  refine mCall_of rfl (by decide) (Nat.le_of_ble_eq_true rfl) (mOkC (mOk_lo (Nat.le_of_ble_eq_true rfl)) (mOkC mOk_i (mOkC mOk_i mOkN))) ?_
  show mK Γ M_X9_conceding (d + 3) Q 60 0 0 0 [(0, .ref 26), (1, .int a1), (2, .int a2)] [] 60 mSH σ
  refine mK_aload_n dX9_conceding_0 rfl rfl (.head _) ?_
  refine mK_iconst dX9_conceding_1 rfl qic_0 ?_
  refine ru_putI (k := 0) (ci := 8) dX9_conceding_2 rfl rfl rfl kw_1127 ?_
  refine mK_aload_n dX9_conceding_5 rfl rfl (.head _) ?_
  refine mK_iload_n dX9_conceding_6 rfl rfl (.tail _ (.head _)) ?_
  refine mK_invV (J := M_X9_isItem) (k := 1) (as := [.int a1]) (st := []) (c1 := 0) (s1 := 0) dX9_conceding_7 rfl jw_X9_isItem jn_X9_isItem rfl (Nat.le_of_ble_eq_true rfl) (Nat.zero_le _) (Nat.zero_le _) rfl kw_1495 kw_1497 kw_75 (b := 26) (Nat.le_of_ble_eq_true rfl) (Nat.le_of_ble_eq_true rfl) rfl ?_
  refine S_X9_isItem_26 a1 (h.1) ?_
  show mK Γ M_X9_conceding (d + 3) Q 60 0 0 10 [(0, .ref 26), (1, .int a1), (2, .int a2)] [.int (f_X9_isItem_26 (mPI σ 26 0 0) a1)] 60 mSH (mPI σ 26 0 0)
  refine mK_if_eq (tgt := 21) dX9_conceding_10 rfl (by decide) (fun c1 => ?_) (fun c1 => ?_)
  · refine mK_aload_n dX9_conceding_21 rfl rfl (.head _) ?_
    refine mK_iconst dX9_conceding_22 rfl qic_1 ?_
    refine mK_invV (J := M_X9_no) (k := 1) (as := [.int 1]) (st := []) (c1 := 0) (s1 := 0) dX9_conceding_23 rfl jw_X9_no jn_X9_no rfl (Nat.le_of_ble_eq_true rfl) (Nat.zero_le _) (Nat.zero_le _) rfl kw_1208 kw_1210 kw_38 (b := 26) (Nat.le_of_ble_eq_true rfl) (Nat.le_of_ble_eq_true rfl) rfl ?_
    refine S_X9_no_26 1 ?_
    show mK Γ M_X9_conceding (d + 3) Q 60 0 0 26 [(0, .ref 26), (1, .int a1), (2, .int a2)] [.int (h_X9_no_26 (mPI σ 26 0 0) 1).1] 60 mSH (h_X9_no_26 (mPI σ 26 0 0) 1).2
    exact mK_iret dX9_conceding_26 rfl (h.2.1 c1)
  · refine mK_aload_n dX9_conceding_13 rfl rfl (.head _) ?_
    refine mK_iload_n dX9_conceding_14 rfl rfl (.tail _ (.tail _ (.head _))) ?_
    refine mK_invV (J := M_X9_isSpeaker) (k := 1) (as := [.int a2]) (st := []) (c1 := 0) (s1 := 0) dX9_conceding_15 rfl jw_X9_isSpeaker jn_X9_isSpeaker rfl (Nat.le_of_ble_eq_true rfl) (Nat.zero_le _) (Nat.zero_le _) rfl kw_1473 kw_1475 kw_71 (b := 26) (Nat.le_of_ble_eq_true rfl) (Nat.le_of_ble_eq_true rfl) rfl ?_
    refine S_X9_isSpeaker_26 a2 ((h.2.2 c1).1) ?_
    show mK Γ M_X9_conceding (d + 3) Q 60 0 0 18 [(0, .ref 26), (1, .int a1), (2, .int a2)] [.int (f_X9_isSpeaker_26 (mPI σ 26 0 0) a2)] 60 mSH (mPI σ 26 0 0)
    refine ru_if_ne (tgt := 27) dX9_conceding_18 rfl (by decide) (fun c2 => ?_) (fun c2 => ?_)
    · refine mK_aload_n dX9_conceding_27 rfl rfl (.head _) ?_
      refine mK_iload_n dX9_conceding_28 rfl rfl (.tail _ (.head _)) ?_
      refine mK_iload_n dX9_conceding_29 rfl rfl (.tail _ (.tail _ (.head _))) ?_
      refine mK_invV (J := M_X9_leadWith) (k := 2) (as := [.int a1, .int a2]) (st := []) (c1 := 0) (s1 := 0) dX9_conceding_30 rfl jw_X9_leadWith jn_X9_leadWith rfl (Nat.le_of_ble_eq_true rfl) (Nat.zero_le _) (Nat.zero_le _) rfl kw_1539 kw_1541 kw_80 (b := 26) (Nat.le_of_ble_eq_true rfl) (Nat.le_of_ble_eq_true rfl) rfl ?_
      exact ((h.2.2 c1).2.2 c2)
    · refine mK_aload_n dX9_conceding_21 rfl rfl (.head _) ?_
      refine mK_iconst dX9_conceding_22 rfl qic_1 ?_
      refine mK_invV (J := M_X9_no) (k := 1) (as := [.int 1]) (st := []) (c1 := 0) (s1 := 0) dX9_conceding_23 rfl jw_X9_no jn_X9_no rfl (Nat.le_of_ble_eq_true rfl) (Nat.zero_le _) (Nat.zero_le _) rfl kw_1208 kw_1210 kw_38 (b := 26) (Nat.le_of_ble_eq_true rfl) (Nat.le_of_ble_eq_true rfl) rfl ?_
      refine S_X9_no_26 1 ?_
      show mK Γ M_X9_conceding (d + 3) Q 60 0 0 26 [(0, .ref 26), (1, .int a1), (2, .int a2)] [.int (h_X9_no_26 (mPI σ 26 0 0) 1).1] 60 mSH (h_X9_no_26 (mPI σ 26 0 0) 1).2
      exact mK_iret dX9_conceding_26 rfl ((h.2.2 c1).2.1 c2)
set_option maxRecDepth 20000 in
theorem T_X9_conceding_26_33a {Γ : Nat × (Nat → Int32)} {d n0 bc bs : Nat} {Q : mQ} {σ : mS} (x1 : Int32) (x2 : Int32) (r : Int32) (h : Q (.inl (some (.int r))) 60 mSH σ) : mRt Γ M_X9_conceding (d + 3) Q n0 bc bs 33 [(0, .ref 26), (1, .int x1), (2, .int x2)] [] (.inl (some (.int r))) 60 mSH σ := by
  show mK Γ M_X9_conceding (d + 3) Q n0 bc bs 33 [(0, .ref 26), (1, .int x1), (2, .int x2)] [.int r] 60 mSH σ
  exact mK_iret dX9_conceding_33 rfl h
