
set_option maxRecDepth 20000 in
theorem E_X9_singleHolds_26 {Γ : Nat × (Nat → Int32)} {d : Nat} {Q : mQ} {σ : mS} (h : mCall Γ M_X9_word (d + 1) 0 0 [.ref 26, .ref 1218] 60 mSH σ (mRt Γ M_X9_singleHolds (d + 2) Q 60 0 0 6 [(0, .ref 26)] [])) : mCall Γ M_X9_singleHolds (d + 2) 0 0 [.ref 26] 60 mSH σ Q := by
  refine mCall_of rfl (by decide) (Nat.le_of_ble_eq_true rfl) (mOkC (mOk_lo (Nat.le_of_ble_eq_true rfl)) mOkN) ?_
  show mK Γ M_X9_singleHolds (d + 2) Q 60 0 0 0 [(0, .ref 26)] [] 60 mSH σ
  refine mK_aload_n dX9_singleHolds_0 rfl rfl (.head _) ?_
  refine mK_ldcS (i := 18) dX9_singleHolds_1 rfl (by decide) rfl rfl ?_
  refine mK_invV (J := M_X9_word) (k := 1) (as := [.ref 1218]) (st := []) (c1 := 0) (s1 := 0) dX9_singleHolds_3 rfl jw_X9_word jn_X9_word rfl (Nat.le_of_ble_eq_true rfl) (Nat.zero_le _) (Nat.zero_le _) rfl kw_1251 kw_1253 kw_43 (b := 26) (Nat.le_of_ble_eq_true rfl) (Nat.le_of_ble_eq_true rfl) rfl ?_
  exact h
set_option maxRecDepth 20000 in
theorem T_X9_singleHolds_26_6a {Γ : Nat × (Nat → Int32)} {d n0 bc bs : Nat} {Q : mQ} {σ : mS} (r : Int32) (h : ((r = 0 → mCall Γ M_X9_isSymbol (d + 1) 0 0 [.ref 26, .int 91] 60 mSH σ (mRt Γ M_X9_singleHolds (d + 2) Q n0 bc bs 29 [(0, .ref 26)] [.ref 26])) ∧ (¬ (r = 0) → mCall Γ M_X9_singleHolds (d + 1) 0 0 [.ref 26] 60 mSH σ (mRt Γ M_X9_singleHolds (d + 2) Q n0 bc bs 13 [(0, .ref 26)] [])))) : mRt Γ M_X9_singleHolds (d + 2) Q n0 bc bs 6 [(0, .ref 26)] [] (.inl (some (.int r))) 60 mSH σ := by
  show mK Γ M_X9_singleHolds (d + 2) Q n0 bc bs 6 [(0, .ref 26)] [.int r] 60 mSH σ
  refine mK_if_eq (tgt := 22) dX9_singleHolds_6 rfl (by decide) (fun c1 => ?_) (fun c1 => ?_)
  · refine mK_aload_n dX9_singleHolds_22 rfl rfl (.head _) ?_
    refine mK_aload_n dX9_singleHolds_23 rfl rfl (.head _) ?_
    refine mK_bipush dX9_singleHolds_24 rfl qbi_91 ?_
    refine mK_invV (J := M_X9_isSymbol) (k := 1) (as := [.int 91]) (st := [.ref 26]) (c1 := 0) (s1 := 0) dX9_singleHolds_26 rfl jw_X9_isSymbol jn_X9_isSymbol rfl (Nat.le_of_ble_eq_true rfl) (Nat.zero_le _) (Nat.zero_le _) rfl kw_1353 kw_1355 kw_52 (b := 26) (Nat.le_of_ble_eq_true rfl) (Nat.le_of_ble_eq_true rfl) rfl ?_
    exact (h.1 c1)
  · refine mK_aload_n dX9_singleHolds_9 rfl rfl (.head _) ?_
    refine mK_invV (J := M_X9_singleHolds) (k := 0) (as := []) (st := []) (c1 := 0) (s1 := 0) dX9_singleHolds_10 rfl jw_X9_singleHolds jn_X9_singleHolds rfl (Nat.le_of_ble_eq_true rfl) (Nat.zero_le _) (Nat.zero_le _) rfl kw_1449 kw_1451 kw_68 (b := 26) (Nat.le_of_ble_eq_true rfl) (Nat.le_of_ble_eq_true rfl) rfl ?_
    exact (h.2 c1)
set_option maxRecDepth 20000 in
theorem T_X9_singleHolds_26_29a {Γ : Nat × (Nat → Int32)} {d n0 bc bs : Nat} {Q : mQ} {σ : mS} (r : Int32) (h : mCall Γ M_X9_past (d + 1) 0 0 [.ref 26, .int r] 60 mSH σ (mRt Γ M_X9_singleHolds (d + 2) Q n0 bc bs 32 [(0, .ref 26)] [])) : mRt Γ M_X9_singleHolds (d + 2) Q n0 bc bs 29 [(0, .ref 26)] [.ref 26] (.inl (some (.int r))) 60 mSH σ := by
  show mK Γ M_X9_singleHolds (d + 2) Q n0 bc bs 29 [(0, .ref 26)] [.int r, .ref 26] 60 mSH σ
  refine mK_invV (J := M_X9_past) (k := 1) (as := [.int r]) (st := []) (c1 := 0) (s1 := 0) dX9_singleHolds_29 rfl jw_X9_past jn_X9_past rfl (Nat.le_of_ble_eq_true rfl) (Nat.zero_le _) (Nat.zero_le _) rfl kw_1310 kw_1312 kw_45 (b := 26) (Nat.le_of_ble_eq_true rfl) (Nat.le_of_ble_eq_true rfl) rfl ?_
  exact h
set_option maxRecDepth 20000 in
theorem T_X9_singleHolds_26_13a {Γ : Nat × (Nat → Int32)} {d n0 bc bs : Nat} {Q : mQ} {σ : mS} (r : Int32) (h : ((r = 0 → Q (.inl (some (.int 1))) 60 mSH σ) ∧ (¬ (r = 0) → Q (.inl (some (.int 0))) 60 mSH σ))) : mRt Γ M_X9_singleHolds (d + 2) Q n0 bc bs 13 [(0, .ref 26)] [] (.inl (some (.int r))) 60 mSH σ := by
  show mK Γ M_X9_singleHolds (d + 2) Q n0 bc bs 13 [(0, .ref 26)] [.int r] 60 mSH σ
  refine ru_if_ne (tgt := 20) dX9_singleHolds_13 rfl (by decide) (fun c1 => ?_) (fun c1 => ?_)
  · refine mK_iconst dX9_singleHolds_20 rfl qic_0 ?_
    exact mK_zret dX9_singleHolds_21 rfl (by decide) (h.2 c1)
  · refine mK_iconst dX9_singleHolds_16 rfl qic_1 ?_
    refine mK_goto (tgt := 21) dX9_singleHolds_17 (by decide) ?_
    exact mK_zret dX9_singleHolds_21 rfl (by decide) (h.1 c1)
set_option maxRecDepth 20000 in
theorem T_X9_singleHolds_26_32a {Γ : Nat × (Nat → Int32)} {d n0 bc bs : Nat} {Q : mQ} {σ : mS} (r : Int32) (h : ((r = 0 → mCall Γ M_X9_is (d + 1) 0 0 [.ref 26, .ref 1217] 60 mSH σ (mRt Γ M_X9_singleHolds (d + 2) Q n0 bc bs 58 [(0, .ref 26)] [])) ∧ (¬ (r = 0) → mCall Γ M_X9_testHolds (d + 1) 0 0 [.ref 26] 60 mSH σ (mRt Γ M_X9_singleHolds (d + 2) Q n0 bc bs 39 [(0, .ref 26)] [])))) : mRt Γ M_X9_singleHolds (d + 2) Q n0 bc bs 32 [(0, .ref 26)] [] (.inl (some (.int r))) 60 mSH σ := by
  show mK Γ M_X9_singleHolds (d + 2) Q n0 bc bs 32 [(0, .ref 26)] [.int r] 60 mSH σ
  refine mK_if_eq (tgt := 52) dX9_singleHolds_32 rfl (by decide) (fun c1 => ?_) (fun c1 => ?_)
  · refine mK_aload_n dX9_singleHolds_52 rfl rfl (.head _) ?_
    refine mK_ldcS (i := 17) dX9_singleHolds_53 rfl (by decide) rfl rfl ?_
    refine mK_invV (J := M_X9_is) (k := 1) (as := [.ref 1217]) (st := []) (c1 := 0) (s1 := 0) dX9_singleHolds_55 rfl jw_X9_is jn_X9_is rfl (Nat.le_of_ble_eq_true rfl) (Nat.zero_le _) (Nat.zero_le _) rfl kw_1255 kw_1257 kw_44 (b := 26) (Nat.le_of_ble_eq_true rfl) (Nat.le_of_ble_eq_true rfl) rfl ?_
    exact (h.1 c1)
  · refine mK_aload_n dX9_singleHolds_35 rfl rfl (.head _) ?_
    refine mK_invV (J := M_X9_testHolds) (k := 0) (as := []) (st := []) (c1 := 0) (s1 := 0) dX9_singleHolds_36 rfl jw_X9_testHolds jn_X9_testHolds rfl (Nat.le_of_ble_eq_true rfl) (Nat.zero_le _) (Nat.zero_le _) rfl kw_1441 kw_1443 kw_66 (b := 26) (Nat.le_of_ble_eq_true rfl) (Nat.le_of_ble_eq_true rfl) rfl ?_
    exact (h.2 c1)
set_option maxRecDepth 20000 in
theorem T_X9_singleHolds_26_58a {Γ : Nat × (Nat → Int32)} {d n0 bc bs : Nat} {Q : mQ} {σ : mS} (r : Int32) (h : mCall Γ M_X9_is (d + 1) 0 0 [.ref 26, .ref 1214] 60 mSH σ (mRt Γ M_X9_singleHolds (d + 2) Q n0 bc bs 65 [(0, .ref 26), (1, .int r)] [])) : mRt Γ M_X9_singleHolds (d + 2) Q n0 bc bs 58 [(0, .ref 26)] [] (.inl (some (.int r))) 60 mSH σ := by
  show mK Γ M_X9_singleHolds (d + 2) Q n0 bc bs 58 [(0, .ref 26)] [.int r] 60 mSH σ
  refine ru_istore_n (lv1 := [(0, .ref 26), (1, .int r)]) dX9_singleHolds_58 rfl rfl (by decide) rfl ?_
  refine mK_aload_n dX9_singleHolds_59 rfl rfl (.head _) ?_
  refine mK_ldcS (i := 14) dX9_singleHolds_60 rfl (by decide) rfl rfl ?_
  refine mK_invV (J := M_X9_is) (k := 1) (as := [.ref 1214]) (st := []) (c1 := 0) (s1 := 0) dX9_singleHolds_62 rfl jw_X9_is jn_X9_is rfl (Nat.le_of_ble_eq_true rfl) (Nat.zero_le _) (Nat.zero_le _) rfl kw_1255 kw_1257 kw_44 (b := 26) (Nat.le_of_ble_eq_true rfl) (Nat.le_of_ble_eq_true rfl) rfl ?_
  exact h
set_option maxRecDepth 20000 in
theorem T_X9_singleHolds_26_39a {Γ : Nat × (Nat → Int32)} {d n0 bc bs : Nat} {Q : mQ} {σ : mS} (r : Int32) (h : ((r = 0 ∨ r = 1) ∧ Q (.inl (some (.int r))) 60 mSH (mPI σ 26 10 ((σ.1 26 10) + 1)))) : mRt Γ M_X9_singleHolds (d + 2) Q n0 bc bs 39 [(0, .ref 26)] [] (.inl (some (.int r))) 60 mSH σ := by
  show mK Γ M_X9_singleHolds (d + 2) Q n0 bc bs 39 [(0, .ref 26)] [.int r] 60 mSH σ
  refine ru_istore_n (lv1 := [(0, .ref 26), (1, .int r)]) dX9_singleHolds_39 rfl rfl (by decide) rfl ?_
  refine mK_aload_n dX9_singleHolds_40 rfl rfl (.head _) ?_
  refine mK_dup dX9_singleHolds_41 rfl rfl ?_
  refine ru_getI (k := 10) (ci := 8) dX9_singleHolds_42 rfl rfl kw_1137 ?_
  refine mK_iconst dX9_singleHolds_45 rfl qic_1 ?_
  refine mK_iadd dX9_singleHolds_46 rfl ?_
  refine ru_putI (k := 10) (ci := 8) dX9_singleHolds_47 rfl rfl rfl kw_1137 ?_
  refine mK_iload_n dX9_singleHolds_50 rfl rfl (.tail _ (.head _)) ?_
  exact mK_zret dX9_singleHolds_51 rfl (h.1) h.2
set_option maxRecDepth 20000 in
theorem T_X9_singleHolds_26_65a {Γ : Nat × (Nat → Int32)} {d n0 bc bs : Nat} {Q : mQ} {σ : mS} (x1 : Int32) (r : Int32) (h : ((r = 0 → mCall Γ M_X9_is (d + 1) 0 0 [.ref 26, .ref 1215] 60 mSH σ (mRt Γ M_X9_singleHolds (d + 2) Q n0 bc bs 78 [(0, .ref 26), (1, .int x1)] [])) ∧ (¬ (r = 0) → ((vp_in ((σ.1 26 10) + 1) 402) ∧ mCall Γ M_X8_itemOf (d + 1) 0 0 [.ref 32, .long (σ.2.1 31 ((σ.1 26 10) + 1).toNatClampNeg)] 60 mSH σ (mRt Γ M_X9_singleHolds (d + 2) Q n0 bc bs 105 [(0, .ref 26), (1, .int x1), (2, .int 1)] []))))) : mRt Γ M_X9_singleHolds (d + 2) Q n0 bc bs 65 [(0, .ref 26), (1, .int x1)] [] (.inl (some (.int r))) 60 mSH σ := by
  show mK Γ M_X9_singleHolds (d + 2) Q n0 bc bs 65 [(0, .ref 26), (1, .int x1)] [.int r] 60 mSH σ
  refine mK_if_eq (tgt := 72) dX9_singleHolds_65 rfl (by decide) (fun c1 => ?_) (fun c1 => ?_)
  · refine mK_aload_n dX9_singleHolds_72 rfl rfl (.head _) ?_
    refine mK_ldcS (i := 15) dX9_singleHolds_73 rfl (by decide) rfl rfl ?_
    refine mK_invV (J := M_X9_is) (k := 1) (as := [.ref 1215]) (st := []) (c1 := 0) (s1 := 0) dX9_singleHolds_75 rfl jw_X9_is jn_X9_is rfl (Nat.le_of_ble_eq_true rfl) (Nat.zero_le _) (Nat.zero_le _) rfl kw_1255 kw_1257 kw_44 (b := 26) (Nat.le_of_ble_eq_true rfl) (Nat.le_of_ble_eq_true rfl) rfl ?_
    exact (h.1 c1)
  · refine mK_iconst dX9_singleHolds_68 rfl qic_1 ?_
    refine mK_goto (tgt := 86) dX9_singleHolds_69 (by decide) ?_
    refine ru_istore_n (lv1 := [(0, .ref 26), (1, .int x1), (2, .int 1)]) dX9_singleHolds_86 rfl rfl (by decide) rfl ?_
    refine mK_aload_n dX9_singleHolds_87 rfl rfl (.head _) ?_
    refine ru_getR (k := 11) (ci := 8) (a := 32) dX9_singleHolds_88 rfl rfl rfl kw_1138 ?_
    refine mK_aload_n dX9_singleHolds_91 rfl rfl (.head _) ?_
    refine ru_getR (k := 9) (ci := 8) (a := 31) dX9_singleHolds_92 rfl rfl rfl kw_1136 ?_
    refine mK_aload_n dX9_singleHolds_95 rfl rfl (.head _) ?_
    refine ru_getI (k := 10) (ci := 8) dX9_singleHolds_96 rfl rfl kw_1137 ?_
    refine mK_iconst dX9_singleHolds_99 rfl qic_1 ?_
    refine mK_iadd dX9_singleHolds_100 rfl ?_
    refine ru_lald (n := 402) dX9_singleHolds_101 rfl rfl ((h.2 c1).1) ?_
    refine mK_invV (J := M_X8_itemOf) (k := 1) (as := [.long (σ.2.1 31 ((σ.1 26 10) + 1).toNatClampNeg)]) (st := []) (c1 := 0) (s1 := 0) dX9_singleHolds_102 rfl jw_X8_itemOf jn_X8_itemOf rfl (Nat.le_of_ble_eq_true rfl) (Nat.zero_le _) (Nat.zero_le _) rfl kw_1401 kw_1402 kw_1403 (b := 32) (Nat.le_of_ble_eq_true rfl) (Nat.le_of_ble_eq_true rfl) rfl ?_
    exact (h.2 c1).2
set_option maxRecDepth 20000 in
theorem T_X9_singleHolds_26_78a {Γ : Nat × (Nat → Int32)} {d n0 bc bs : Nat} {Q : mQ} {σ : mS} (x1 : Int32) (r : Int32) (h : ((r = 0 → ((vp_in ((σ.1 26 10) + 1) 402) ∧ mCall Γ M_X8_itemOf (d + 1) 0 0 [.ref 32, .long (σ.2.1 31 ((σ.1 26 10) + 1).toNatClampNeg)] 60 mSH σ (mRt Γ M_X9_singleHolds (d + 2) Q n0 bc bs 105 [(0, .ref 26), (1, .int x1), (2, .int 0)] []))) ∧ (¬ (r = 0) → ((vp_in ((σ.1 26 10) + 1) 402) ∧ mCall Γ M_X8_itemOf (d + 1) 0 0 [.ref 32, .long (σ.2.1 31 ((σ.1 26 10) + 1).toNatClampNeg)] 60 mSH σ (mRt Γ M_X9_singleHolds (d + 2) Q n0 bc bs 105 [(0, .ref 26), (1, .int x1), (2, .int 2)] []))))) : mRt Γ M_X9_singleHolds (d + 2) Q n0 bc bs 78 [(0, .ref 26), (1, .int x1)] [] (.inl (some (.int r))) 60 mSH σ := by
  show mK Γ M_X9_singleHolds (d + 2) Q n0 bc bs 78 [(0, .ref 26), (1, .int x1)] [.int r] 60 mSH σ
  refine mK_if_eq (tgt := 85) dX9_singleHolds_78 rfl (by decide) (fun c1 => ?_) (fun c1 => ?_)
  · refine mK_iconst dX9_singleHolds_85 rfl qic_0 ?_
    refine ru_istore_n (lv1 := [(0, .ref 26), (1, .int x1), (2, .int 0)]) dX9_singleHolds_86 rfl rfl (by decide) rfl ?_
    refine mK_aload_n dX9_singleHolds_87 rfl rfl (.head _) ?_
    refine ru_getR (k := 11) (ci := 8) (a := 32) dX9_singleHolds_88 rfl rfl rfl kw_1138 ?_
    refine mK_aload_n dX9_singleHolds_91 rfl rfl (.head _) ?_
    refine ru_getR (k := 9) (ci := 8) (a := 31) dX9_singleHolds_92 rfl rfl rfl kw_1136 ?_
    refine mK_aload_n dX9_singleHolds_95 rfl rfl (.head _) ?_
    refine ru_getI (k := 10) (ci := 8) dX9_singleHolds_96 rfl rfl kw_1137 ?_
    refine mK_iconst dX9_singleHolds_99 rfl qic_1 ?_
    refine mK_iadd dX9_singleHolds_100 rfl ?_
    refine ru_lald (n := 402) dX9_singleHolds_101 rfl rfl ((h.1 c1).1) ?_
    refine mK_invV (J := M_X8_itemOf) (k := 1) (as := [.long (σ.2.1 31 ((σ.1 26 10) + 1).toNatClampNeg)]) (st := []) (c1 := 0) (s1 := 0) dX9_singleHolds_102 rfl jw_X8_itemOf jn_X8_itemOf rfl (Nat.le_of_ble_eq_true rfl) (Nat.zero_le _) (Nat.zero_le _) rfl kw_1401 kw_1402 kw_1403 (b := 32) (Nat.le_of_ble_eq_true rfl) (Nat.le_of_ble_eq_true rfl) rfl ?_
    exact (h.1 c1).2
  · refine mK_iconst dX9_singleHolds_81 rfl qic_2 ?_
    refine mK_goto (tgt := 86) dX9_singleHolds_82 (by decide) ?_
    refine ru_istore_n (lv1 := [(0, .ref 26), (1, .int x1), (2, .int 2)]) dX9_singleHolds_86 rfl rfl (by decide) rfl ?_
    refine mK_aload_n dX9_singleHolds_87 rfl rfl (.head _) ?_
    refine ru_getR (k := 11) (ci := 8) (a := 32) dX9_singleHolds_88 rfl rfl rfl kw_1138 ?_
    refine mK_aload_n dX9_singleHolds_91 rfl rfl (.head _) ?_
    refine ru_getR (k := 9) (ci := 8) (a := 31) dX9_singleHolds_92 rfl rfl rfl kw_1136 ?_
    refine mK_aload_n dX9_singleHolds_95 rfl rfl (.head _) ?_
    refine ru_getI (k := 10) (ci := 8) dX9_singleHolds_96 rfl rfl kw_1137 ?_
    refine mK_iconst dX9_singleHolds_99 rfl qic_1 ?_
    refine mK_iadd dX9_singleHolds_100 rfl ?_
    refine ru_lald (n := 402) dX9_singleHolds_101 rfl rfl ((h.2 c1).1) ?_
    refine mK_invV (J := M_X8_itemOf) (k := 1) (as := [.long (σ.2.1 31 ((σ.1 26 10) + 1).toNatClampNeg)]) (st := []) (c1 := 0) (s1 := 0) dX9_singleHolds_102 rfl jw_X8_itemOf jn_X8_itemOf rfl (Nat.le_of_ble_eq_true rfl) (Nat.zero_le _) (Nat.zero_le _) rfl kw_1401 kw_1402 kw_1403 (b := 32) (Nat.le_of_ble_eq_true rfl) (Nat.le_of_ble_eq_true rfl) rfl ?_
    exact (h.2 c1).2
set_option maxRecDepth 20000 in
theorem T_X9_singleHolds_26_105a {Γ : Nat × (Nat → Int32)} {d n0 bc bs : Nat} {Q : mQ} {σ : mS} (x1 : Int32) (x2 : Int32) (r : Int32) (h : ((x1 = 0 → ((vp_in r 40) ∧ (((σ.1 54 (r).toNatClampNeg) = x2 → Q (.inl (some (.int 1))) 60 mSH (mPI σ 26 10 ((σ.1 26 10) + 2))) ∧ (¬ ((σ.1 54 (r).toNatClampNeg) = x2) → Q (.inl (some (.int 0))) 60 mSH (mPI σ 26 10 ((σ.1 26 10) + 2)))))) ∧ (¬ (x1 = 0) → ((vp_in r 40) ∧ (((σ.1 41 (r).toNatClampNeg) = 1 → Q (.inl (some (.int 1))) 60 mSH (mPI σ 26 10 ((σ.1 26 10) + 2))) ∧ (¬ ((σ.1 41 (r).toNatClampNeg) = 1) → Q (.inl (some (.int 0))) 60 mSH (mPI σ 26 10 ((σ.1 26 10) + 2)))))))) : mRt Γ M_X9_singleHolds (d + 2) Q n0 bc bs 105 [(0, .ref 26), (1, .int x1), (2, .int x2)] [] (.inl (some (.int r))) 60 mSH σ := by
  show mK Γ M_X9_singleHolds (d + 2) Q n0 bc bs 105 [(0, .ref 26), (1, .int x1), (2, .int x2)] [.int r] 60 mSH σ
  refine ru_istore_n (lv1 := [(0, .ref 26), (1, .int x1), (2, .int x2), (3, .int r)]) dX9_singleHolds_105 rfl rfl (by decide) rfl ?_
  refine mK_aload_n dX9_singleHolds_106 rfl rfl (.head _) ?_
  refine mK_dup dX9_singleHolds_107 rfl rfl ?_
  refine ru_getI (k := 10) (ci := 8) dX9_singleHolds_108 rfl rfl kw_1137 ?_
  refine mK_iconst dX9_singleHolds_111 rfl qic_2 ?_
  refine mK_iadd dX9_singleHolds_112 rfl ?_
  refine ru_putI (k := 10) (ci := 8) dX9_singleHolds_113 rfl rfl rfl kw_1137 ?_
  refine mK_iload_n dX9_singleHolds_116 rfl rfl (.tail _ (.head _)) ?_
  refine mK_if_eq (tgt := 141) dX9_singleHolds_117 rfl (by decide) (fun c1 => ?_) (fun c1 => ?_)
  · refine mK_aload_n dX9_singleHolds_141 rfl rfl (.head _) ?_
    refine ru_getR (k := 16) (ci := 8) (a := 54) dX9_singleHolds_142 rfl rfl rfl kw_1143 ?_
    refine mK_iload_n dX9_singleHolds_145 rfl rfl (.tail _ (.tail _ (.tail _ (.head _)))) ?_
    refine ru_iald (n := 40) dX9_singleHolds_146 rfl rfl ((h.1 c1).1) ?_
    refine mK_iload_n dX9_singleHolds_147 rfl rfl (.tail _ (.tail _ (.head _))) ?_
    refine ru_icmp_ne (tgt := 155) dX9_singleHolds_148 rfl (by decide) (fun c2 => ?_) (fun c2 => ?_)
    · refine mK_iconst dX9_singleHolds_155 rfl qic_0 ?_
      exact mK_zret dX9_singleHolds_156 rfl (by decide) ((h.1 c1).2.2 c2)
    · refine mK_iconst dX9_singleHolds_151 rfl qic_1 ?_
      refine mK_goto (tgt := 156) dX9_singleHolds_152 (by decide) ?_
      exact mK_zret dX9_singleHolds_156 rfl (by decide) ((h.1 c1).2.1 c2)
  · refine mK_aload_n dX9_singleHolds_120 rfl rfl (.head _) ?_
    refine ru_getR (k := 11) (ci := 8) (a := 32) dX9_singleHolds_121 rfl rfl rfl kw_1138 ?_
    refine ru_getRN (k := 10) (ci := 7) (a := 41) dX9_singleHolds_124 rfl rfl rfl kn_1100 ?_
    refine mK_iload_n dX9_singleHolds_127 rfl rfl (.tail _ (.tail _ (.tail _ (.head _)))) ?_
    refine ru_iald (n := 40) dX9_singleHolds_128 rfl rfl ((h.2 c1).1) ?_
    refine mK_iconst dX9_singleHolds_129 rfl qic_1 ?_
    refine ru_icmp_ne (tgt := 137) dX9_singleHolds_130 rfl (by decide) (fun c3 => ?_) (fun c3 => ?_)
    · refine mK_iconst dX9_singleHolds_137 rfl qic_0 ?_
      refine mK_goto (tgt := 156) dX9_singleHolds_138 (by decide) ?_
      exact mK_zret dX9_singleHolds_156 rfl (by decide) ((h.2 c1).2.2 c3)
    · refine mK_iconst dX9_singleHolds_133 rfl qic_1 ?_
      refine mK_goto (tgt := 156) dX9_singleHolds_134 (by decide) ?_
      exact mK_zret dX9_singleHolds_156 rfl (by decide) ((h.2 c1).2.1 c3)
set_option maxRecDepth 20000 in
theorem E_X9_bothHold_26 {Γ : Nat × (Nat → Int32)} {d : Nat} {Q : mQ} {σ : mS} (h : mCall Γ M_X9_singleHolds (d + 1) 0 0 [.ref 26] 60 mSH σ (mRt Γ M_X9_bothHold (d + 2) Q 60 0 0 4 [(0, .ref 26)] [])) : mCall Γ M_X9_bothHold (d + 2) 0 0 [.ref 26] 60 mSH σ Q := by
  refine mCall_of rfl (by decide) (Nat.le_of_ble_eq_true rfl) (mOkC (mOk_lo (Nat.le_of_ble_eq_true rfl)) mOkN) ?_
  show mK Γ M_X9_bothHold (d + 2) Q 60 0 0 0 [(0, .ref 26)] [] 60 mSH σ
  refine mK_aload_n dX9_bothHold_0 rfl rfl (.head _) ?_
  refine mK_invV (J := M_X9_singleHolds) (k := 0) (as := []) (st := []) (c1 := 0) (s1 := 0) dX9_bothHold_1 rfl jw_X9_singleHolds jn_X9_singleHolds rfl (Nat.le_of_ble_eq_true rfl) (Nat.zero_le _) (Nat.zero_le _) rfl kw_1449 kw_1451 kw_68 (b := 26) (Nat.le_of_ble_eq_true rfl) (Nat.le_of_ble_eq_true rfl) rfl ?_
  exact h
set_option maxRecDepth 20000 in
theorem T_X9_bothHold_26_4a {Γ : Nat × (Nat → Int32)} {d n0 bc bs : Nat} {Q : mQ} {σ : mS} (r : Int32) (h : mK Γ M_X9_bothHold (d + 2) Q n0 bc bs 5 [(0, .ref 26), (1, .int r)] [] 60 mSH σ) : mRt Γ M_X9_bothHold (d + 2) Q n0 bc bs 4 [(0, .ref 26)] [] (.inl (some (.int r))) 60 mSH σ := by
  show mK Γ M_X9_bothHold (d + 2) Q n0 bc bs 4 [(0, .ref 26)] [.int r] 60 mSH σ
  refine ru_istore_n (lv1 := [(0, .ref 26), (1, .int r)]) dX9_bothHold_4 rfl rfl (by decide) rfl ?_
  exact h
set_option maxRecDepth 20000 in
theorem T_X9_bothHold_26_5 {Γ : Nat × (Nat → Int32)} {d n0 bc bs : Nat} {Q : mQ} {σ : mS} (x1 : Int32) (h : mCall Γ M_X9_word (d + 1) 0 0 [.ref 26, .ref 1219] 60 mSH σ (mRt Γ M_X9_bothHold (d + 2) Q n0 bc bs 11 [(0, .ref 26), (1, .int x1)] [])) : mK Γ M_X9_bothHold (d + 2) Q n0 bc bs 5 [(0, .ref 26), (1, .int x1)] [] 60 mSH σ := by
  refine mK_aload_n dX9_bothHold_5 rfl rfl (.head _) ?_
  refine mK_ldcS (i := 19) dX9_bothHold_6 rfl (by decide) rfl rfl ?_
  refine mK_invV (J := M_X9_word) (k := 1) (as := [.ref 1219]) (st := []) (c1 := 0) (s1 := 0) dX9_bothHold_8 rfl jw_X9_word jn_X9_word rfl (Nat.le_of_ble_eq_true rfl) (Nat.zero_le _) (Nat.zero_le _) rfl kw_1251 kw_1253 kw_43 (b := 26) (Nat.le_of_ble_eq_true rfl) (Nat.le_of_ble_eq_true rfl) rfl ?_
  exact h
set_option maxRecDepth 20000 in
theorem T_X9_bothHold_26_11a {Γ : Nat × (Nat → Int32)} {d n0 bc bs : Nat} {Q : mQ} {σ : mS} (x1 : Int32) (r : Int32) (h : ((r = 0 → ((x1 = 0 ∨ x1 = 1) ∧ Q (.inl (some (.int x1))) 60 mSH σ)) ∧ (¬ (r = 0) → mCall Γ M_X9_singleHolds (d + 1) 0 0 [.ref 26] 60 mSH σ (mRt Γ M_X9_bothHold (d + 2) Q n0 bc bs 19 [(0, .ref 26), (1, .int x1)] [.int x1])))) : mRt Γ M_X9_bothHold (d + 2) Q n0 bc bs 11 [(0, .ref 26), (1, .int x1)] [] (.inl (some (.int r))) 60 mSH σ := by
  show mK Γ M_X9_bothHold (d + 2) Q n0 bc bs 11 [(0, .ref 26), (1, .int x1)] [.int r] 60 mSH σ
  refine mK_if_eq (tgt := 24) dX9_bothHold_11 rfl (by decide) (fun c1 => ?_) (fun c1 => ?_)
  · refine mK_iload_n dX9_bothHold_24 rfl rfl (.tail _ (.head _)) ?_
    exact mK_zret dX9_bothHold_25 rfl ((h.1 c1).1) (h.1 c1).2
  · refine mK_iload_n dX9_bothHold_14 rfl rfl (.tail _ (.head _)) ?_
    refine mK_aload_n dX9_bothHold_15 rfl rfl (.head _) ?_
    refine mK_invV (J := M_X9_singleHolds) (k := 0) (as := []) (st := [.int x1]) (c1 := 0) (s1 := 0) dX9_bothHold_16 rfl jw_X9_singleHolds jn_X9_singleHolds rfl (Nat.le_of_ble_eq_true rfl) (Nat.zero_le _) (Nat.zero_le _) rfl kw_1449 kw_1451 kw_68 (b := 26) (Nat.le_of_ble_eq_true rfl) (Nat.le_of_ble_eq_true rfl) rfl ?_
    exact (h.2 c1)
set_option maxRecDepth 20000 in
theorem T_X9_bothHold_26_19a {Γ : Nat × (Nat → Int32)} {d n0 bc bs : Nat} {Q : mQ} {σ : mS} (x1 : Int32) (y0 : Int32) (r : Int32) (h : mK Γ M_X9_bothHold (d + 2) Q n0 bc bs 5 [(0, .ref 26), (1, .int (y0 &&& r))] [] 60 mSH σ) : mRt Γ M_X9_bothHold (d + 2) Q n0 bc bs 19 [(0, .ref 26), (1, .int x1)] [.int y0] (.inl (some (.int r))) 60 mSH σ := by
  show mK Γ M_X9_bothHold (d + 2) Q n0 bc bs 19 [(0, .ref 26), (1, .int x1)] [.int r, .int y0] 60 mSH σ
  refine mK_iand dX9_bothHold_19 rfl ?_
  refine ru_istore_n (lv1 := [(0, .ref 26), (1, .int (y0 &&& r))]) dX9_bothHold_20 rfl rfl (by decide) rfl ?_
  refine mK_goto (tgt := 5) dX9_bothHold_21 (by decide) ?_
  exact h
set_option maxRecDepth 20000 in
theorem E_X9_testHolds_26 {Γ : Nat × (Nat → Int32)} {d : Nat} {Q : mQ} {σ : mS} (h : mCall Γ M_X9_bothHold (d + 1) 0 0 [.ref 26] 60 mSH σ (mRt Γ M_X9_testHolds (d + 2) Q 60 0 0 4 [(0, .ref 26)] [])) : mCall Γ M_X9_testHolds (d + 2) 0 0 [.ref 26] 60 mSH σ Q := by
  refine mCall_of rfl (by decide) (Nat.le_of_ble_eq_true rfl) (mOkC (mOk_lo (Nat.le_of_ble_eq_true rfl)) mOkN) ?_
  show mK Γ M_X9_testHolds (d + 2) Q 60 0 0 0 [(0, .ref 26)] [] 60 mSH σ
  refine mK_aload_n dX9_testHolds_0 rfl rfl (.head _) ?_
  refine mK_invV (J := M_X9_bothHold) (k := 0) (as := []) (st := []) (c1 := 0) (s1 := 0) dX9_testHolds_1 rfl jw_X9_bothHold jn_X9_bothHold rfl (Nat.le_of_ble_eq_true rfl) (Nat.zero_le _) (Nat.zero_le _) rfl kw_1445 kw_1447 kw_67 (b := 26) (Nat.le_of_ble_eq_true rfl) (Nat.le_of_ble_eq_true rfl) rfl ?_
  exact h
set_option maxRecDepth 20000 in
theorem T_X9_testHolds_26_4a {Γ : Nat × (Nat → Int32)} {d n0 bc bs : Nat} {Q : mQ} {σ : mS} (r : Int32) (h : mK Γ M_X9_testHolds (d + 2) Q n0 bc bs 5 [(0, .ref 26), (1, .int r)] [] 60 mSH σ) : mRt Γ M_X9_testHolds (d + 2) Q n0 bc bs 4 [(0, .ref 26)] [] (.inl (some (.int r))) 60 mSH σ := by
  show mK Γ M_X9_testHolds (d + 2) Q n0 bc bs 4 [(0, .ref 26)] [.int r] 60 mSH σ
  refine ru_istore_n (lv1 := [(0, .ref 26), (1, .int r)]) dX9_testHolds_4 rfl rfl (by decide) rfl ?_
  exact h
set_option maxRecDepth 20000 in
theorem T_X9_testHolds_26_5 {Γ : Nat × (Nat → Int32)} {d n0 bc bs : Nat} {Q : mQ} {σ : mS} (x1 : Int32) (h : mCall Γ M_X9_word (d + 1) 0 0 [.ref 26, .ref 1220] 60 mSH σ (mRt Γ M_X9_testHolds (d + 2) Q n0 bc bs 11 [(0, .ref 26), (1, .int x1)] [])) : mK Γ M_X9_testHolds (d + 2) Q n0 bc bs 5 [(0, .ref 26), (1, .int x1)] [] 60 mSH σ := by
  refine mK_aload_n dX9_testHolds_5 rfl rfl (.head _) ?_
  refine mK_ldcS (i := 20) dX9_testHolds_6 rfl (by decide) rfl rfl ?_
  refine mK_invV (J := M_X9_word) (k := 1) (as := [.ref 1220]) (st := []) (c1 := 0) (s1 := 0) dX9_testHolds_8 rfl jw_X9_word jn_X9_word rfl (Nat.le_of_ble_eq_true rfl) (Nat.zero_le _) (Nat.zero_le _) rfl kw_1251 kw_1253 kw_43 (b := 26) (Nat.le_of_ble_eq_true rfl) (Nat.le_of_ble_eq_true rfl) rfl ?_
  exact h
set_option maxRecDepth 20000 in
theorem T_X9_testHolds_26_11a {Γ : Nat × (Nat → Int32)} {d n0 bc bs : Nat} {Q : mQ} {σ : mS} (x1 : Int32) (r : Int32) (h : ((r = 0 → ((x1 = 0 ∨ x1 = 1) ∧ Q (.inl (some (.int x1))) 60 mSH σ)) ∧ (¬ (r = 0) → mCall Γ M_X9_bothHold (d + 1) 0 0 [.ref 26] 60 mSH σ (mRt Γ M_X9_testHolds (d + 2) Q n0 bc bs 19 [(0, .ref 26), (1, .int x1)] [.int x1])))) : mRt Γ M_X9_testHolds (d + 2) Q n0 bc bs 11 [(0, .ref 26), (1, .int x1)] [] (.inl (some (.int r))) 60 mSH σ := by
  show mK Γ M_X9_testHolds (d + 2) Q n0 bc bs 11 [(0, .ref 26), (1, .int x1)] [.int r] 60 mSH σ
  refine mK_if_eq (tgt := 24) dX9_testHolds_11 rfl (by decide) (fun c1 => ?_) (fun c1 => ?_)
  · refine mK_iload_n dX9_testHolds_24 rfl rfl (.tail _ (.head _)) ?_
    exact mK_zret dX9_testHolds_25 rfl ((h.1 c1).1) (h.1 c1).2
  · refine mK_iload_n dX9_testHolds_14 rfl rfl (.tail _ (.head _)) ?_
    refine mK_aload_n dX9_testHolds_15 rfl rfl (.head _) ?_
    refine mK_invV (J := M_X9_bothHold) (k := 0) (as := []) (st := [.int x1]) (c1 := 0) (s1 := 0) dX9_testHolds_16 rfl jw_X9_bothHold jn_X9_bothHold rfl (Nat.le_of_ble_eq_true rfl) (Nat.zero_le _) (Nat.zero_le _) rfl kw_1445 kw_1447 kw_67 (b := 26) (Nat.le_of_ble_eq_true rfl) (Nat.le_of_ble_eq_true rfl) rfl ?_
    exact (h.2 c1)
set_option maxRecDepth 20000 in
theorem T_X9_testHolds_26_19a {Γ : Nat × (Nat → Int32)} {d n0 bc bs : Nat} {Q : mQ} {σ : mS} (x1 : Int32) (y0 : Int32) (r : Int32) (h : mK Γ M_X9_testHolds (d + 2) Q n0 bc bs 5 [(0, .ref 26), (1, .int (y0 ||| r))] [] 60 mSH σ) : mRt Γ M_X9_testHolds (d + 2) Q n0 bc bs 19 [(0, .ref 26), (1, .int x1)] [.int y0] (.inl (some (.int r))) 60 mSH σ := by
  show mK Γ M_X9_testHolds (d + 2) Q n0 bc bs 19 [(0, .ref 26), (1, .int x1)] [.int r, .int y0] 60 mSH σ
  refine mK_ior dX9_testHolds_19 rfl ?_
  refine ru_istore_n (lv1 := [(0, .ref 26), (1, .int (y0 ||| r))]) dX9_testHolds_20 rfl rfl (by decide) rfl ?_
  refine mK_goto (tgt := 5) dX9_testHolds_21 (by decide) ?_
  exact h
set_option maxRecDepth 20000 in
theorem E_X9_unknown_26 {Γ : Nat × (Nat → Int32)} {d : Nat} {Q : mQ} {σ : mS} (h : mK Γ M_X9_unknown (d + 2) Q 60 0 0 5 [(0, .ref 26), (1, .int (σ.1 26 10))] [] 60 mSH σ) : mCall Γ M_X9_unknown (d + 2) 0 0 [.ref 26] 60 mSH σ Q := by
  refine mCall_of rfl (by decide) (Nat.le_of_ble_eq_true rfl) (mOkC (mOk_lo (Nat.le_of_ble_eq_true rfl)) mOkN) ?_
  show mK Γ M_X9_unknown (d + 2) Q 60 0 0 0 [(0, .ref 26)] [] 60 mSH σ
  refine mK_aload_n dX9_unknown_0 rfl rfl (.head _) ?_
  refine ru_getI (k := 10) (ci := 8) dX9_unknown_1 rfl rfl kw_1137 ?_
  refine ru_istore_n (lv1 := [(0, .ref 26), (1, .int (σ.1 26 10))]) dX9_unknown_4 rfl rfl (by decide) rfl ?_
  exact h
set_option maxRecDepth 20000 in
theorem T_X9_unknown_26_5 {Γ : Nat × (Nat → Int32)} {d n0 bc bs : Nat} {Q : mQ} {σ : mS} (x1 : Int32) (h : ((vp_in x1 402) ∧ (((σ.2.1 31 (x1).toNatClampNeg) = 59 → (((σ.1 29 (x1).toNatClampNeg) = 4 → Q (.inl (some (.int (-1)))) 60 mSH σ) ∧ (¬ ((σ.1 29 (x1).toNatClampNeg) = 4) → (((σ.1 29 (x1).toNatClampNeg) = 2 → mCall Γ M_X9_isKeyword (d + 1) 0 0 [.long (σ.2.1 31 (x1).toNatClampNeg)] 60 mSH σ (mRt Γ M_X9_unknown (d + 2) Q n0 bc bs 47 [(0, .ref 26), (1, .int x1)] [])) ∧ (¬ ((σ.1 29 (x1).toNatClampNeg) = 2) → mK Γ M_X9_unknown (d + 2) Q n0 bc bs 5 [(0, .ref 26), (1, .int (x1 + 1))] [] 60 mSH σ))))) ∧ (¬ ((σ.2.1 31 (x1).toNatClampNeg) = 59) → (((σ.1 29 (x1).toNatClampNeg) = 2 → mCall Γ M_X9_isKeyword (d + 1) 0 0 [.long (σ.2.1 31 (x1).toNatClampNeg)] 60 mSH σ (mRt Γ M_X9_unknown (d + 2) Q n0 bc bs 47 [(0, .ref 26), (1, .int x1)] [])) ∧ (¬ ((σ.1 29 (x1).toNatClampNeg) = 2) → mK Γ M_X9_unknown (d + 2) Q n0 bc bs 5 [(0, .ref 26), (1, .int (x1 + 1))] [] 60 mSH σ)))))) : mK Γ M_X9_unknown (d + 2) Q n0 bc bs 5 [(0, .ref 26), (1, .int x1)] [] 60 mSH σ := by
  refine mK_aload_n dX9_unknown_5 rfl rfl (.head _) ?_
  refine ru_getR (k := 9) (ci := 8) (a := 31) dX9_unknown_6 rfl rfl rfl kw_1136 ?_
  refine mK_iload_n dX9_unknown_9 rfl rfl (.tail _ (.head _)) ?_
  refine ru_lald (n := 402) dX9_unknown_10 rfl rfl (h.1) ?_
  refine mK_ldc2 dX9_unknown_11 rfl kw_1241 ?_
  refine ru_lif_ne (tgt := 28) dX9_unknown_14 rfl dX9_unknown_15 rfl (by decide) (fun c1 => ?_) (fun c1 => ?_)
  · refine mK_aload_n dX9_unknown_28 rfl rfl (.head _) ?_
    refine ru_getR (k := 7) (ci := 8) (a := 29) dX9_unknown_29 rfl rfl rfl kw_1134 ?_
    refine mK_iload_n dX9_unknown_32 rfl rfl (.tail _ (.head _)) ?_
    refine ru_iald (n := 402) dX9_unknown_33 rfl rfl (h.1) ?_
    refine mK_iconst dX9_unknown_34 rfl qic_2 ?_
    refine ru_icmp_ne (tgt := 69) dX9_unknown_35 rfl (by decide) (fun c2 => ?_) (fun c2 => ?_)
    · refine ru_iinc (lv1 := [(0, .ref 26), (1, .int (x1 + 1))]) dX9_unknown_69 rfl (.tail _ (.head _)) qic_1 (by decide) rfl ?_
      refine mK_goto (tgt := 5) dX9_unknown_72 (by decide) ?_
      exact ((h.2.2 c1).2 c2)
    · refine mK_aload_n dX9_unknown_38 rfl rfl (.head _) ?_
      refine ru_getR (k := 9) (ci := 8) (a := 31) dX9_unknown_39 rfl rfl rfl kw_1136 ?_
      refine mK_iload_n dX9_unknown_42 rfl rfl (.tail _ (.head _)) ?_
      refine ru_lald (n := 402) dX9_unknown_43 rfl rfl (h.1) ?_
      refine mK_invS (J := M_X9_isKeyword) (k := 1) (as := [.long (σ.2.1 31 (x1).toNatClampNeg)]) (st := []) (c1 := 0) (s1 := 0) dX9_unknown_44 rfl jw_X9_isKeyword jn_X9_isKeyword rfl (Nat.le_of_ble_eq_true rfl) (Nat.zero_le _) (Nat.zero_le _) rfl kw_1318 kw_1319 ?_
      exact ((h.2.2 c1).1 c2)
  · refine mK_aload_n dX9_unknown_18 rfl rfl (.head _) ?_
    refine ru_getR (k := 7) (ci := 8) (a := 29) dX9_unknown_19 rfl rfl rfl kw_1134 ?_
    refine mK_iload_n dX9_unknown_22 rfl rfl (.tail _ (.head _)) ?_
    refine ru_iald (n := 402) dX9_unknown_23 rfl rfl (h.1) ?_
    refine mK_iconst dX9_unknown_24 rfl qic_4 ?_
    refine mK_icmp_eq (tgt := 75) dX9_unknown_25 rfl (by decide) (fun c3 => ?_) (fun c3 => ?_)
    · refine mK_iconst dX9_unknown_75 rfl qic_m1 ?_
      exact mK_iret dX9_unknown_76 rfl ((h.2.1 c1).1 c3)
    · refine mK_aload_n dX9_unknown_28 rfl rfl (.head _) ?_
      refine ru_getR (k := 7) (ci := 8) (a := 29) dX9_unknown_29 rfl rfl rfl kw_1134 ?_
      refine mK_iload_n dX9_unknown_32 rfl rfl (.tail _ (.head _)) ?_
      refine ru_iald (n := 402) dX9_unknown_33 rfl rfl (h.1) ?_
      refine mK_iconst dX9_unknown_34 rfl qic_2 ?_
      refine ru_icmp_ne (tgt := 69) dX9_unknown_35 rfl (by decide) (fun c4 => ?_) (fun c4 => ?_)
      · refine ru_iinc (lv1 := [(0, .ref 26), (1, .int (x1 + 1))]) dX9_unknown_69 rfl (.tail _ (.head _)) qic_1 (by decide) rfl ?_
        refine mK_goto (tgt := 5) dX9_unknown_72 (by decide) ?_
        exact (((h.2.1 c1).2 c3).2 c4)
      · refine mK_aload_n dX9_unknown_38 rfl rfl (.head _) ?_
        refine ru_getR (k := 9) (ci := 8) (a := 31) dX9_unknown_39 rfl rfl rfl kw_1136 ?_
        refine mK_iload_n dX9_unknown_42 rfl rfl (.tail _ (.head _)) ?_
        refine ru_lald (n := 402) dX9_unknown_43 rfl rfl (h.1) ?_
        refine mK_invS (J := M_X9_isKeyword) (k := 1) (as := [.long (σ.2.1 31 (x1).toNatClampNeg)]) (st := []) (c1 := 0) (s1 := 0) dX9_unknown_44 rfl jw_X9_isKeyword jn_X9_isKeyword rfl (Nat.le_of_ble_eq_true rfl) (Nat.zero_le _) (Nat.zero_le _) rfl kw_1318 kw_1319 ?_
        exact (((h.2.1 c1).2 c3).1 c4)
set_option maxRecDepth 20000 in
theorem T_X9_unknown_26_47a {Γ : Nat × (Nat → Int32)} {d n0 bc bs : Nat} {Q : mQ} {σ : mS} (x1 : Int32) (r : Int32) (h : ((r = 0 → ((vp_in x1 402) ∧ mCall Γ M_X8_itemOf (d + 1) 0 0 [.ref 32, .long (σ.2.1 31 (x1).toNatClampNeg)] 60 mSH σ (mRt Γ M_X9_unknown (d + 2) Q n0 bc bs 63 [(0, .ref 26), (1, .int x1)] []))) ∧ (¬ (r = 0) → mK Γ M_X9_unknown (d + 2) Q n0 bc bs 5 [(0, .ref 26), (1, .int (x1 + 1))] [] 60 mSH σ))) : mRt Γ M_X9_unknown (d + 2) Q n0 bc bs 47 [(0, .ref 26), (1, .int x1)] [] (.inl (some (.int r))) 60 mSH σ := by
  show mK Γ M_X9_unknown (d + 2) Q n0 bc bs 47 [(0, .ref 26), (1, .int x1)] [.int r] 60 mSH σ
  refine ru_if_ne (tgt := 69) dX9_unknown_47 rfl (by decide) (fun c1 => ?_) (fun c1 => ?_)
  · refine ru_iinc (lv1 := [(0, .ref 26), (1, .int (x1 + 1))]) dX9_unknown_69 rfl (.tail _ (.head _)) qic_1 (by decide) rfl ?_
    refine mK_goto (tgt := 5) dX9_unknown_72 (by decide) ?_
    exact (h.2 c1)
  · refine mK_aload_n dX9_unknown_50 rfl rfl (.head _) ?_
    refine ru_getR (k := 11) (ci := 8) (a := 32) dX9_unknown_51 rfl rfl rfl kw_1138 ?_
    refine mK_aload_n dX9_unknown_54 rfl rfl (.head _) ?_
    refine ru_getR (k := 9) (ci := 8) (a := 31) dX9_unknown_55 rfl rfl rfl kw_1136 ?_
    refine mK_iload_n dX9_unknown_58 rfl rfl (.tail _ (.head _)) ?_
    refine ru_lald (n := 402) dX9_unknown_59 rfl rfl ((h.1 c1).1) ?_
    refine mK_invV (J := M_X8_itemOf) (k := 1) (as := [.long (σ.2.1 31 (x1).toNatClampNeg)]) (st := []) (c1 := 0) (s1 := 0) dX9_unknown_60 rfl jw_X8_itemOf jn_X8_itemOf rfl (Nat.le_of_ble_eq_true rfl) (Nat.zero_le _) (Nat.zero_le _) rfl kw_1401 kw_1402 kw_1403 (b := 32) (Nat.le_of_ble_eq_true rfl) (Nat.le_of_ble_eq_true rfl) rfl ?_
    exact (h.1 c1).2
set_option maxRecDepth 20000 in
theorem T_X9_unknown_26_63a {Γ : Nat × (Nat → Int32)} {d n0 bc bs : Nat} {Q : mQ} {σ : mS} (x1 : Int32) (r : Int32) (h : ((r = (-1) → Q (.inl (some (.int x1))) 60 mSH σ) ∧ (¬ (r = (-1)) → mK Γ M_X9_unknown (d + 2) Q n0 bc bs 5 [(0, .ref 26), (1, .int (x1 + 1))] [] 60 mSH σ))) : mRt Γ M_X9_unknown (d + 2) Q n0 bc bs 63 [(0, .ref 26), (1, .int x1)] [] (.inl (some (.int r))) 60 mSH σ := by
  show mK Γ M_X9_unknown (d + 2) Q n0 bc bs 63 [(0, .ref 26), (1, .int x1)] [.int r] 60 mSH σ
  refine mK_iconst dX9_unknown_63 rfl qic_m1 ?_
  refine ru_icmp_ne (tgt := 69) dX9_unknown_64 rfl (by decide) (fun c1 => ?_) (fun c1 => ?_)
  · refine ru_iinc (lv1 := [(0, .ref 26), (1, .int (x1 + 1))]) dX9_unknown_69 rfl (.tail _ (.head _)) qic_1 (by decide) rfl ?_
    refine mK_goto (tgt := 5) dX9_unknown_72 (by decide) ?_
    exact (h.2 c1)
  · refine mK_iload_n dX9_unknown_67 rfl rfl (.tail _ (.head _)) ?_
    exact mK_iret dX9_unknown_68 rfl (h.1 c1)
set_option maxRecDepth 20000 in
theorem E_X9_sized_26 {Γ : Nat × (Nat → Int32)} {d : Nat} {Q : mQ} {σ : mS} (a1 : Nat) (a2 : Int32) (ha_a1 : 1200 ≤ a1 ∧ a1 < 1221) (h : mCall Γ M_X9_word (d + 1) 0 0 [.ref 26, .ref a1] 60 mSH σ (mRt Γ M_X9_sized (d + 2) Q 60 0 0 5 [(0, .ref 26), (1, .ref a1), (2, .int a2)] [])) : mCall Γ M_X9_sized (d + 2) 0 0 [.ref 26, .ref a1, .int a2] 60 mSH σ Q := by
  refine mCall_of rfl (by decide) (Nat.le_of_ble_eq_true rfl) (mOkC (mOk_lo (Nat.le_of_ble_eq_true rfl)) (mOkC (mOk_hi (Nat.le_trans (by decide) ha_a1.1)) (mOkC mOk_i mOkN))) ?_
  show mK Γ M_X9_sized (d + 2) Q 60 0 0 0 [(0, .ref 26), (1, .ref a1), (2, .int a2)] [] 60 mSH σ
  refine mK_aload_n dX9_sized_0 rfl rfl (.head _) ?_
  refine mK_aload_n dX9_sized_1 rfl rfl (.tail _ (.head _)) ?_
  refine mK_invV (J := M_X9_word) (k := 1) (as := [.ref a1]) (st := []) (c1 := 0) (s1 := 0) dX9_sized_2 rfl jw_X9_word jn_X9_word rfl (Nat.le_of_ble_eq_true rfl) (Nat.zero_le _) (Nat.zero_le _) rfl kw_1251 kw_1253 kw_43 (b := 26) (Nat.le_of_ble_eq_true rfl) (Nat.le_of_ble_eq_true rfl) rfl ?_
  exact h
set_option maxRecDepth 20000 in
theorem T_X9_sized_26_5a {Γ : Nat × (Nat → Int32)} {d n0 bc bs : Nat} {Q : mQ} {σ : mS} (x1 : Nat) (x2 : Int32) (r : Int32) (ha_x1 : 1200 ≤ x1 ∧ x1 < 1221) (h : ((r = 0 → Q (.inl (some (.int x2))) 60 mSH σ) ∧ (¬ (r = 0) → ((vp_in (σ.1 26 10) 402) ∧ (((f_X9_isIn σ (Int64.toInt32 (σ.2.1 31 (σ.1 26 10).toNatClampNeg)) 1 50) = 0 → Q (.inl (some (.int 0))) 60 mSH σ) ∧ (¬ ((f_X9_isIn σ (Int64.toInt32 (σ.2.1 31 (σ.1 26 10).toNatClampNeg)) 1 50) = 0) → ((vp_in (((σ.1 26 10) + 1) - 1) 402) ∧ Q (.inl (some (.int (Int64.toInt32 (σ.2.1 31 (((σ.1 26 10) + 1) - 1).toNatClampNeg))))) 60 mSH (mPI σ 26 10 ((σ.1 26 10) + 1))))))))) : mRt Γ M_X9_sized (d + 2) Q n0 bc bs 5 [(0, .ref 26), (1, .ref x1), (2, .int x2)] [] (.inl (some (.int r))) 60 mSH σ := by
  show mK Γ M_X9_sized (d + 2) Q n0 bc bs 5 [(0, .ref 26), (1, .ref x1), (2, .int x2)] [.int r] 60 mSH σ
  refine ru_if_ne (tgt := 10) dX9_sized_5 rfl (by decide) (fun c1 => ?_) (fun c1 => ?_)
  · refine mK_aload_n dX9_sized_10 rfl rfl (.head _) ?_
    refine ru_getR (k := 9) (ci := 8) (a := 31) dX9_sized_11 rfl rfl rfl kw_1136 ?_
    refine mK_aload_n dX9_sized_14 rfl rfl (.head _) ?_
    refine ru_getI (k := 10) (ci := 8) dX9_sized_15 rfl rfl kw_1137 ?_
    refine ru_lald (n := 402) dX9_sized_18 rfl rfl ((h.2 c1).1) ?_
    refine mK_l2i dX9_sized_19 rfl ?_
    refine mK_iconst dX9_sized_20 rfl qic_1 ?_
    refine mK_bipush dX9_sized_21 rfl qbi_50 ?_
    refine mK_invS (J := M_X9_isIn) (k := 3) (as := [.int (Int64.toInt32 (σ.2.1 31 (σ.1 26 10).toNatClampNeg)), .int 1, .int 50]) (st := []) (c1 := 0) (s1 := 0) dX9_sized_23 rfl jw_X9_isIn jn_X9_isIn rfl (Nat.le_of_ble_eq_true rfl) (Nat.zero_le _) (Nat.zero_le _) rfl kw_1216 kw_1217 ?_
    refine S_X9_isIn (Int64.toInt32 (σ.2.1 31 (σ.1 26 10).toNatClampNeg)) 1 50 ?_
    show mK Γ M_X9_sized (d + 2) Q n0 bc bs 26 [(0, .ref 26), (1, .ref x1), (2, .int x2)] [.int (f_X9_isIn σ (Int64.toInt32 (σ.2.1 31 (σ.1 26 10).toNatClampNeg)) 1 50)] 60 mSH σ
    refine ru_if_ne (tgt := 31) dX9_sized_26 rfl (by decide) (fun c2 => ?_) (fun c2 => ?_)
    · refine mK_aload_n dX9_sized_31 rfl rfl (.head _) ?_
      refine mK_dup dX9_sized_32 rfl rfl ?_
      refine ru_getI (k := 10) (ci := 8) dX9_sized_33 rfl rfl kw_1137 ?_
      refine mK_iconst dX9_sized_36 rfl qic_1 ?_
      refine mK_iadd dX9_sized_37 rfl ?_
      refine ru_putI (k := 10) (ci := 8) dX9_sized_38 rfl rfl rfl kw_1137 ?_
      refine mK_aload_n dX9_sized_41 rfl rfl (.head _) ?_
      refine ru_getR (k := 9) (ci := 8) (a := 31) dX9_sized_42 rfl rfl rfl kw_1136 ?_
      refine mK_aload_n dX9_sized_45 rfl rfl (.head _) ?_
      refine ru_getI (k := 10) (ci := 8) dX9_sized_46 rfl rfl kw_1137 ?_
      refine mK_iconst dX9_sized_49 rfl qic_1 ?_
      refine mK_isub dX9_sized_50 rfl ?_
      refine ru_lald (n := 402) dX9_sized_51 rfl rfl (((h.2 c1).2.2 c2).1) ?_
      refine mK_l2i dX9_sized_52 rfl ?_
      exact mK_iret dX9_sized_53 rfl ((h.2 c1).2.2 c2).2
    · refine mK_iconst dX9_sized_29 rfl qic_0 ?_
      exact mK_iret dX9_sized_30 rfl ((h.2 c1).2.1 c2)
  · refine mK_iload_n dX9_sized_8 rfl rfl (.tail _ (.tail _ (.head _))) ?_
    exact mK_iret dX9_sized_9 rfl (h.1 c1)
set_option maxRecDepth 20000 in
theorem E_X9_speakerLine_26 {Γ : Nat × (Nat → Int32)} {d : Nat} {Q : mQ} {σ : mS} (h : ((vp_in ((σ.1 26 10) + 1) 402) ∧ mCall Γ M_X8_speakerOf (d + 1) 0 0 [.ref 32, .long (σ.2.1 31 ((σ.1 26 10) + 1).toNatClampNeg)] 60 mSH (mPI σ 26 10 ((σ.1 26 10) + 2)) (mRt Γ M_X9_speakerLine (d + 2) Q 60 0 0 30 [(0, .ref 26), (1, .int ((σ.1 26 10) + 1))] []))) : mCall Γ M_X9_speakerLine (d + 2) 0 0 [.ref 26] 60 mSH σ Q := by
  refine mCall_of rfl (by decide) (Nat.le_of_ble_eq_true rfl) (mOkC (mOk_lo (Nat.le_of_ble_eq_true rfl)) mOkN) ?_
  show mK Γ M_X9_speakerLine (d + 2) Q 60 0 0 0 [(0, .ref 26)] [] 60 mSH σ
  refine mK_aload_n dX9_speakerLine_0 rfl rfl (.head _) ?_
  refine ru_getI (k := 10) (ci := 8) dX9_speakerLine_1 rfl rfl kw_1137 ?_
  refine mK_iconst dX9_speakerLine_4 rfl qic_1 ?_
  refine mK_iadd dX9_speakerLine_5 rfl ?_
  refine ru_istore_n (lv1 := [(0, .ref 26), (1, .int ((σ.1 26 10) + 1))]) dX9_speakerLine_6 rfl rfl (by decide) rfl ?_
  refine mK_aload_n dX9_speakerLine_7 rfl rfl (.head _) ?_
  refine mK_dup dX9_speakerLine_8 rfl rfl ?_
  refine ru_getI (k := 10) (ci := 8) dX9_speakerLine_9 rfl rfl kw_1137 ?_
  refine mK_iconst dX9_speakerLine_12 rfl qic_2 ?_
  refine mK_iadd dX9_speakerLine_13 rfl ?_
  refine ru_putI (k := 10) (ci := 8) dX9_speakerLine_14 rfl rfl rfl kw_1137 ?_
  refine mK_aload_n dX9_speakerLine_17 rfl rfl (.head _) ?_
  refine ru_getR (k := 11) (ci := 8) (a := 32) dX9_speakerLine_18 rfl rfl rfl kw_1138 ?_
  refine mK_aload_n dX9_speakerLine_21 rfl rfl (.head _) ?_
  refine ru_getR (k := 9) (ci := 8) (a := 31) dX9_speakerLine_22 rfl rfl rfl kw_1136 ?_
  refine mK_iload_n dX9_speakerLine_25 rfl rfl (.tail _ (.head _)) ?_
  refine ru_lald (n := 402) dX9_speakerLine_26 rfl rfl (h.1) ?_
  refine mK_invV (J := M_X8_speakerOf) (k := 1) (as := [.long (σ.2.1 31 ((σ.1 26 10) + 1).toNatClampNeg)]) (st := []) (c1 := 0) (s1 := 0) dX9_speakerLine_27 rfl jw_X8_speakerOf jn_X8_speakerOf rfl (Nat.le_of_ble_eq_true rfl) (Nat.zero_le _) (Nat.zero_le _) rfl kw_1388 kw_1389 kw_1390 (b := 32) (Nat.le_of_ble_eq_true rfl) (Nat.le_of_ble_eq_true rfl) rfl ?_
  exact h.2
set_option maxRecDepth 20000 in
theorem T_X9_speakerLine_26_30a {Γ : Nat × (Nat → Int32)} {d n0 bc bs : Nat} {Q : mQ} {σ : mS} (x1 : Int32) (r : Int32) (h : ((r = (-1) → (((σ.1 32 0) = 6 → ((vp_in x1 402) ∧ Q (.inl (some (.int (h_X9_fail_26 σ 4 x1).1))) 60 mSH (h_X9_fail_26 σ 4 x1).2)) ∧ (¬ ((σ.1 32 0) = 6) → mCall Γ M_X9_word (d + 1) 0 0 [.ref 26, .ref 1201] 60 mSH σ (mRt Γ M_X9_speakerLine (d + 2) Q n0 bc bs 70 [(0, .ref 26), (1, .int x1), (2, .int 300)] [])))) ∧ (¬ (r = (-1)) → ((vp_in x1 402) ∧ Q (.inl (some (.int (h_X9_fail_26 σ 2 x1).1))) 60 mSH (h_X9_fail_26 σ 2 x1).2)))) : mRt Γ M_X9_speakerLine (d + 2) Q n0 bc bs 30 [(0, .ref 26), (1, .int x1)] [] (.inl (some (.int r))) 60 mSH σ := by
  show mK Γ M_X9_speakerLine (d + 2) Q n0 bc bs 30 [(0, .ref 26), (1, .int x1)] [.int r] 60 mSH σ
  refine mK_iconst dX9_speakerLine_30 rfl qic_m1 ?_
  refine mK_icmp_eq (tgt := 41) dX9_speakerLine_31 rfl (by decide) (fun c1 => ?_) (fun c1 => ?_)
  · refine mK_aload_n dX9_speakerLine_41 rfl rfl (.head _) ?_
    refine ru_getR (k := 11) (ci := 8) (a := 32) dX9_speakerLine_42 rfl rfl rfl kw_1138 ?_
    refine ru_getIN (k := 0) (ci := 7) dX9_speakerLine_45 rfl rfl kn_1080 ?_
    refine mK_bipush dX9_speakerLine_48 rfl qbi_6 ?_
    refine ru_icmp_ne (tgt := 60) dX9_speakerLine_50 rfl (by decide) (fun c2 => ?_) (fun c2 => ?_)
    · refine mK_sipush dX9_speakerLine_60 rfl qsi_300 ?_
      refine ru_istore_n (lv1 := [(0, .ref 26), (1, .int x1), (2, .int 300)]) dX9_speakerLine_63 rfl rfl (by decide) rfl ?_
      refine mK_aload_n dX9_speakerLine_64 rfl rfl (.head _) ?_
      refine mK_ldcS (i := 1) dX9_speakerLine_65 rfl (by decide) rfl rfl ?_
      refine mK_invV (J := M_X9_word) (k := 1) (as := [.ref 1201]) (st := []) (c1 := 0) (s1 := 0) dX9_speakerLine_67 rfl jw_X9_word jn_X9_word rfl (Nat.le_of_ble_eq_true rfl) (Nat.zero_le _) (Nat.zero_le _) rfl kw_1251 kw_1253 kw_43 (b := 26) (Nat.le_of_ble_eq_true rfl) (Nat.le_of_ble_eq_true rfl) rfl ?_
      exact ((h.1 c1).2 c2)
    · refine mK_aload_n dX9_speakerLine_53 rfl rfl (.head _) ?_
      refine mK_iconst dX9_speakerLine_54 rfl qic_4 ?_
      refine mK_iload_n dX9_speakerLine_55 rfl rfl (.tail _ (.head _)) ?_
      refine mK_invV (J := M_X9_fail) (k := 2) (as := [.int 4, .int x1]) (st := []) (c1 := 0) (s1 := 0) dX9_speakerLine_56 rfl jw_X9_fail jn_X9_fail rfl (Nat.le_of_ble_eq_true rfl) (Nat.zero_le _) (Nat.zero_le _) rfl kw_1367 kw_1369 kw_53 (b := 26) (Nat.le_of_ble_eq_true rfl) (Nat.le_of_ble_eq_true rfl) rfl ?_
      refine S_X9_fail_26 4 x1 (((h.1 c1).1 c2).1) ?_
      show mK Γ M_X9_speakerLine (d + 2) Q n0 bc bs 59 [(0, .ref 26), (1, .int x1)] [.int (h_X9_fail_26 σ 4 x1).1] 60 mSH (h_X9_fail_26 σ 4 x1).2
      exact mK_iret dX9_speakerLine_59 rfl ((h.1 c1).1 c2).2
  · refine mK_aload_n dX9_speakerLine_34 rfl rfl (.head _) ?_
    refine mK_iconst dX9_speakerLine_35 rfl qic_2 ?_
    refine mK_iload_n dX9_speakerLine_36 rfl rfl (.tail _ (.head _)) ?_
    refine mK_invV (J := M_X9_fail) (k := 2) (as := [.int 2, .int x1]) (st := []) (c1 := 0) (s1 := 0) dX9_speakerLine_37 rfl jw_X9_fail jn_X9_fail rfl (Nat.le_of_ble_eq_true rfl) (Nat.zero_le _) (Nat.zero_le _) rfl kw_1367 kw_1369 kw_53 (b := 26) (Nat.le_of_ble_eq_true rfl) (Nat.le_of_ble_eq_true rfl) rfl ?_
    refine S_X9_fail_26 2 x1 ((h.2 c1).1) ?_
    show mK Γ M_X9_speakerLine (d + 2) Q n0 bc bs 40 [(0, .ref 26), (1, .int x1)] [.int (h_X9_fail_26 σ 2 x1).1] 60 mSH (h_X9_fail_26 σ 2 x1).2
    exact mK_iret dX9_speakerLine_40 rfl (h.2 c1).2
set_option maxRecDepth 20000 in
theorem T_X9_speakerLine_26_70a {Γ : Nat × (Nat → Int32)} {d n0 bc bs : Nat} {Q : mQ} {σ : mS} (x1 : Int32) (x2 : Int32) (r : Int32) (h : ((r = 0 → ((vp_in x1 402) ∧ ((vp_in (σ.1 32 0) 6) ∧ Q (.inl (some (.int 0))) 60 mSH (mPI (mPI (mPL σ 33 (σ.1 32 0).toNatClampNeg (σ.2.1 31 (x1).toNatClampNeg)) 34 (σ.1 32 0).toNatClampNeg x2) 32 0 ((σ.1 32 0) + 1))))) ∧ (¬ (r = 0) → ((vp_in (σ.1 26 10) 402) ∧ (((σ.2.1 31 (σ.1 26 10).toNatClampNeg) ≤ 3600 → ((vp_in x1 402) ∧ ((vp_in (σ.1 32 0) 6) ∧ Q (.inl (some (.int 0))) 60 mSH (mPI (mPI (mPL (mPI σ 26 10 ((σ.1 26 10) + 1)) 33 (σ.1 32 0).toNatClampNeg (σ.2.1 31 (x1).toNatClampNeg)) 34 (σ.1 32 0).toNatClampNeg (Int64.toInt32 (σ.2.1 31 (σ.1 26 10).toNatClampNeg))) 32 0 ((σ.1 32 0) + 1))))) ∧ (¬ ((σ.2.1 31 (σ.1 26 10).toNatClampNeg) ≤ 3600) → Q (.inl (some (.int (h_X9_fail_26 σ 5 (σ.1 26 10)).1))) 60 mSH (h_X9_fail_26 σ 5 (σ.1 26 10)).2)))))) : mRt Γ M_X9_speakerLine (d + 2) Q n0 bc bs 70 [(0, .ref 26), (1, .int x1), (2, .int x2)] [] (.inl (some (.int r))) 60 mSH σ := by
  show mK Γ M_X9_speakerLine (d + 2) Q n0 bc bs 70 [(0, .ref 26), (1, .int x1), (2, .int x2)] [.int r] 60 mSH σ
  refine mK_if_eq (tgt := 120) dX9_speakerLine_70 rfl (by decide) (fun c1 => ?_) (fun c1 => ?_)
  · refine mK_aload_n dX9_speakerLine_120 rfl rfl (.head _) ?_
    refine ru_getR (k := 11) (ci := 8) (a := 32) dX9_speakerLine_121 rfl rfl rfl kw_1138 ?_
    refine ru_getRN (k := 1) (ci := 7) (a := 33) dX9_speakerLine_124 rfl rfl rfl kn_1082 ?_
    refine mK_aload_n dX9_speakerLine_127 rfl rfl (.head _) ?_
    refine ru_getR (k := 11) (ci := 8) (a := 32) dX9_speakerLine_128 rfl rfl rfl kw_1138 ?_
    refine ru_getIN (k := 0) (ci := 7) dX9_speakerLine_131 rfl rfl kn_1080 ?_
    refine mK_aload_n dX9_speakerLine_134 rfl rfl (.head _) ?_
    refine ru_getR (k := 9) (ci := 8) (a := 31) dX9_speakerLine_135 rfl rfl rfl kw_1136 ?_
    refine mK_iload_n dX9_speakerLine_138 rfl rfl (.tail _ (.head _)) ?_
    refine ru_lald (n := 402) dX9_speakerLine_139 rfl rfl ((h.1 c1).1) ?_
    refine ru_last (n := 6) dX9_speakerLine_140 rfl rfl ((h.1 c1).2.1) ?_
    refine mK_aload_n dX9_speakerLine_141 rfl rfl (.head _) ?_
    refine ru_getR (k := 11) (ci := 8) (a := 32) dX9_speakerLine_142 rfl rfl rfl kw_1138 ?_
    refine ru_getRN (k := 2) (ci := 7) (a := 34) dX9_speakerLine_145 rfl rfl rfl kn_1084 ?_
    refine mK_aload_n dX9_speakerLine_148 rfl rfl (.head _) ?_
    refine ru_getR (k := 11) (ci := 8) (a := 32) dX9_speakerLine_149 rfl rfl rfl kw_1138 ?_
    refine ru_getIN (k := 0) (ci := 7) dX9_speakerLine_152 rfl rfl kn_1080 ?_
    refine mK_iload_n dX9_speakerLine_155 rfl rfl (.tail _ (.tail _ (.head _))) ?_
    refine ru_iast (n := 6) dX9_speakerLine_156 rfl rfl ((h.1 c1).2.1) ?_
    refine mK_aload_n dX9_speakerLine_157 rfl rfl (.head _) ?_
    refine ru_getR (k := 11) (ci := 8) (a := 32) dX9_speakerLine_158 rfl rfl rfl kw_1138 ?_
    refine mK_dup dX9_speakerLine_161 rfl rfl ?_
    refine ru_getIN (k := 0) (ci := 7) dX9_speakerLine_162 rfl rfl kn_1080 ?_
    refine mK_iconst dX9_speakerLine_165 rfl qic_1 ?_
    refine mK_iadd dX9_speakerLine_166 rfl ?_
    refine ru_putIN (k := 0) (ci := 7) dX9_speakerLine_167 rfl rfl rfl kn_1080 ?_
    refine mK_iconst dX9_speakerLine_170 rfl qic_0 ?_
    exact mK_iret dX9_speakerLine_171 rfl (h.1 c1).2.2
  · refine mK_aload_n dX9_speakerLine_73 rfl rfl (.head _) ?_
    refine ru_getR (k := 9) (ci := 8) (a := 31) dX9_speakerLine_74 rfl rfl rfl kw_1136 ?_
    refine mK_aload_n dX9_speakerLine_77 rfl rfl (.head _) ?_
    refine ru_getI (k := 10) (ci := 8) dX9_speakerLine_78 rfl rfl kw_1137 ?_
    refine ru_lald (n := 402) dX9_speakerLine_81 rfl rfl ((h.2 c1).1) ?_
    refine mK_ldc2 dX9_speakerLine_82 rfl kw_1392 ?_
    refine ru_lif_le (tgt := 99) dX9_speakerLine_85 rfl dX9_speakerLine_86 rfl (by decide) (fun c2 => ?_) (fun c2 => ?_)
    · refine mK_aload_n dX9_speakerLine_99 rfl rfl (.head _) ?_
      refine ru_getR (k := 9) (ci := 8) (a := 31) dX9_speakerLine_100 rfl rfl rfl kw_1136 ?_
      refine mK_aload_n dX9_speakerLine_103 rfl rfl (.head _) ?_
      refine ru_getI (k := 10) (ci := 8) dX9_speakerLine_104 rfl rfl kw_1137 ?_
      refine ru_lald (n := 402) dX9_speakerLine_107 rfl rfl ((h.2 c1).1) ?_
      refine mK_l2i dX9_speakerLine_108 rfl ?_
      refine ru_istore_n (lv1 := [(0, .ref 26), (1, .int x1), (2, .int (Int64.toInt32 (σ.2.1 31 (σ.1 26 10).toNatClampNeg)))]) dX9_speakerLine_109 rfl rfl (by decide) rfl ?_
      refine mK_aload_n dX9_speakerLine_110 rfl rfl (.head _) ?_
      refine mK_dup dX9_speakerLine_111 rfl rfl ?_
      refine ru_getI (k := 10) (ci := 8) dX9_speakerLine_112 rfl rfl kw_1137 ?_
      refine mK_iconst dX9_speakerLine_115 rfl qic_1 ?_
      refine mK_iadd dX9_speakerLine_116 rfl ?_
      refine ru_putI (k := 10) (ci := 8) dX9_speakerLine_117 rfl rfl rfl kw_1137 ?_
      refine mK_aload_n dX9_speakerLine_120 rfl rfl (.head _) ?_
      refine ru_getR (k := 11) (ci := 8) (a := 32) dX9_speakerLine_121 rfl rfl rfl kw_1138 ?_
      refine ru_getRN (k := 1) (ci := 7) (a := 33) dX9_speakerLine_124 rfl rfl rfl kn_1082 ?_
      refine mK_aload_n dX9_speakerLine_127 rfl rfl (.head _) ?_
      refine ru_getR (k := 11) (ci := 8) (a := 32) dX9_speakerLine_128 rfl rfl rfl kw_1138 ?_
      refine ru_getIN (k := 0) (ci := 7) dX9_speakerLine_131 rfl rfl kn_1080 ?_
      refine mK_aload_n dX9_speakerLine_134 rfl rfl (.head _) ?_
      refine ru_getR (k := 9) (ci := 8) (a := 31) dX9_speakerLine_135 rfl rfl rfl kw_1136 ?_
      refine mK_iload_n dX9_speakerLine_138 rfl rfl (.tail _ (.head _)) ?_
      refine ru_lald (n := 402) dX9_speakerLine_139 rfl rfl (((h.2 c1).2.1 c2).1) ?_
      refine ru_last (n := 6) dX9_speakerLine_140 rfl rfl (((h.2 c1).2.1 c2).2.1) ?_
      refine mK_aload_n dX9_speakerLine_141 rfl rfl (.head _) ?_
      refine ru_getR (k := 11) (ci := 8) (a := 32) dX9_speakerLine_142 rfl rfl rfl kw_1138 ?_
      refine ru_getRN (k := 2) (ci := 7) (a := 34) dX9_speakerLine_145 rfl rfl rfl kn_1084 ?_
      refine mK_aload_n dX9_speakerLine_148 rfl rfl (.head _) ?_
      refine ru_getR (k := 11) (ci := 8) (a := 32) dX9_speakerLine_149 rfl rfl rfl kw_1138 ?_
      refine ru_getIN (k := 0) (ci := 7) dX9_speakerLine_152 rfl rfl kn_1080 ?_
      refine mK_iload_n dX9_speakerLine_155 rfl rfl (.tail _ (.tail _ (.head _))) ?_
      refine ru_iast (n := 6) dX9_speakerLine_156 rfl rfl (((h.2 c1).2.1 c2).2.1) ?_
      refine mK_aload_n dX9_speakerLine_157 rfl rfl (.head _) ?_
      refine ru_getR (k := 11) (ci := 8) (a := 32) dX9_speakerLine_158 rfl rfl rfl kw_1138 ?_
      refine mK_dup dX9_speakerLine_161 rfl rfl ?_
      refine ru_getIN (k := 0) (ci := 7) dX9_speakerLine_162 rfl rfl kn_1080 ?_
      refine mK_iconst dX9_speakerLine_165 rfl qic_1 ?_
      refine mK_iadd dX9_speakerLine_166 rfl ?_
      refine ru_putIN (k := 0) (ci := 7) dX9_speakerLine_167 rfl rfl rfl kn_1080 ?_
      refine mK_iconst dX9_speakerLine_170 rfl qic_0 ?_
      exact mK_iret dX9_speakerLine_171 rfl ((h.2 c1).2.1 c2).2.2
    · refine mK_aload_n dX9_speakerLine_89 rfl rfl (.head _) ?_
      refine mK_iconst dX9_speakerLine_90 rfl qic_5 ?_
      refine mK_aload_n dX9_speakerLine_91 rfl rfl (.head _) ?_
      refine ru_getI (k := 10) (ci := 8) dX9_speakerLine_92 rfl rfl kw_1137 ?_
      refine mK_invV (J := M_X9_fail) (k := 2) (as := [.int 5, .int (σ.1 26 10)]) (st := []) (c1 := 0) (s1 := 0) dX9_speakerLine_95 rfl jw_X9_fail jn_X9_fail rfl (Nat.le_of_ble_eq_true rfl) (Nat.zero_le _) (Nat.zero_le _) rfl kw_1367 kw_1369 kw_53 (b := 26) (Nat.le_of_ble_eq_true rfl) (Nat.le_of_ble_eq_true rfl) rfl ?_
      refine S_X9_fail_26 5 (σ.1 26 10) ((h.2 c1).1) ?_
      show mK Γ M_X9_speakerLine (d + 2) Q n0 bc bs 98 [(0, .ref 26), (1, .int x1), (2, .int x2)] [.int (h_X9_fail_26 σ 5 (σ.1 26 10)).1] 60 mSH (h_X9_fail_26 σ 5 (σ.1 26 10)).2
      exact mK_iret dX9_speakerLine_98 rfl ((h.2 c1).2.2 c2)
set_option maxRecDepth 20000 in
theorem E_X9_claimLine_26 {Γ : Nat × (Nat → Int32)} {d : Nat} {Q : mQ} {σ : mS} (h : mCall Γ M_X9_newName (d + 1) 0 0 [.ref 26, .int ((σ.1 26 10) + 1)] 60 mSH σ (mRt Γ M_X9_claimLine (d + 2) Q 60 0 0 12 [(0, .ref 26), (1, .int ((σ.1 26 10) + 1))] [])) : mCall Γ M_X9_claimLine (d + 2) 0 0 [.ref 26] 60 mSH σ Q := by
  refine mCall_of rfl (by decide) (Nat.le_of_ble_eq_true rfl) (mOkC (mOk_lo (Nat.le_of_ble_eq_true rfl)) mOkN) ?_
  show mK Γ M_X9_claimLine (d + 2) Q 60 0 0 0 [(0, .ref 26)] [] 60 mSH σ
  refine mK_aload_n dX9_claimLine_0 rfl rfl (.head _) ?_
  refine ru_getI (k := 10) (ci := 8) dX9_claimLine_1 rfl rfl kw_1137 ?_
  refine mK_iconst dX9_claimLine_4 rfl qic_1 ?_
  refine mK_iadd dX9_claimLine_5 rfl ?_
  refine ru_istore_n (lv1 := [(0, .ref 26), (1, .int ((σ.1 26 10) + 1))]) dX9_claimLine_6 rfl rfl (by decide) rfl ?_
  refine mK_aload_n dX9_claimLine_7 rfl rfl (.head _) ?_
  refine mK_iload_n dX9_claimLine_8 rfl rfl (.tail _ (.head _)) ?_
  refine mK_invV (J := M_X9_newName) (k := 1) (as := [.int ((σ.1 26 10) + 1)]) (st := []) (c1 := 0) (s1 := 0) dX9_claimLine_9 rfl jw_X9_newName jn_X9_newName rfl (Nat.le_of_ble_eq_true rfl) (Nat.zero_le _) (Nat.zero_le _) rfl kw_1397 kw_1399 kw_58 (b := 26) (Nat.le_of_ble_eq_true rfl) (Nat.le_of_ble_eq_true rfl) rfl ?_
  exact h
set_option maxRecDepth 20000 in
theorem T_X9_claimLine_26_12a {Γ : Nat × (Nat → Int32)} {d n0 bc bs : Nat} {Q : mQ} {σ : mS} (x1 : Int32) (r : Int32) (h : ((r ≤ 0 → ((vp_in ((σ.1 26 10) + 3) 402) ∧ mCall Γ M_X8_speakerOf (d + 1) 0 0 [.ref 32, .long (σ.2.1 31 ((σ.1 26 10) + 3).toNatClampNeg)] 60 mSH σ (mRt Γ M_X9_claimLine (d + 2) Q n0 bc bs 37 [(0, .ref 26), (1, .int x1), (2, .int r)] []))) ∧ (¬ (r ≤ 0) → Q (.inl (some (.int r))) 60 mSH σ))) : mRt Γ M_X9_claimLine (d + 2) Q n0 bc bs 12 [(0, .ref 26), (1, .int x1)] [] (.inl (some (.int r))) 60 mSH σ := by
  show mK Γ M_X9_claimLine (d + 2) Q n0 bc bs 12 [(0, .ref 26), (1, .int x1)] [.int r] 60 mSH σ
  refine ru_istore_n (lv1 := [(0, .ref 26), (1, .int x1), (2, .int r)]) dX9_claimLine_12 rfl rfl (by decide) rfl ?_
  refine mK_iload_n dX9_claimLine_13 rfl rfl (.tail _ (.tail _ (.head _))) ?_
  refine mK_if_le (tgt := 19) dX9_claimLine_14 rfl (by decide) (fun c1 => ?_) (fun c1 => ?_)
  · refine mK_aload_n dX9_claimLine_19 rfl rfl (.head _) ?_
    refine ru_getR (k := 11) (ci := 8) (a := 32) dX9_claimLine_20 rfl rfl rfl kw_1138 ?_
    refine mK_aload_n dX9_claimLine_23 rfl rfl (.head _) ?_
    refine ru_getR (k := 9) (ci := 8) (a := 31) dX9_claimLine_24 rfl rfl rfl kw_1136 ?_
    refine mK_aload_n dX9_claimLine_27 rfl rfl (.head _) ?_
    refine ru_getI (k := 10) (ci := 8) dX9_claimLine_28 rfl rfl kw_1137 ?_
    refine mK_iconst dX9_claimLine_31 rfl qic_3 ?_
    refine mK_iadd dX9_claimLine_32 rfl ?_
    refine ru_lald (n := 402) dX9_claimLine_33 rfl rfl ((h.1 c1).1) ?_
    refine mK_invV (J := M_X8_speakerOf) (k := 1) (as := [.long (σ.2.1 31 ((σ.1 26 10) + 3).toNatClampNeg)]) (st := []) (c1 := 0) (s1 := 0) dX9_claimLine_34 rfl jw_X8_speakerOf jn_X8_speakerOf rfl (Nat.le_of_ble_eq_true rfl) (Nat.zero_le _) (Nat.zero_le _) rfl kw_1388 kw_1389 kw_1390 (b := 32) (Nat.le_of_ble_eq_true rfl) (Nat.le_of_ble_eq_true rfl) rfl ?_
    exact (h.1 c1).2
  · refine mK_iload_n dX9_claimLine_17 rfl rfl (.tail _ (.tail _ (.head _))) ?_
    exact mK_iret dX9_claimLine_18 rfl (h.2 c1)
set_option maxRecDepth 20000 in
theorem T_X9_claimLine_26_37a {Γ : Nat × (Nat → Int32)} {d n0 bc bs : Nat} {Q : mQ} {σ : mS} (x1 : Int32) (x2 : Int32) (r : Int32) (h : ((r = (-1) → ((vp_in ((σ.1 26 10) + 3) 402) ∧ Q (.inl (some (.int (h_X9_fail_26 σ 3 ((σ.1 26 10) + 3)).1))) 60 mSH (h_X9_fail_26 σ 3 ((σ.1 26 10) + 3)).2)) ∧ (¬ (r = (-1)) → mCall Γ M_X9_sized (d + 1) 0 0 [.ref 26, .ref 1204, .int 10] 60 mSH (mPI σ 26 10 ((σ.1 26 10) + 4)) (mRt Γ M_X9_claimLine (d + 2) Q n0 bc bs 73 [(0, .ref 26), (1, .int x1), (2, .int x2), (3, .int r)] [])))) : mRt Γ M_X9_claimLine (d + 2) Q n0 bc bs 37 [(0, .ref 26), (1, .int x1), (2, .int x2)] [] (.inl (some (.int r))) 60 mSH σ := by
  show mK Γ M_X9_claimLine (d + 2) Q n0 bc bs 37 [(0, .ref 26), (1, .int x1), (2, .int x2)] [.int r] 60 mSH σ
  refine ru_istore_n (lv1 := [(0, .ref 26), (1, .int x1), (2, .int x2), (3, .int r)]) dX9_claimLine_37 rfl rfl (by decide) rfl ?_
  refine mK_iload_n dX9_claimLine_38 rfl rfl (.tail _ (.tail _ (.tail _ (.head _)))) ?_
  refine mK_iconst dX9_claimLine_39 rfl qic_m1 ?_
  refine ru_icmp_ne (tgt := 55) dX9_claimLine_40 rfl (by decide) (fun c1 => ?_) (fun c1 => ?_)
  · refine mK_aload_n dX9_claimLine_55 rfl rfl (.head _) ?_
    refine mK_dup dX9_claimLine_56 rfl rfl ?_
    refine ru_getI (k := 10) (ci := 8) dX9_claimLine_57 rfl rfl kw_1137 ?_
    refine mK_iconst dX9_claimLine_60 rfl qic_4 ?_
    refine mK_iadd dX9_claimLine_61 rfl ?_
    refine ru_putI (k := 10) (ci := 8) dX9_claimLine_62 rfl rfl rfl kw_1137 ?_
    refine mK_aload_n dX9_claimLine_65 rfl rfl (.head _) ?_
    refine mK_ldcS (i := 4) dX9_claimLine_66 rfl (by decide) rfl rfl ?_
    refine mK_bipush dX9_claimLine_68 rfl qbi_10 ?_
    refine mK_invV (J := M_X9_sized) (k := 2) (as := [.ref 1204, .int 10]) (st := []) (c1 := 0) (s1 := 0) dX9_claimLine_70 rfl jw_X9_sized jn_X9_sized rfl (Nat.le_of_ble_eq_true rfl) (Nat.zero_le _) (Nat.zero_le _) rfl kw_1405 kw_1407 kw_59 (b := 26) (Nat.le_of_ble_eq_true rfl) (Nat.le_of_ble_eq_true rfl) rfl ?_
    exact (h.2 c1)
  · refine mK_aload_n dX9_claimLine_43 rfl rfl (.head _) ?_
    refine mK_iconst dX9_claimLine_44 rfl qic_3 ?_
    refine mK_aload_n dX9_claimLine_45 rfl rfl (.head _) ?_
    refine ru_getI (k := 10) (ci := 8) dX9_claimLine_46 rfl rfl kw_1137 ?_
    refine mK_iconst dX9_claimLine_49 rfl qic_3 ?_
    refine mK_iadd dX9_claimLine_50 rfl ?_
    refine mK_invV (J := M_X9_fail) (k := 2) (as := [.int 3, .int ((σ.1 26 10) + 3)]) (st := []) (c1 := 0) (s1 := 0) dX9_claimLine_51 rfl jw_X9_fail jn_X9_fail rfl (Nat.le_of_ble_eq_true rfl) (Nat.zero_le _) (Nat.zero_le _) rfl kw_1367 kw_1369 kw_53 (b := 26) (Nat.le_of_ble_eq_true rfl) (Nat.le_of_ble_eq_true rfl) rfl ?_
    refine S_X9_fail_26 3 ((σ.1 26 10) + 3) ((h.1 c1).1) ?_
    show mK Γ M_X9_claimLine (d + 2) Q n0 bc bs 54 [(0, .ref 26), (1, .int x1), (2, .int x2), (3, .int r)] [.int (h_X9_fail_26 σ 3 ((σ.1 26 10) + 3)).1] 60 mSH (h_X9_fail_26 σ 3 ((σ.1 26 10) + 3)).2
    exact mK_iret dX9_claimLine_54 rfl (h.1 c1).2
set_option maxRecDepth 20000 in
theorem T_X9_claimLine_26_73a {Γ : Nat × (Nat → Int32)} {d n0 bc bs : Nat} {Q : mQ} {σ : mS} (x1 : Int32) (x2 : Int32) (x3 : Int32) (r : Int32) (h : ((r = 0 → ((vp_in (σ.1 26 10) 402) ∧ Q (.inl (some (.int (h_X9_fail_26 σ 5 (σ.1 26 10)).1))) 60 mSH (h_X9_fail_26 σ 5 (σ.1 26 10)).2)) ∧ (¬ (r = 0) → mCall Γ M_X9_take (d + 1) 0 0 [.ref 26, .int x3, .int (10 + r)] 60 mSH σ (mRt Γ M_X9_claimLine (d + 2) Q n0 bc bs 100 [(0, .ref 26), (1, .int x1), (2, .int x2), (3, .int x3), (4, .int r)] [])))) : mRt Γ M_X9_claimLine (d + 2) Q n0 bc bs 73 [(0, .ref 26), (1, .int x1), (2, .int x2), (3, .int x3)] [] (.inl (some (.int r))) 60 mSH σ := by
  show mK Γ M_X9_claimLine (d + 2) Q n0 bc bs 73 [(0, .ref 26), (1, .int x1), (2, .int x2), (3, .int x3)] [.int r] 60 mSH σ
  refine ru_istore (lv1 := [(0, .ref 26), (1, .int x1), (2, .int x2), (3, .int x3), (4, .int r)]) dX9_claimLine_73 rfl (by decide) rfl ?_
  refine mK_iload dX9_claimLine_75 rfl (.tail _ (.tail _ (.tail _ (.tail _ (.head _))))) ?_
  refine ru_if_ne (tgt := 90) dX9_claimLine_77 rfl (by decide) (fun c1 => ?_) (fun c1 => ?_)
  · refine mK_aload_n dX9_claimLine_90 rfl rfl (.head _) ?_
    refine mK_iload_n dX9_claimLine_91 rfl rfl (.tail _ (.tail _ (.tail _ (.head _)))) ?_
    refine mK_bipush dX9_claimLine_92 rfl qbi_10 ?_
    refine mK_iload dX9_claimLine_94 rfl (.tail _ (.tail _ (.tail _ (.tail _ (.head _))))) ?_
    refine mK_iadd dX9_claimLine_96 rfl ?_
    refine mK_invV (J := M_X9_take) (k := 2) (as := [.int x3, .int (10 + r)]) (st := []) (c1 := 0) (s1 := 0) dX9_claimLine_97 rfl jw_X9_take jn_X9_take rfl (Nat.le_of_ble_eq_true rfl) (Nat.zero_le _) (Nat.zero_le _) rfl kw_1409 kw_1411 kw_60 (b := 26) (Nat.le_of_ble_eq_true rfl) (Nat.le_of_ble_eq_true rfl) rfl ?_
    exact (h.2 c1)
  · refine mK_aload_n dX9_claimLine_80 rfl rfl (.head _) ?_
    refine mK_iconst dX9_claimLine_81 rfl qic_5 ?_
    refine mK_aload_n dX9_claimLine_82 rfl rfl (.head _) ?_
    refine ru_getI (k := 10) (ci := 8) dX9_claimLine_83 rfl rfl kw_1137 ?_
    refine mK_invV (J := M_X9_fail) (k := 2) (as := [.int 5, .int (σ.1 26 10)]) (st := []) (c1 := 0) (s1 := 0) dX9_claimLine_86 rfl jw_X9_fail jn_X9_fail rfl (Nat.le_of_ble_eq_true rfl) (Nat.zero_le _) (Nat.zero_le _) rfl kw_1367 kw_1369 kw_53 (b := 26) (Nat.le_of_ble_eq_true rfl) (Nat.le_of_ble_eq_true rfl) rfl ?_
    refine S_X9_fail_26 5 (σ.1 26 10) ((h.1 c1).1) ?_
    show mK Γ M_X9_claimLine (d + 2) Q n0 bc bs 89 [(0, .ref 26), (1, .int x1), (2, .int x2), (3, .int x3), (4, .int r)] [.int (h_X9_fail_26 σ 5 (σ.1 26 10)).1] 60 mSH (h_X9_fail_26 σ 5 (σ.1 26 10)).2
    exact mK_iret dX9_claimLine_89 rfl (h.1 c1).2
set_option maxRecDepth 20000 in
theorem T_X9_claimLine_26_100a {Γ : Nat × (Nat → Int32)} {d n0 bc bs : Nat} {Q : mQ} {σ : mS} (x1 : Int32) (x2 : Int32) (x3 : Int32) (x4 : Int32) (r : Int32) (h : ((r = 0 → ((vp_in x1 402) ∧ mCall Γ M_X8_add (d + 1) 0 0 [.ref 32, .long (σ.2.1 31 (x1).toNatClampNeg), .int 0, .int x3, .int x4, .int (-1), .int (-1)] 60 mSH σ (mRt Γ M_X9_claimLine (d + 2) Q n0 bc bs 124 [(0, .ref 26), (1, .int x1), (2, .int r), (3, .int x3), (4, .int x4)] []))) ∧ (¬ (r = 0) → Q (.inl (some (.int r))) 60 mSH σ))) : mRt Γ M_X9_claimLine (d + 2) Q n0 bc bs 100 [(0, .ref 26), (1, .int x1), (2, .int x2), (3, .int x3), (4, .int x4)] [] (.inl (some (.int r))) 60 mSH σ := by
  show mK Γ M_X9_claimLine (d + 2) Q n0 bc bs 100 [(0, .ref 26), (1, .int x1), (2, .int x2), (3, .int x3), (4, .int x4)] [.int r] 60 mSH σ
  refine ru_istore_n (lv1 := [(0, .ref 26), (1, .int x1), (2, .int r), (3, .int x3), (4, .int x4)]) dX9_claimLine_100 rfl rfl (by decide) rfl ?_
  refine mK_iload_n dX9_claimLine_101 rfl rfl (.tail _ (.tail _ (.head _))) ?_
  refine ru_if_ne (tgt := 124) dX9_claimLine_102 rfl (by decide) (fun c1 => ?_) (fun c1 => ?_)
  · refine mK_iload_n dX9_claimLine_124 rfl rfl (.tail _ (.tail _ (.head _))) ?_
    exact mK_iret dX9_claimLine_125 rfl (h.2 c1)
  · refine mK_aload_n dX9_claimLine_105 rfl rfl (.head _) ?_
    refine ru_getR (k := 11) (ci := 8) (a := 32) dX9_claimLine_106 rfl rfl rfl kw_1138 ?_
    refine mK_aload_n dX9_claimLine_109 rfl rfl (.head _) ?_
    refine ru_getR (k := 9) (ci := 8) (a := 31) dX9_claimLine_110 rfl rfl rfl kw_1136 ?_
    refine mK_iload_n dX9_claimLine_113 rfl rfl (.tail _ (.head _)) ?_
    refine ru_lald (n := 402) dX9_claimLine_114 rfl rfl ((h.1 c1).1) ?_
    refine mK_iconst dX9_claimLine_115 rfl qic_0 ?_
    refine mK_iload_n dX9_claimLine_116 rfl rfl (.tail _ (.tail _ (.tail _ (.head _)))) ?_
    refine mK_iload dX9_claimLine_117 rfl (.tail _ (.tail _ (.tail _ (.tail _ (.head _))))) ?_
    refine mK_iconst dX9_claimLine_119 rfl qic_m1 ?_
    refine mK_iconst dX9_claimLine_120 rfl qic_m1 ?_
    refine mK_invV (J := M_X8_add) (k := 6) (as := [.long (σ.2.1 31 (x1).toNatClampNeg), .int 0, .int x3, .int x4, .int (-1), .int (-1)]) (st := []) (c1 := 0) (s1 := 0) dX9_claimLine_121 rfl jw_X8_add jn_X8_add rfl (Nat.le_of_ble_eq_true rfl) (Nat.zero_le _) (Nat.zero_le _) rfl kw_1413 kw_1414 kw_1415 (b := 32) (Nat.le_of_ble_eq_true rfl) (Nat.le_of_ble_eq_true rfl) rfl ?_
    exact (h.1 c1).2
set_option maxRecDepth 20000 in
theorem T_X9_claimLine_26_124a {Γ : Nat × (Nat → Int32)} {d n0 bc bs : Nat} {Q : mQ} {σ : mS} (x1 : Int32) (x2 : Int32) (x3 : Int32) (x4 : Int32) (h : Q (.inl (some (.int x2))) 60 mSH σ) : mRt Γ M_X9_claimLine (d + 2) Q n0 bc bs 124 [(0, .ref 26), (1, .int x1), (2, .int x2), (3, .int x3), (4, .int x4)] [] (.inl none) 60 mSH σ := by
  show mK Γ M_X9_claimLine (d + 2) Q n0 bc bs 124 [(0, .ref 26), (1, .int x1), (2, .int x2), (3, .int x3), (4, .int x4)] [] 60 mSH σ
  refine mK_iload_n dX9_claimLine_124 rfl rfl (.tail _ (.tail _ (.head _))) ?_
  exact mK_iret dX9_claimLine_125 rfl h
set_option maxRecDepth 20000 in
theorem E_X9_actLine_26 {Γ : Nat × (Nat → Int32)} {d : Nat} {Q : mQ} {σ : mS} (a1 : Int32) (h : mCall Γ M_X9_newName (d + 1) 0 0 [.ref 26, .int ((σ.1 26 10) + 1)] 60 mSH σ (mRt Γ M_X9_actLine (d + 2) Q 60 0 0 12 [(0, .ref 26), (1, .int a1), (2, .int ((σ.1 26 10) + 1))] [])) : mCall Γ M_X9_actLine (d + 2) 0 0 [.ref 26, .int a1] 60 mSH σ Q := by
  refine mCall_of rfl (by decide) (Nat.le_of_ble_eq_true rfl) (mOkC (mOk_lo (Nat.le_of_ble_eq_true rfl)) (mOkC mOk_i mOkN)) ?_
  show mK Γ M_X9_actLine (d + 2) Q 60 0 0 0 [(0, .ref 26), (1, .int a1)] [] 60 mSH σ
  refine mK_aload_n dX9_actLine_0 rfl rfl (.head _) ?_
  refine ru_getI (k := 10) (ci := 8) dX9_actLine_1 rfl rfl kw_1137 ?_
  refine mK_iconst dX9_actLine_4 rfl qic_1 ?_
  refine mK_iadd dX9_actLine_5 rfl ?_
  refine ru_istore_n (lv1 := [(0, .ref 26), (1, .int a1), (2, .int ((σ.1 26 10) + 1))]) dX9_actLine_6 rfl rfl (by decide) rfl ?_
  refine mK_aload_n dX9_actLine_7 rfl rfl (.head _) ?_
  refine mK_iload_n dX9_actLine_8 rfl rfl (.tail _ (.tail _ (.head _))) ?_
  refine mK_invV (J := M_X9_newName) (k := 1) (as := [.int ((σ.1 26 10) + 1)]) (st := []) (c1 := 0) (s1 := 0) dX9_actLine_9 rfl jw_X9_newName jn_X9_newName rfl (Nat.le_of_ble_eq_true rfl) (Nat.zero_le _) (Nat.zero_le _) rfl kw_1397 kw_1399 kw_58 (b := 26) (Nat.le_of_ble_eq_true rfl) (Nat.le_of_ble_eq_true rfl) rfl ?_
  exact h
set_option maxRecDepth 20000 in
theorem T_X9_actLine_26_12a {Γ : Nat × (Nat → Int32)} {d n0 bc bs : Nat} {Q : mQ} {σ : mS} (x1 : Int32) (x2 : Int32) (r : Int32) (h : ((r ≤ 0 → ((vp_in ((σ.1 26 10) + 3) 402) ∧ mCall Γ M_X8_itemOf (d + 1) 0 0 [.ref 32, .long (σ.2.1 31 ((σ.1 26 10) + 3).toNatClampNeg)] 60 mSH σ (mRt Γ M_X9_actLine (d + 2) Q n0 bc bs 37 [(0, .ref 26), (1, .int x1), (2, .int x2), (3, .int r)] []))) ∧ (¬ (r ≤ 0) → Q (.inl (some (.int r))) 60 mSH σ))) : mRt Γ M_X9_actLine (d + 2) Q n0 bc bs 12 [(0, .ref 26), (1, .int x1), (2, .int x2)] [] (.inl (some (.int r))) 60 mSH σ := by
  show mK Γ M_X9_actLine (d + 2) Q n0 bc bs 12 [(0, .ref 26), (1, .int x1), (2, .int x2)] [.int r] 60 mSH σ
  refine ru_istore_n (lv1 := [(0, .ref 26), (1, .int x1), (2, .int x2), (3, .int r)]) dX9_actLine_12 rfl rfl (by decide) rfl ?_
  refine mK_iload_n dX9_actLine_13 rfl rfl (.tail _ (.tail _ (.tail _ (.head _)))) ?_
  refine mK_if_le (tgt := 19) dX9_actLine_14 rfl (by decide) (fun c1 => ?_) (fun c1 => ?_)
  · refine mK_aload_n dX9_actLine_19 rfl rfl (.head _) ?_
    refine ru_getR (k := 11) (ci := 8) (a := 32) dX9_actLine_20 rfl rfl rfl kw_1138 ?_
    refine mK_aload_n dX9_actLine_23 rfl rfl (.head _) ?_
    refine ru_getR (k := 9) (ci := 8) (a := 31) dX9_actLine_24 rfl rfl rfl kw_1136 ?_
    refine mK_aload_n dX9_actLine_27 rfl rfl (.head _) ?_
    refine ru_getI (k := 10) (ci := 8) dX9_actLine_28 rfl rfl kw_1137 ?_
    refine mK_iconst dX9_actLine_31 rfl qic_3 ?_
    refine mK_iadd dX9_actLine_32 rfl ?_
    refine ru_lald (n := 402) dX9_actLine_33 rfl rfl ((h.1 c1).1) ?_
    refine mK_invV (J := M_X8_itemOf) (k := 1) (as := [.long (σ.2.1 31 ((σ.1 26 10) + 3).toNatClampNeg)]) (st := []) (c1 := 0) (s1 := 0) dX9_actLine_34 rfl jw_X8_itemOf jn_X8_itemOf rfl (Nat.le_of_ble_eq_true rfl) (Nat.zero_le _) (Nat.zero_le _) rfl kw_1401 kw_1402 kw_1403 (b := 32) (Nat.le_of_ble_eq_true rfl) (Nat.le_of_ble_eq_true rfl) rfl ?_
    exact (h.1 c1).2
  · refine mK_iload_n dX9_actLine_17 rfl rfl (.tail _ (.tail _ (.tail _ (.head _)))) ?_
    exact mK_iret dX9_actLine_18 rfl (h.2 c1)
set_option maxRecDepth 20000 in
theorem T_X9_actLine_26_37a {Γ : Nat × (Nat → Int32)} {d n0 bc bs : Nat} {Q : mQ} {σ : mS} (x1 : Int32) (x2 : Int32) (x3 : Int32) (r : Int32) (h : ((r = (-1) → ((vp_in ((σ.1 26 10) + 3) 402) ∧ Q (.inl (some (.int (h_X9_fail_26 σ 3 ((σ.1 26 10) + 3)).1))) 60 mSH (h_X9_fail_26 σ 3 ((σ.1 26 10) + 3)).2)) ∧ (¬ (r = (-1)) → ((vp_in r 40) ∧ (((σ.1 36 (r).toNatClampNeg) = 0 → ((vp_in ((σ.1 26 10) + 5) 402) ∧ mCall Γ M_X8_itemOf (d + 1) 0 0 [.ref 32, .long (σ.2.1 31 ((σ.1 26 10) + 5).toNatClampNeg)] 60 mSH σ (mRt Γ M_X9_actLine (d + 2) Q n0 bc bs 88 [(0, .ref 26), (1, .int x1), (2, .int x2), (3, .int x3), (4, .int r)] []))) ∧ (¬ ((σ.1 36 (r).toNatClampNeg) = 0) → ((vp_in ((σ.1 26 10) + 3) 402) ∧ Q (.inl (some (.int (h_X9_fail_26 σ 3 ((σ.1 26 10) + 3)).1))) 60 mSH (h_X9_fail_26 σ 3 ((σ.1 26 10) + 3)).2))))))) : mRt Γ M_X9_actLine (d + 2) Q n0 bc bs 37 [(0, .ref 26), (1, .int x1), (2, .int x2), (3, .int x3)] [] (.inl (some (.int r))) 60 mSH σ := by
  show mK Γ M_X9_actLine (d + 2) Q n0 bc bs 37 [(0, .ref 26), (1, .int x1), (2, .int x2), (3, .int x3)] [.int r] 60 mSH σ
  refine ru_istore (lv1 := [(0, .ref 26), (1, .int x1), (2, .int x2), (3, .int x3), (4, .int r)]) dX9_actLine_37 rfl (by decide) rfl ?_
  refine mK_iload dX9_actLine_39 rfl (.tail _ (.tail _ (.tail _ (.tail _ (.head _))))) ?_
  refine mK_iconst dX9_actLine_41 rfl qic_m1 ?_
  refine mK_icmp_eq (tgt := 58) dX9_actLine_42 rfl (by decide) (fun c1 => ?_) (fun c1 => ?_)
  · refine mK_aload_n dX9_actLine_58 rfl rfl (.head _) ?_
    refine mK_iconst dX9_actLine_59 rfl qic_3 ?_
    refine mK_aload_n dX9_actLine_60 rfl rfl (.head _) ?_
    refine ru_getI (k := 10) (ci := 8) dX9_actLine_61 rfl rfl kw_1137 ?_
    refine mK_iconst dX9_actLine_64 rfl qic_3 ?_
    refine mK_iadd dX9_actLine_65 rfl ?_
    refine mK_invV (J := M_X9_fail) (k := 2) (as := [.int 3, .int ((σ.1 26 10) + 3)]) (st := []) (c1 := 0) (s1 := 0) dX9_actLine_66 rfl jw_X9_fail jn_X9_fail rfl (Nat.le_of_ble_eq_true rfl) (Nat.zero_le _) (Nat.zero_le _) rfl kw_1367 kw_1369 kw_53 (b := 26) (Nat.le_of_ble_eq_true rfl) (Nat.le_of_ble_eq_true rfl) rfl ?_
    refine S_X9_fail_26 3 ((σ.1 26 10) + 3) ((h.1 c1).1) ?_
    show mK Γ M_X9_actLine (d + 2) Q n0 bc bs 69 [(0, .ref 26), (1, .int x1), (2, .int x2), (3, .int x3), (4, .int r)] [.int (h_X9_fail_26 σ 3 ((σ.1 26 10) + 3)).1] 60 mSH (h_X9_fail_26 σ 3 ((σ.1 26 10) + 3)).2
    exact mK_iret dX9_actLine_69 rfl (h.1 c1).2
  · refine mK_aload_n dX9_actLine_45 rfl rfl (.head _) ?_
    refine ru_getR (k := 11) (ci := 8) (a := 32) dX9_actLine_46 rfl rfl rfl kw_1138 ?_
    refine ru_getRN (k := 5) (ci := 7) (a := 36) dX9_actLine_49 rfl rfl rfl kn_1090 ?_
    refine mK_iload dX9_actLine_52 rfl (.tail _ (.tail _ (.tail _ (.tail _ (.head _))))) ?_
    refine ru_iald (n := 40) dX9_actLine_54 rfl rfl ((h.2 c1).1) ?_
    refine mK_if_eq (tgt := 70) dX9_actLine_55 rfl (by decide) (fun c2 => ?_) (fun c2 => ?_)
    · refine mK_aload_n dX9_actLine_70 rfl rfl (.head _) ?_
      refine ru_getR (k := 11) (ci := 8) (a := 32) dX9_actLine_71 rfl rfl rfl kw_1138 ?_
      refine mK_aload_n dX9_actLine_74 rfl rfl (.head _) ?_
      refine ru_getR (k := 9) (ci := 8) (a := 31) dX9_actLine_75 rfl rfl rfl kw_1136 ?_
      refine mK_aload_n dX9_actLine_78 rfl rfl (.head _) ?_
      refine ru_getI (k := 10) (ci := 8) dX9_actLine_79 rfl rfl kw_1137 ?_
      refine mK_iconst dX9_actLine_82 rfl qic_5 ?_
      refine mK_iadd dX9_actLine_83 rfl ?_
      refine ru_lald (n := 402) dX9_actLine_84 rfl rfl (((h.2 c1).2.1 c2).1) ?_
      refine mK_invV (J := M_X8_itemOf) (k := 1) (as := [.long (σ.2.1 31 ((σ.1 26 10) + 5).toNatClampNeg)]) (st := []) (c1 := 0) (s1 := 0) dX9_actLine_85 rfl jw_X8_itemOf jn_X8_itemOf rfl (Nat.le_of_ble_eq_true rfl) (Nat.zero_le _) (Nat.zero_le _) rfl kw_1401 kw_1402 kw_1403 (b := 32) (Nat.le_of_ble_eq_true rfl) (Nat.le_of_ble_eq_true rfl) rfl ?_
      exact ((h.2 c1).2.1 c2).2
    · refine mK_aload_n dX9_actLine_58 rfl rfl (.head _) ?_
      refine mK_iconst dX9_actLine_59 rfl qic_3 ?_
      refine mK_aload_n dX9_actLine_60 rfl rfl (.head _) ?_
      refine ru_getI (k := 10) (ci := 8) dX9_actLine_61 rfl rfl kw_1137 ?_
      refine mK_iconst dX9_actLine_64 rfl qic_3 ?_
      refine mK_iadd dX9_actLine_65 rfl ?_
      refine mK_invV (J := M_X9_fail) (k := 2) (as := [.int 3, .int ((σ.1 26 10) + 3)]) (st := []) (c1 := 0) (s1 := 0) dX9_actLine_66 rfl jw_X9_fail jn_X9_fail rfl (Nat.le_of_ble_eq_true rfl) (Nat.zero_le _) (Nat.zero_le _) rfl kw_1367 kw_1369 kw_53 (b := 26) (Nat.le_of_ble_eq_true rfl) (Nat.le_of_ble_eq_true rfl) rfl ?_
      refine S_X9_fail_26 3 ((σ.1 26 10) + 3) (((h.2 c1).2.2 c2).1) ?_
      show mK Γ M_X9_actLine (d + 2) Q n0 bc bs 69 [(0, .ref 26), (1, .int x1), (2, .int x2), (3, .int x3), (4, .int r)] [.int (h_X9_fail_26 σ 3 ((σ.1 26 10) + 3)).1] 60 mSH (h_X9_fail_26 σ 3 ((σ.1 26 10) + 3)).2
      exact mK_iret dX9_actLine_69 rfl ((h.2 c1).2.2 c2).2
set_option maxRecDepth 20000 in
theorem T_X9_actLine_26_88a {Γ : Nat × (Nat → Int32)} {d n0 bc bs : Nat} {Q : mQ} {σ : mS} (x1 : Int32) (x2 : Int32) (x3 : Int32) (x4 : Int32) (r : Int32) (h : ((r = (-1) → ((vp_in ((σ.1 26 10) + 5) 402) ∧ Q (.inl (some (.int (h_X9_fail_26 σ 3 ((σ.1 26 10) + 5)).1))) 60 mSH (h_X9_fail_26 σ 3 ((σ.1 26 10) + 5)).2)) ∧ (¬ (r = (-1)) → ((x1 = 1 → ((vp_in r 40) ∧ ((vp_in x4 40) ∧ (((σ.1 37 (r).toNatClampNeg) = (σ.1 37 (x4).toNatClampNeg) → ((vp_in ((σ.1 26 10) + 5) 402) ∧ Q (.inl (some (.int (h_X9_fail_26 σ 6 ((σ.1 26 10) + 5)).1))) 60 mSH (h_X9_fail_26 σ 6 ((σ.1 26 10) + 5)).2)) ∧ (¬ ((σ.1 37 (r).toNatClampNeg) = (σ.1 37 (x4).toNatClampNeg)) → mCall Γ M_X9_sized (d + 1) 0 0 [.ref 26, .ref 1210, .int 5] 60 mSH (mPI σ 26 10 ((σ.1 26 10) + 6)) (mRt Γ M_X9_actLine (d + 2) Q n0 bc bs 167 [(0, .ref 26), (1, .int x1), (2, .int x2), (3, .int x3), (4, .int x4), (5, .int r)] [])))))) ∧ (¬ (x1 = 1) → mCall Γ M_X9_sized (d + 1) 0 0 [.ref 26, .ref 1210, .int 5] 60 mSH (mPI σ 26 10 ((σ.1 26 10) + 6)) (mRt Γ M_X9_actLine (d + 2) Q n0 bc bs 167 [(0, .ref 26), (1, .int x1), (2, .int x2), (3, .int x3), (4, .int x4), (5, .int r)] [])))))) : mRt Γ M_X9_actLine (d + 2) Q n0 bc bs 88 [(0, .ref 26), (1, .int x1), (2, .int x2), (3, .int x3), (4, .int x4)] [] (.inl (some (.int r))) 60 mSH σ := by
  show mK Γ M_X9_actLine (d + 2) Q n0 bc bs 88 [(0, .ref 26), (1, .int x1), (2, .int x2), (3, .int x3), (4, .int x4)] [.int r] 60 mSH σ
  refine ru_istore (lv1 := [(0, .ref 26), (1, .int x1), (2, .int x2), (3, .int x3), (4, .int x4), (5, .int r)]) dX9_actLine_88 rfl (by decide) rfl ?_
  refine mK_iload dX9_actLine_90 rfl (.tail _ (.tail _ (.tail _ (.tail _ (.tail _ (.head _)))))) ?_
  refine mK_iconst dX9_actLine_92 rfl qic_m1 ?_
  refine ru_icmp_ne (tgt := 108) dX9_actLine_93 rfl (by decide) (fun c1 => ?_) (fun c1 => ?_)
  · refine mK_iload_n dX9_actLine_108 rfl rfl (.tail _ (.head _)) ?_
    refine mK_iconst dX9_actLine_109 rfl qic_1 ?_
    refine ru_icmp_ne (tgt := 149) dX9_actLine_110 rfl (by decide) (fun c2 => ?_) (fun c2 => ?_)
    · refine mK_aload_n dX9_actLine_149 rfl rfl (.head _) ?_
      refine mK_dup dX9_actLine_150 rfl rfl ?_
      refine ru_getI (k := 10) (ci := 8) dX9_actLine_151 rfl rfl kw_1137 ?_
      refine mK_bipush dX9_actLine_154 rfl qbi_6 ?_
      refine mK_iadd dX9_actLine_156 rfl ?_
      refine ru_putI (k := 10) (ci := 8) dX9_actLine_157 rfl rfl rfl kw_1137 ?_
      refine mK_aload_n dX9_actLine_160 rfl rfl (.head _) ?_
      refine mK_ldcS (i := 10) dX9_actLine_161 rfl (by decide) rfl rfl ?_
      refine mK_iconst dX9_actLine_163 rfl qic_5 ?_
      refine mK_invV (J := M_X9_sized) (k := 2) (as := [.ref 1210, .int 5]) (st := []) (c1 := 0) (s1 := 0) dX9_actLine_164 rfl jw_X9_sized jn_X9_sized rfl (Nat.le_of_ble_eq_true rfl) (Nat.zero_le _) (Nat.zero_le _) rfl kw_1405 kw_1407 kw_59 (b := 26) (Nat.le_of_ble_eq_true rfl) (Nat.le_of_ble_eq_true rfl) rfl ?_
      exact ((h.2 c1).2 c2)
    · refine mK_aload_n dX9_actLine_113 rfl rfl (.head _) ?_
      refine ru_getR (k := 11) (ci := 8) (a := 32) dX9_actLine_114 rfl rfl rfl kw_1138 ?_
      refine ru_getRN (k := 6) (ci := 7) (a := 37) dX9_actLine_117 rfl rfl rfl kn_1092 ?_
      refine mK_iload dX9_actLine_120 rfl (.tail _ (.tail _ (.tail _ (.tail _ (.tail _ (.head _)))))) ?_
      refine ru_iald (n := 40) dX9_actLine_122 rfl rfl (((h.2 c1).1 c2).1) ?_
      refine mK_aload_n dX9_actLine_123 rfl rfl (.head _) ?_
      refine ru_getR (k := 11) (ci := 8) (a := 32) dX9_actLine_124 rfl rfl rfl kw_1138 ?_
      refine ru_getRN (k := 6) (ci := 7) (a := 37) dX9_actLine_127 rfl rfl rfl kn_1092 ?_
      refine mK_iload dX9_actLine_130 rfl (.tail _ (.tail _ (.tail _ (.tail _ (.head _))))) ?_
      refine ru_iald (n := 40) dX9_actLine_132 rfl rfl (((h.2 c1).1 c2).2.1) ?_
      refine ru_icmp_ne (tgt := 149) dX9_actLine_133 rfl (by decide) (fun c3 => ?_) (fun c3 => ?_)
      · refine mK_aload_n dX9_actLine_149 rfl rfl (.head _) ?_
        refine mK_dup dX9_actLine_150 rfl rfl ?_
        refine ru_getI (k := 10) (ci := 8) dX9_actLine_151 rfl rfl kw_1137 ?_
        refine mK_bipush dX9_actLine_154 rfl qbi_6 ?_
        refine mK_iadd dX9_actLine_156 rfl ?_
        refine ru_putI (k := 10) (ci := 8) dX9_actLine_157 rfl rfl rfl kw_1137 ?_
        refine mK_aload_n dX9_actLine_160 rfl rfl (.head _) ?_
        refine mK_ldcS (i := 10) dX9_actLine_161 rfl (by decide) rfl rfl ?_
        refine mK_iconst dX9_actLine_163 rfl qic_5 ?_
        refine mK_invV (J := M_X9_sized) (k := 2) (as := [.ref 1210, .int 5]) (st := []) (c1 := 0) (s1 := 0) dX9_actLine_164 rfl jw_X9_sized jn_X9_sized rfl (Nat.le_of_ble_eq_true rfl) (Nat.zero_le _) (Nat.zero_le _) rfl kw_1405 kw_1407 kw_59 (b := 26) (Nat.le_of_ble_eq_true rfl) (Nat.le_of_ble_eq_true rfl) rfl ?_
        exact (((h.2 c1).1 c2).2.2.2 c3)
      · refine mK_aload_n dX9_actLine_136 rfl rfl (.head _) ?_
        refine mK_bipush dX9_actLine_137 rfl qbi_6 ?_
        refine mK_aload_n dX9_actLine_139 rfl rfl (.head _) ?_
        refine ru_getI (k := 10) (ci := 8) dX9_actLine_140 rfl rfl kw_1137 ?_
        refine mK_iconst dX9_actLine_143 rfl qic_5 ?_
        refine mK_iadd dX9_actLine_144 rfl ?_
        refine mK_invV (J := M_X9_fail) (k := 2) (as := [.int 6, .int ((σ.1 26 10) + 5)]) (st := []) (c1 := 0) (s1 := 0) dX9_actLine_145 rfl jw_X9_fail jn_X9_fail rfl (Nat.le_of_ble_eq_true rfl) (Nat.zero_le _) (Nat.zero_le _) rfl kw_1367 kw_1369 kw_53 (b := 26) (Nat.le_of_ble_eq_true rfl) (Nat.le_of_ble_eq_true rfl) rfl ?_
        refine S_X9_fail_26 6 ((σ.1 26 10) + 5) ((((h.2 c1).1 c2).2.2.1 c3).1) ?_
        show mK Γ M_X9_actLine (d + 2) Q n0 bc bs 148 [(0, .ref 26), (1, .int x1), (2, .int x2), (3, .int x3), (4, .int x4), (5, .int r)] [.int (h_X9_fail_26 σ 6 ((σ.1 26 10) + 5)).1] 60 mSH (h_X9_fail_26 σ 6 ((σ.1 26 10) + 5)).2
        exact mK_iret dX9_actLine_148 rfl (((h.2 c1).1 c2).2.2.1 c3).2
  · refine mK_aload_n dX9_actLine_96 rfl rfl (.head _) ?_
    refine mK_iconst dX9_actLine_97 rfl qic_3 ?_
    refine mK_aload_n dX9_actLine_98 rfl rfl (.head _) ?_
    refine ru_getI (k := 10) (ci := 8) dX9_actLine_99 rfl rfl kw_1137 ?_
    refine mK_iconst dX9_actLine_102 rfl qic_5 ?_
    refine mK_iadd dX9_actLine_103 rfl ?_
    refine mK_invV (J := M_X9_fail) (k := 2) (as := [.int 3, .int ((σ.1 26 10) + 5)]) (st := []) (c1 := 0) (s1 := 0) dX9_actLine_104 rfl jw_X9_fail jn_X9_fail rfl (Nat.le_of_ble_eq_true rfl) (Nat.zero_le _) (Nat.zero_le _) rfl kw_1367 kw_1369 kw_53 (b := 26) (Nat.le_of_ble_eq_true rfl) (Nat.le_of_ble_eq_true rfl) rfl ?_
    refine S_X9_fail_26 3 ((σ.1 26 10) + 5) ((h.1 c1).1) ?_
    show mK Γ M_X9_actLine (d + 2) Q n0 bc bs 107 [(0, .ref 26), (1, .int x1), (2, .int x2), (3, .int x3), (4, .int x4), (5, .int r)] [.int (h_X9_fail_26 σ 3 ((σ.1 26 10) + 5)).1] 60 mSH (h_X9_fail_26 σ 3 ((σ.1 26 10) + 5)).2
    exact mK_iret dX9_actLine_107 rfl (h.1 c1).2
set_option maxRecDepth 20000 in
theorem T_X9_actLine_26_167a {Γ : Nat × (Nat → Int32)} {d n0 bc bs : Nat} {Q : mQ} {σ : mS} (x1 : Int32) (x2 : Int32) (x3 : Int32) (x4 : Int32) (x5 : Int32) (r : Int32) (h : ((r = 0 → ((vp_in (σ.1 26 10) 402) ∧ Q (.inl (some (.int (h_X9_fail_26 σ 5 (σ.1 26 10)).1))) 60 mSH (h_X9_fail_26 σ 5 (σ.1 26 10)).2)) ∧ (¬ (r = 0) → mCall Γ M_X9_word (d + 1) 0 0 [.ref 26, .ref 1211] 60 mSH σ (mRt Γ M_X9_actLine (d + 2) Q n0 bc bs 193 [(0, .ref 26), (1, .int x1), (2, .int x2), (3, .int x3), (4, .int x4), (5, .int x5), (6, .int r), (7, .int 1)] [])))) : mRt Γ M_X9_actLine (d + 2) Q n0 bc bs 167 [(0, .ref 26), (1, .int x1), (2, .int x2), (3, .int x3), (4, .int x4), (5, .int x5)] [] (.inl (some (.int r))) 60 mSH σ := by
  show mK Γ M_X9_actLine (d + 2) Q n0 bc bs 167 [(0, .ref 26), (1, .int x1), (2, .int x2), (3, .int x3), (4, .int x4), (5, .int x5)] [.int r] 60 mSH σ
  refine ru_istore (lv1 := [(0, .ref 26), (1, .int x1), (2, .int x2), (3, .int x3), (4, .int x4), (5, .int x5), (6, .int r)]) dX9_actLine_167 rfl (by decide) rfl ?_
  refine mK_iload dX9_actLine_169 rfl (.tail _ (.tail _ (.tail _ (.tail _ (.tail _ (.tail _ (.head _))))))) ?_
  refine ru_if_ne (tgt := 184) dX9_actLine_171 rfl (by decide) (fun c1 => ?_) (fun c1 => ?_)
  · refine mK_iconst dX9_actLine_184 rfl qic_1 ?_
    refine ru_istore (lv1 := [(0, .ref 26), (1, .int x1), (2, .int x2), (3, .int x3), (4, .int x4), (5, .int x5), (6, .int r), (7, .int 1)]) dX9_actLine_185 rfl (by decide) rfl ?_
    refine mK_aload_n dX9_actLine_187 rfl rfl (.head _) ?_
    refine mK_ldcS (i := 11) dX9_actLine_188 rfl (by decide) rfl rfl ?_
    refine mK_invV (J := M_X9_word) (k := 1) (as := [.ref 1211]) (st := []) (c1 := 0) (s1 := 0) dX9_actLine_190 rfl jw_X9_word jn_X9_word rfl (Nat.le_of_ble_eq_true rfl) (Nat.zero_le _) (Nat.zero_le _) rfl kw_1251 kw_1253 kw_43 (b := 26) (Nat.le_of_ble_eq_true rfl) (Nat.le_of_ble_eq_true rfl) rfl ?_
    exact (h.2 c1)
  · refine mK_aload_n dX9_actLine_174 rfl rfl (.head _) ?_
    refine mK_iconst dX9_actLine_175 rfl qic_5 ?_
    refine mK_aload_n dX9_actLine_176 rfl rfl (.head _) ?_
    refine ru_getI (k := 10) (ci := 8) dX9_actLine_177 rfl rfl kw_1137 ?_
    refine mK_invV (J := M_X9_fail) (k := 2) (as := [.int 5, .int (σ.1 26 10)]) (st := []) (c1 := 0) (s1 := 0) dX9_actLine_180 rfl jw_X9_fail jn_X9_fail rfl (Nat.le_of_ble_eq_true rfl) (Nat.zero_le _) (Nat.zero_le _) rfl kw_1367 kw_1369 kw_53 (b := 26) (Nat.le_of_ble_eq_true rfl) (Nat.le_of_ble_eq_true rfl) rfl ?_
    refine S_X9_fail_26 5 (σ.1 26 10) ((h.1 c1).1) ?_
    show mK Γ M_X9_actLine (d + 2) Q n0 bc bs 183 [(0, .ref 26), (1, .int x1), (2, .int x2), (3, .int x3), (4, .int x4), (5, .int x5), (6, .int r)] [.int (h_X9_fail_26 σ 5 (σ.1 26 10)).1] 60 mSH (h_X9_fail_26 σ 5 (σ.1 26 10)).2
    exact mK_iret dX9_actLine_183 rfl (h.1 c1).2
set_option maxRecDepth 20000 in
theorem T_X9_actLine_26_193a {Γ : Nat × (Nat → Int32)} {d n0 bc bs : Nat} {Q : mQ} {σ : mS} (x1 : Int32) (x2 : Int32) (x3 : Int32) (x4 : Int32) (x5 : Int32) (x6 : Int32) (x7 : Int32) (r : Int32) (h : ((r = 0 → ((vp_in x4 40) ∧ mCall Γ M_X9_take (d + 1) 0 0 [.ref 26, .int (σ.1 37 (x4).toNatClampNeg), .int (5 + x6)] 60 mSH σ (mRt Γ M_X9_actLine (d + 2) Q n0 bc bs 253 [(0, .ref 26), (1, .int x1), (2, .int x2), (3, .int x3), (4, .int x4), (5, .int x5), (6, .int x6), (7, .int x7)] []))) ∧ (¬ (r = 0) → mCall Γ M_X9_unknown (d + 1) 0 0 [.ref 26] 60 mSH σ (mRt Γ M_X9_actLine (d + 2) Q n0 bc bs 200 [(0, .ref 26), (1, .int x1), (2, .int x2), (3, .int x3), (4, .int x4), (5, .int x5), (6, .int x6), (7, .int x7)] [])))) : mRt Γ M_X9_actLine (d + 2) Q n0 bc bs 193 [(0, .ref 26), (1, .int x1), (2, .int x2), (3, .int x3), (4, .int x4), (5, .int x5), (6, .int x6), (7, .int x7)] [] (.inl (some (.int r))) 60 mSH σ := by
  show mK Γ M_X9_actLine (d + 2) Q n0 bc bs 193 [(0, .ref 26), (1, .int x1), (2, .int x2), (3, .int x3), (4, .int x4), (5, .int x5), (6, .int x6), (7, .int x7)] [.int r] 60 mSH σ
  refine mK_if_eq (tgt := 235) dX9_actLine_193 rfl (by decide) (fun c1 => ?_) (fun c1 => ?_)
  · refine mK_aload_n dX9_actLine_235 rfl rfl (.head _) ?_
    refine mK_aload_n dX9_actLine_236 rfl rfl (.head _) ?_
    refine ru_getR (k := 11) (ci := 8) (a := 32) dX9_actLine_237 rfl rfl rfl kw_1138 ?_
    refine ru_getRN (k := 6) (ci := 7) (a := 37) dX9_actLine_240 rfl rfl rfl kn_1092 ?_
    refine mK_iload dX9_actLine_243 rfl (.tail _ (.tail _ (.tail _ (.tail _ (.head _))))) ?_
    refine ru_iald (n := 40) dX9_actLine_245 rfl rfl ((h.1 c1).1) ?_
    refine mK_iconst dX9_actLine_246 rfl qic_5 ?_
    refine mK_iload dX9_actLine_247 rfl (.tail _ (.tail _ (.tail _ (.tail _ (.tail _ (.tail _ (.head _))))))) ?_
    refine mK_iadd dX9_actLine_249 rfl ?_
    refine mK_invV (J := M_X9_take) (k := 2) (as := [.int (σ.1 37 (x4).toNatClampNeg), .int (5 + x6)]) (st := []) (c1 := 0) (s1 := 0) dX9_actLine_250 rfl jw_X9_take jn_X9_take rfl (Nat.le_of_ble_eq_true rfl) (Nat.zero_le _) (Nat.zero_le _) rfl kw_1409 kw_1411 kw_60 (b := 26) (Nat.le_of_ble_eq_true rfl) (Nat.le_of_ble_eq_true rfl) rfl ?_
    exact (h.1 c1).2
  · refine mK_aload_n dX9_actLine_196 rfl rfl (.head _) ?_
    refine mK_invV (J := M_X9_unknown) (k := 0) (as := []) (st := []) (c1 := 0) (s1 := 0) dX9_actLine_197 rfl jw_X9_unknown jn_X9_unknown rfl (Nat.le_of_ble_eq_true rfl) (Nat.zero_le _) (Nat.zero_le _) rfl kw_1421 kw_1423 kw_62 (b := 26) (Nat.le_of_ble_eq_true rfl) (Nat.le_of_ble_eq_true rfl) rfl ?_
    exact (h.2 c1)
set_option maxRecDepth 20000 in
theorem T_X9_actLine_26_253a {Γ : Nat × (Nat → Int32)} {d n0 bc bs : Nat} {Q : mQ} {σ : mS} (x1 : Int32) (x2 : Int32) (x3 : Int32) (x4 : Int32) (x5 : Int32) (x6 : Int32) (x7 : Int32) (r : Int32) (h : ((r = 0 → ((x7 = 0 → Q (.inl (some (.int r))) 60 mSH σ) ∧ (¬ (x7 = 0) → ((vp_in x2 402) ∧ ((vp_in x4 40) ∧ mCall Γ M_X8_add (d + 1) 0 0 [.ref 32, .long (σ.2.1 31 (x2).toNatClampNeg), .int x1, .int (σ.1 37 (x4).toNatClampNeg), .int x6, .int x4, .int x5] 60 mSH σ (mRt Γ M_X9_actLine (d + 2) Q n0 bc bs 293 [(0, .ref 26), (1, .int x1), (2, .int x2), (3, .int r), (4, .int x4), (5, .int x5), (6, .int x6), (7, .int x7)] [])))))) ∧ (¬ (r = 0) → Q (.inl (some (.int r))) 60 mSH σ))) : mRt Γ M_X9_actLine (d + 2) Q n0 bc bs 253 [(0, .ref 26), (1, .int x1), (2, .int x2), (3, .int x3), (4, .int x4), (5, .int x5), (6, .int x6), (7, .int x7)] [] (.inl (some (.int r))) 60 mSH σ := by
  show mK Γ M_X9_actLine (d + 2) Q n0 bc bs 253 [(0, .ref 26), (1, .int x1), (2, .int x2), (3, .int x3), (4, .int x4), (5, .int x5), (6, .int x6), (7, .int x7)] [.int r] 60 mSH σ
  refine ru_istore_n (lv1 := [(0, .ref 26), (1, .int x1), (2, .int x2), (3, .int r), (4, .int x4), (5, .int x5), (6, .int x6), (7, .int x7)]) dX9_actLine_253 rfl rfl (by decide) rfl ?_
  refine mK_iload_n dX9_actLine_254 rfl rfl (.tail _ (.tail _ (.tail _ (.head _)))) ?_
  refine ru_if_ne (tgt := 293) dX9_actLine_255 rfl (by decide) (fun c1 => ?_) (fun c1 => ?_)
  · refine mK_iload_n dX9_actLine_293 rfl rfl (.tail _ (.tail _ (.tail _ (.head _)))) ?_
    exact mK_iret dX9_actLine_294 rfl (h.2 c1)
  · refine mK_iload dX9_actLine_258 rfl (.tail _ (.tail _ (.tail _ (.tail _ (.tail _ (.tail _ (.tail _ (.head _)))))))) ?_
    refine mK_if_eq (tgt := 293) dX9_actLine_260 rfl (by decide) (fun c2 => ?_) (fun c2 => ?_)
    · refine mK_iload_n dX9_actLine_293 rfl rfl (.tail _ (.tail _ (.tail _ (.head _)))) ?_
      exact mK_iret dX9_actLine_294 rfl ((h.1 c1).1 c2)
    · refine mK_aload_n dX9_actLine_263 rfl rfl (.head _) ?_
      refine ru_getR (k := 11) (ci := 8) (a := 32) dX9_actLine_264 rfl rfl rfl kw_1138 ?_
      refine mK_aload_n dX9_actLine_267 rfl rfl (.head _) ?_
      refine ru_getR (k := 9) (ci := 8) (a := 31) dX9_actLine_268 rfl rfl rfl kw_1136 ?_
      refine mK_iload_n dX9_actLine_271 rfl rfl (.tail _ (.tail _ (.head _))) ?_
      refine ru_lald (n := 402) dX9_actLine_272 rfl rfl (((h.1 c1).2 c2).1) ?_
      refine mK_iload_n dX9_actLine_273 rfl rfl (.tail _ (.head _)) ?_
      refine mK_aload_n dX9_actLine_274 rfl rfl (.head _) ?_
      refine ru_getR (k := 11) (ci := 8) (a := 32) dX9_actLine_275 rfl rfl rfl kw_1138 ?_
      refine ru_getRN (k := 6) (ci := 7) (a := 37) dX9_actLine_278 rfl rfl rfl kn_1092 ?_
      refine mK_iload dX9_actLine_281 rfl (.tail _ (.tail _ (.tail _ (.tail _ (.head _))))) ?_
      refine ru_iald (n := 40) dX9_actLine_283 rfl rfl (((h.1 c1).2 c2).2.1) ?_
      refine mK_iload dX9_actLine_284 rfl (.tail _ (.tail _ (.tail _ (.tail _ (.tail _ (.tail _ (.head _))))))) ?_
      refine mK_iload dX9_actLine_286 rfl (.tail _ (.tail _ (.tail _ (.tail _ (.head _))))) ?_
      refine mK_iload dX9_actLine_288 rfl (.tail _ (.tail _ (.tail _ (.tail _ (.tail _ (.head _)))))) ?_
      refine mK_invV (J := M_X8_add) (k := 6) (as := [.long (σ.2.1 31 (x2).toNatClampNeg), .int x1, .int (σ.1 37 (x4).toNatClampNeg), .int x6, .int x4, .int x5]) (st := []) (c1 := 0) (s1 := 0) dX9_actLine_290 rfl jw_X8_add jn_X8_add rfl (Nat.le_of_ble_eq_true rfl) (Nat.zero_le _) (Nat.zero_le _) rfl kw_1413 kw_1414 kw_1415 (b := 32) (Nat.le_of_ble_eq_true rfl) (Nat.le_of_ble_eq_true rfl) rfl ?_
      exact ((h.1 c1).2 c2).2.2
set_option maxRecDepth 20000 in
theorem T_X9_actLine_26_200a {Γ : Nat × (Nat → Int32)} {d n0 bc bs : Nat} {Q : mQ} {σ : mS} (x1 : Int32) (x2 : Int32) (x3 : Int32) (x4 : Int32) (x5 : Int32) (x6 : Int32) (x7 : Int32) (r : Int32) (h : ((r = (-1) → mCall Γ M_X9_stand (d + 1) 0 0 [.ref 26, .ref 54, .ref 55] 60 mSH σ (mRt Γ M_X9_actLine (d + 2) Q n0 bc bs 228 [(0, .ref 26), (1, .int x1), (2, .int x2), (3, .int x3), (4, .int x4), (5, .int x5), (6, .int x6), (7, .int x7), (8, .int r)] [])) ∧ (¬ (r = (-1)) → ((vp_in r 402) ∧ Q (.inl (some (.int (h_X9_fail_26 σ 3 r).1))) 60 mSH (h_X9_fail_26 σ 3 r).2)))) : mRt Γ M_X9_actLine (d + 2) Q n0 bc bs 200 [(0, .ref 26), (1, .int x1), (2, .int x2), (3, .int x3), (4, .int x4), (5, .int x5), (6, .int x6), (7, .int x7)] [] (.inl (some (.int r))) 60 mSH σ := by
  show mK Γ M_X9_actLine (d + 2) Q n0 bc bs 200 [(0, .ref 26), (1, .int x1), (2, .int x2), (3, .int x3), (4, .int x4), (5, .int x5), (6, .int x6), (7, .int x7)] [.int r] 60 mSH σ
  refine ru_istore (lv1 := [(0, .ref 26), (1, .int x1), (2, .int x2), (3, .int x3), (4, .int x4), (5, .int x5), (6, .int x6), (7, .int x7), (8, .int r)]) dX9_actLine_200 rfl (by decide) rfl ?_
  refine mK_iload dX9_actLine_202 rfl (.tail _ (.tail _ (.tail _ (.tail _ (.tail _ (.tail _ (.tail _ (.tail _ (.head _))))))))) ?_
  refine mK_iconst dX9_actLine_204 rfl qic_m1 ?_
  refine mK_icmp_eq (tgt := 216) dX9_actLine_205 rfl (by decide) (fun c1 => ?_) (fun c1 => ?_)
  · refine mK_aload_n dX9_actLine_216 rfl rfl (.head _) ?_
    refine mK_aload_n dX9_actLine_217 rfl rfl (.head _) ?_
    refine ru_getR (k := 16) (ci := 8) (a := 54) dX9_actLine_218 rfl rfl rfl kw_1143 ?_
    refine mK_aload_n dX9_actLine_221 rfl rfl (.head _) ?_
    refine ru_getR (k := 17) (ci := 8) (a := 55) dX9_actLine_222 rfl rfl rfl kw_1144 ?_
    refine mK_invV (J := M_X9_stand) (k := 2) (as := [.ref 54, .ref 55]) (st := []) (c1 := 0) (s1 := 0) dX9_actLine_225 rfl jw_X9_stand jn_X9_stand rfl (Nat.le_of_ble_eq_true rfl) (Nat.zero_le _) (Nat.zero_le _) rfl kw_1425 kw_1427 kw_63 (b := 26) (Nat.le_of_ble_eq_true rfl) (Nat.le_of_ble_eq_true rfl) rfl ?_
    exact (h.1 c1)
  · refine mK_aload_n dX9_actLine_208 rfl rfl (.head _) ?_
    refine mK_iconst dX9_actLine_209 rfl qic_3 ?_
    refine mK_iload dX9_actLine_210 rfl (.tail _ (.tail _ (.tail _ (.tail _ (.tail _ (.tail _ (.tail _ (.tail _ (.head _))))))))) ?_
    refine mK_invV (J := M_X9_fail) (k := 2) (as := [.int 3, .int r]) (st := []) (c1 := 0) (s1 := 0) dX9_actLine_212 rfl jw_X9_fail jn_X9_fail rfl (Nat.le_of_ble_eq_true rfl) (Nat.zero_le _) (Nat.zero_le _) rfl kw_1367 kw_1369 kw_53 (b := 26) (Nat.le_of_ble_eq_true rfl) (Nat.le_of_ble_eq_true rfl) rfl ?_
    refine S_X9_fail_26 3 r ((h.2 c1).1) ?_
    show mK Γ M_X9_actLine (d + 2) Q n0 bc bs 215 [(0, .ref 26), (1, .int x1), (2, .int x2), (3, .int x3), (4, .int x4), (5, .int x5), (6, .int x6), (7, .int x7), (8, .int r)] [.int (h_X9_fail_26 σ 3 r).1] 60 mSH (h_X9_fail_26 σ 3 r).2
    exact mK_iret dX9_actLine_215 rfl (h.2 c1).2
set_option maxRecDepth 20000 in
theorem T_X9_actLine_26_293a {Γ : Nat × (Nat → Int32)} {d n0 bc bs : Nat} {Q : mQ} {σ : mS} (x1 : Int32) (x2 : Int32) (x3 : Int32) (x4 : Int32) (x5 : Int32) (x6 : Int32) (x7 : Int32) (h : Q (.inl (some (.int x3))) 60 mSH σ) : mRt Γ M_X9_actLine (d + 2) Q n0 bc bs 293 [(0, .ref 26), (1, .int x1), (2, .int x2), (3, .int x3), (4, .int x4), (5, .int x5), (6, .int x6), (7, .int x7)] [] (.inl none) 60 mSH σ := by
  show mK Γ M_X9_actLine (d + 2) Q n0 bc bs 293 [(0, .ref 26), (1, .int x1), (2, .int x2), (3, .int x3), (4, .int x4), (5, .int x5), (6, .int x6), (7, .int x7)] [] 60 mSH σ
  refine mK_iload_n dX9_actLine_293 rfl rfl (.tail _ (.tail _ (.tail _ (.head _)))) ?_
  exact mK_iret dX9_actLine_294 rfl h
set_option maxRecDepth 20000 in
theorem T_X9_actLine_26_228a {Γ : Nat × (Nat → Int32)} {d n0 bc bs : Nat} {Q : mQ} {σ : mS} (x1 : Int32) (x2 : Int32) (x3 : Int32) (x4 : Int32) (x5 : Int32) (x6 : Int32) (x7 : Int32) (x8 : Int32) (r : Int32) (h : mCall Γ M_X9_testHolds (d + 1) 0 0 [.ref 26] 60 mSH σ (mRt Γ M_X9_actLine (d + 2) Q n0 bc bs 233 [(0, .ref 26), (1, .int x1), (2, .int x2), (3, .int x3), (4, .int x4), (5, .int x5), (6, .int x6), (7, .int x7), (8, .int x8)] [])) : mRt Γ M_X9_actLine (d + 2) Q n0 bc bs 228 [(0, .ref 26), (1, .int x1), (2, .int x2), (3, .int x3), (4, .int x4), (5, .int x5), (6, .int x6), (7, .int x7), (8, .int x8)] [] (.inl (some (.int r))) 60 mSH σ := by
  show mK Γ M_X9_actLine (d + 2) Q n0 bc bs 228 [(0, .ref 26), (1, .int x1), (2, .int x2), (3, .int x3), (4, .int x4), (5, .int x5), (6, .int x6), (7, .int x7), (8, .int x8)] [.int r] 60 mSH σ
  refine mK_pop dX9_actLine_228 rfl rfl ?_
  refine mK_aload_n dX9_actLine_229 rfl rfl (.head _) ?_
  refine mK_invV (J := M_X9_testHolds) (k := 0) (as := []) (st := []) (c1 := 0) (s1 := 0) dX9_actLine_230 rfl jw_X9_testHolds jn_X9_testHolds rfl (Nat.le_of_ble_eq_true rfl) (Nat.zero_le _) (Nat.zero_le _) rfl kw_1441 kw_1443 kw_66 (b := 26) (Nat.le_of_ble_eq_true rfl) (Nat.le_of_ble_eq_true rfl) rfl ?_
  exact h
set_option maxRecDepth 20000 in
theorem T_X9_actLine_26_233a {Γ : Nat × (Nat → Int32)} {d n0 bc bs : Nat} {Q : mQ} {σ : mS} (x1 : Int32) (x2 : Int32) (x3 : Int32) (x4 : Int32) (x5 : Int32) (x6 : Int32) (x7 : Int32) (x8 : Int32) (r : Int32) (h : ((vp_in x4 40) ∧ mCall Γ M_X9_take (d + 1) 0 0 [.ref 26, .int (σ.1 37 (x4).toNatClampNeg), .int (5 + x6)] 60 mSH σ (mRt Γ M_X9_actLine (d + 2) Q n0 bc bs 253 [(0, .ref 26), (1, .int x1), (2, .int x2), (3, .int x3), (4, .int x4), (5, .int x5), (6, .int x6), (7, .int r), (8, .int x8)] []))) : mRt Γ M_X9_actLine (d + 2) Q n0 bc bs 233 [(0, .ref 26), (1, .int x1), (2, .int x2), (3, .int x3), (4, .int x4), (5, .int x5), (6, .int x6), (7, .int x7), (8, .int x8)] [] (.inl (some (.int r))) 60 mSH σ := by
  show mK Γ M_X9_actLine (d + 2) Q n0 bc bs 233 [(0, .ref 26), (1, .int x1), (2, .int x2), (3, .int x3), (4, .int x4), (5, .int x5), (6, .int x6), (7, .int x7), (8, .int x8)] [.int r] 60 mSH σ
  refine ru_istore (lv1 := [(0, .ref 26), (1, .int x1), (2, .int x2), (3, .int x3), (4, .int x4), (5, .int x5), (6, .int x6), (7, .int r), (8, .int x8)]) dX9_actLine_233 rfl (by decide) rfl ?_
  refine mK_aload_n dX9_actLine_235 rfl rfl (.head _) ?_
  refine mK_aload_n dX9_actLine_236 rfl rfl (.head _) ?_
  refine ru_getR (k := 11) (ci := 8) (a := 32) dX9_actLine_237 rfl rfl rfl kw_1138 ?_
  refine ru_getRN (k := 6) (ci := 7) (a := 37) dX9_actLine_240 rfl rfl rfl kn_1092 ?_
  refine mK_iload dX9_actLine_243 rfl (.tail _ (.tail _ (.tail _ (.tail _ (.head _))))) ?_
  refine ru_iald (n := 40) dX9_actLine_245 rfl rfl (h.1) ?_
  refine mK_iconst dX9_actLine_246 rfl qic_5 ?_
  refine mK_iload dX9_actLine_247 rfl (.tail _ (.tail _ (.tail _ (.tail _ (.tail _ (.tail _ (.head _))))))) ?_
  refine mK_iadd dX9_actLine_249 rfl ?_
  refine mK_invV (J := M_X9_take) (k := 2) (as := [.int (σ.1 37 (x4).toNatClampNeg), .int (5 + x6)]) (st := []) (c1 := 0) (s1 := 0) dX9_actLine_250 rfl jw_X9_take jn_X9_take rfl (Nat.le_of_ble_eq_true rfl) (Nat.zero_le _) (Nat.zero_le _) rfl kw_1409 kw_1411 kw_60 (b := 26) (Nat.le_of_ble_eq_true rfl) (Nat.le_of_ble_eq_true rfl) rfl ?_
  exact h.2
set_option maxRecDepth 20000 in
theorem E_X9_concedeLine_26 {Γ : Nat × (Nat → Int32)} {d : Nat} {Q : mQ} {σ : mS} (a1 : Int32) (h : ((vp_in ((σ.1 26 10) + 1) 402) ∧ mCall Γ M_X8_itemOf (d + 1) 0 0 [.ref 32, .long (σ.2.1 31 ((σ.1 26 10) + 1).toNatClampNeg)] 60 mSH σ (mRt Γ M_X9_concedeLine (d + 2) Q 60 0 0 20 [(0, .ref 26), (1, .int a1), (2, .int ((σ.1 26 10) + 1))] []))) : mCall Γ M_X9_concedeLine (d + 2) 0 0 [.ref 26, .int a1] 60 mSH σ Q := by
  refine mCall_of rfl (by decide) (Nat.le_of_ble_eq_true rfl) (mOkC (mOk_lo (Nat.le_of_ble_eq_true rfl)) (mOkC mOk_i mOkN)) ?_
  show mK Γ M_X9_concedeLine (d + 2) Q 60 0 0 0 [(0, .ref 26), (1, .int a1)] [] 60 mSH σ
  refine mK_aload_n dX9_concedeLine_0 rfl rfl (.head _) ?_
  refine ru_getI (k := 10) (ci := 8) dX9_concedeLine_1 rfl rfl kw_1137 ?_
  refine mK_iconst dX9_concedeLine_4 rfl qic_1 ?_
  refine mK_iadd dX9_concedeLine_5 rfl ?_
  refine ru_istore_n (lv1 := [(0, .ref 26), (1, .int a1), (2, .int ((σ.1 26 10) + 1))]) dX9_concedeLine_6 rfl rfl (by decide) rfl ?_
  refine mK_aload_n dX9_concedeLine_7 rfl rfl (.head _) ?_
  refine ru_getR (k := 11) (ci := 8) (a := 32) dX9_concedeLine_8 rfl rfl rfl kw_1138 ?_
  refine mK_aload_n dX9_concedeLine_11 rfl rfl (.head _) ?_
  refine ru_getR (k := 9) (ci := 8) (a := 31) dX9_concedeLine_12 rfl rfl rfl kw_1136 ?_
  refine mK_iload_n dX9_concedeLine_15 rfl rfl (.tail _ (.tail _ (.head _))) ?_
  refine ru_lald (n := 402) dX9_concedeLine_16 rfl rfl (h.1) ?_
  refine mK_invV (J := M_X8_itemOf) (k := 1) (as := [.long (σ.2.1 31 ((σ.1 26 10) + 1).toNatClampNeg)]) (st := []) (c1 := 0) (s1 := 0) dX9_concedeLine_17 rfl jw_X8_itemOf jn_X8_itemOf rfl (Nat.le_of_ble_eq_true rfl) (Nat.zero_le _) (Nat.zero_le _) rfl kw_1401 kw_1402 kw_1403 (b := 32) (Nat.le_of_ble_eq_true rfl) (Nat.le_of_ble_eq_true rfl) rfl ?_
  exact h.2
set_option maxRecDepth 20000 in
theorem T_X9_concedeLine_26_20a {Γ : Nat × (Nat → Int32)} {d n0 bc bs : Nat} {Q : mQ} {σ : mS} (x1 : Int32) (x2 : Int32) (r : Int32) (h : ((r = (-1) → ((vp_in x2 402) ∧ Q (.inl (some (.int (h_X9_fail_26 σ 3 x2).1))) 60 mSH (h_X9_fail_26 σ 3 x2).2)) ∧ (¬ (r = (-1)) → ((vp_in r 40) ∧ (((σ.1 41 (r).toNatClampNeg) = x1 → ((vp_in x2 402) ∧ Q (.inl (some (.int (h_X9_fail_26 σ 6 x2).1))) 60 mSH (h_X9_fail_26 σ 6 x2).2)) ∧ (¬ ((σ.1 41 (r).toNatClampNeg) = x1) → mCall Γ M_X9_take (d + 1) 0 0 [.ref 26, .int (σ.1 37 (r).toNatClampNeg), .int 2] 60 mSH (mPI σ 26 10 ((σ.1 26 10) + 2)) (mRt Γ M_X9_concedeLine (d + 2) Q n0 bc bs 78 [(0, .ref 26), (1, .int x1), (2, .int x2), (3, .int r)] []))))))) : mRt Γ M_X9_concedeLine (d + 2) Q n0 bc bs 20 [(0, .ref 26), (1, .int x1), (2, .int x2)] [] (.inl (some (.int r))) 60 mSH σ := by
  show mK Γ M_X9_concedeLine (d + 2) Q n0 bc bs 20 [(0, .ref 26), (1, .int x1), (2, .int x2)] [.int r] 60 mSH σ
  refine ru_istore_n (lv1 := [(0, .ref 26), (1, .int x1), (2, .int x2), (3, .int r)]) dX9_concedeLine_20 rfl rfl (by decide) rfl ?_
  refine mK_iload_n dX9_concedeLine_21 rfl rfl (.tail _ (.tail _ (.tail _ (.head _)))) ?_
  refine mK_iconst dX9_concedeLine_22 rfl qic_m1 ?_
  refine ru_icmp_ne (tgt := 33) dX9_concedeLine_23 rfl (by decide) (fun c1 => ?_) (fun c1 => ?_)
  · refine mK_aload_n dX9_concedeLine_33 rfl rfl (.head _) ?_
    refine ru_getR (k := 11) (ci := 8) (a := 32) dX9_concedeLine_34 rfl rfl rfl kw_1138 ?_
    refine ru_getRN (k := 10) (ci := 7) (a := 41) dX9_concedeLine_37 rfl rfl rfl kn_1100 ?_
    refine mK_iload_n dX9_concedeLine_40 rfl rfl (.tail _ (.tail _ (.tail _ (.head _)))) ?_
    refine ru_iald (n := 40) dX9_concedeLine_41 rfl rfl ((h.2 c1).1) ?_
    refine mK_iload_n dX9_concedeLine_42 rfl rfl (.tail _ (.head _)) ?_
    refine ru_icmp_ne (tgt := 54) dX9_concedeLine_43 rfl (by decide) (fun c2 => ?_) (fun c2 => ?_)
    · refine mK_aload_n dX9_concedeLine_54 rfl rfl (.head _) ?_
      refine mK_dup dX9_concedeLine_55 rfl rfl ?_
      refine ru_getI (k := 10) (ci := 8) dX9_concedeLine_56 rfl rfl kw_1137 ?_
      refine mK_iconst dX9_concedeLine_59 rfl qic_2 ?_
      refine mK_iadd dX9_concedeLine_60 rfl ?_
      refine ru_putI (k := 10) (ci := 8) dX9_concedeLine_61 rfl rfl rfl kw_1137 ?_
      refine mK_aload_n dX9_concedeLine_64 rfl rfl (.head _) ?_
      refine mK_aload_n dX9_concedeLine_65 rfl rfl (.head _) ?_
      refine ru_getR (k := 11) (ci := 8) (a := 32) dX9_concedeLine_66 rfl rfl rfl kw_1138 ?_
      refine ru_getRN (k := 6) (ci := 7) (a := 37) dX9_concedeLine_69 rfl rfl rfl kn_1092 ?_
      refine mK_iload_n dX9_concedeLine_72 rfl rfl (.tail _ (.tail _ (.tail _ (.head _)))) ?_
      refine ru_iald (n := 40) dX9_concedeLine_73 rfl rfl ((h.2 c1).1) ?_
      refine mK_iconst dX9_concedeLine_74 rfl qic_2 ?_
      refine mK_invV (J := M_X9_take) (k := 2) (as := [.int (σ.1 37 (r).toNatClampNeg), .int 2]) (st := []) (c1 := 0) (s1 := 0) dX9_concedeLine_75 rfl jw_X9_take jn_X9_take rfl (Nat.le_of_ble_eq_true rfl) (Nat.zero_le _) (Nat.zero_le _) rfl kw_1409 kw_1411 kw_60 (b := 26) (Nat.le_of_ble_eq_true rfl) (Nat.le_of_ble_eq_true rfl) rfl ?_
      exact ((h.2 c1).2.2 c2)
    · refine mK_aload_n dX9_concedeLine_46 rfl rfl (.head _) ?_
      refine mK_bipush dX9_concedeLine_47 rfl qbi_6 ?_
      refine mK_iload_n dX9_concedeLine_49 rfl rfl (.tail _ (.tail _ (.head _))) ?_
      refine mK_invV (J := M_X9_fail) (k := 2) (as := [.int 6, .int x2]) (st := []) (c1 := 0) (s1 := 0) dX9_concedeLine_50 rfl jw_X9_fail jn_X9_fail rfl (Nat.le_of_ble_eq_true rfl) (Nat.zero_le _) (Nat.zero_le _) rfl kw_1367 kw_1369 kw_53 (b := 26) (Nat.le_of_ble_eq_true rfl) (Nat.le_of_ble_eq_true rfl) rfl ?_
      refine S_X9_fail_26 6 x2 (((h.2 c1).2.1 c2).1) ?_
      show mK Γ M_X9_concedeLine (d + 2) Q n0 bc bs 53 [(0, .ref 26), (1, .int x1), (2, .int x2), (3, .int r)] [.int (h_X9_fail_26 σ 6 x2).1] 60 mSH (h_X9_fail_26 σ 6 x2).2
      exact mK_iret dX9_concedeLine_53 rfl ((h.2 c1).2.1 c2).2
  · refine mK_aload_n dX9_concedeLine_26 rfl rfl (.head _) ?_
    refine mK_iconst dX9_concedeLine_27 rfl qic_3 ?_
    refine mK_iload_n dX9_concedeLine_28 rfl rfl (.tail _ (.tail _ (.head _))) ?_
    refine mK_invV (J := M_X9_fail) (k := 2) (as := [.int 3, .int x2]) (st := []) (c1 := 0) (s1 := 0) dX9_concedeLine_29 rfl jw_X9_fail jn_X9_fail rfl (Nat.le_of_ble_eq_true rfl) (Nat.zero_le _) (Nat.zero_le _) rfl kw_1367 kw_1369 kw_53 (b := 26) (Nat.le_of_ble_eq_true rfl) (Nat.le_of_ble_eq_true rfl) rfl ?_
    refine S_X9_fail_26 3 x2 ((h.1 c1).1) ?_
    show mK Γ M_X9_concedeLine (d + 2) Q n0 bc bs 32 [(0, .ref 26), (1, .int x1), (2, .int x2), (3, .int r)] [.int (h_X9_fail_26 σ 3 x2).1] 60 mSH (h_X9_fail_26 σ 3 x2).2
    exact mK_iret dX9_concedeLine_32 rfl (h.1 c1).2
set_option maxRecDepth 20000 in
theorem T_X9_concedeLine_26_78a {Γ : Nat × (Nat → Int32)} {d n0 bc bs : Nat} {Q : mQ} {σ : mS} (x1 : Int32) (x2 : Int32) (x3 : Int32) (r : Int32) (h : ((r = 0 → ((vp_in x3 40) ∧ Q (.inl (some (.int r))) 60 mSH (mPI σ 41 (x3).toNatClampNeg x1))) ∧ (¬ (r = 0) → Q (.inl (some (.int r))) 60 mSH σ))) : mRt Γ M_X9_concedeLine (d + 2) Q n0 bc bs 78 [(0, .ref 26), (1, .int x1), (2, .int x2), (3, .int x3)] [] (.inl (some (.int r))) 60 mSH σ := by
  show mK Γ M_X9_concedeLine (d + 2) Q n0 bc bs 78 [(0, .ref 26), (1, .int x1), (2, .int x2), (3, .int x3)] [.int r] 60 mSH σ
  refine ru_istore (lv1 := [(0, .ref 26), (1, .int x1), (2, .int x2), (3, .int x3), (4, .int r)]) dX9_concedeLine_78 rfl (by decide) rfl ?_
  refine mK_iload dX9_concedeLine_80 rfl (.tail _ (.tail _ (.tail _ (.tail _ (.head _))))) ?_
  refine ru_if_ne (tgt := 95) dX9_concedeLine_82 rfl (by decide) (fun c1 => ?_) (fun c1 => ?_)
  · refine mK_iload dX9_concedeLine_95 rfl (.tail _ (.tail _ (.tail _ (.tail _ (.head _))))) ?_
    exact mK_iret dX9_concedeLine_97 rfl (h.2 c1)
  · refine mK_aload_n dX9_concedeLine_85 rfl rfl (.head _) ?_
    refine ru_getR (k := 11) (ci := 8) (a := 32) dX9_concedeLine_86 rfl rfl rfl kw_1138 ?_
    refine ru_getRN (k := 10) (ci := 7) (a := 41) dX9_concedeLine_89 rfl rfl rfl kn_1100 ?_
    refine mK_iload_n dX9_concedeLine_92 rfl rfl (.tail _ (.tail _ (.tail _ (.head _)))) ?_
    refine mK_iload_n dX9_concedeLine_93 rfl rfl (.tail _ (.head _)) ?_
    refine ru_iast (n := 40) dX9_concedeLine_94 rfl rfl ((h.1 c1).1) ?_
    refine mK_iload dX9_concedeLine_95 rfl (.tail _ (.tail _ (.tail _ (.tail _ (.head _))))) ?_
    exact mK_iret dX9_concedeLine_97 rfl (h.1 c1).2
set_option maxRecDepth 20000 in
theorem E_X9_carryOut_26 {Γ : Nat × (Nat → Int32)} {d : Nat} {Q : mQ} {σ : mS} (h : mK Γ M_X9_carryOut (d + 2) Q 60 0 0 7 [(0, .ref 26), (1, .int 0)] [] 60 mSH (mPI σ 26 10 0)) : mCall Γ M_X9_carryOut (d + 2) 0 0 [.ref 26] 60 mSH σ Q := by
  refine mCall_of rfl (by decide) (Nat.le_of_ble_eq_true rfl) (mOkC (mOk_lo (Nat.le_of_ble_eq_true rfl)) mOkN) ?_
  show mK Γ M_X9_carryOut (d + 2) Q 60 0 0 0 [(0, .ref 26)] [] 60 mSH σ
  refine mK_aload_n dX9_carryOut_0 rfl rfl (.head _) ?_
  refine mK_iconst dX9_carryOut_1 rfl qic_0 ?_
  refine ru_putI (k := 10) (ci := 8) dX9_carryOut_2 rfl rfl rfl kw_1137 ?_
  refine mK_iconst dX9_carryOut_5 rfl qic_0 ?_
  refine ru_istore_n (lv1 := [(0, .ref 26), (1, .int 0)]) dX9_carryOut_6 rfl rfl (by decide) rfl ?_
  exact h
set_option maxRecDepth 20000 in
theorem T_X9_carryOut_26_7 {Γ : Nat × (Nat → Int32)} {d n0 bc bs : Nat} {Q : mQ} {σ : mS} (x1 : Int32) (h : ((vp_in (σ.1 26 10) 402) ∧ (((σ.1 29 (σ.1 26 10).toNatClampNeg) = 0 → Q (.inl (some (.int x1))) 60 mSH σ) ∧ (¬ ((σ.1 29 (σ.1 26 10).toNatClampNeg) = 0) → ((x1 = 0 → mCall Γ M_X9_is (d + 1) 0 0 [.ref 26, .ref 1200] 60 mSH σ (mRt Γ M_X9_carryOut (d + 2) Q n0 bc bs 29 [(0, .ref 26), (1, .int x1)] [])) ∧ (¬ (x1 = 0) → Q (.inl (some (.int x1))) 60 mSH σ)))))) : mK Γ M_X9_carryOut (d + 2) Q n0 bc bs 7 [(0, .ref 26), (1, .int x1)] [] 60 mSH σ := by
  refine mK_aload_n dX9_carryOut_7 rfl rfl (.head _) ?_
  refine ru_getR (k := 7) (ci := 8) (a := 29) dX9_carryOut_8 rfl rfl rfl kw_1134 ?_
  refine mK_aload_n dX9_carryOut_11 rfl rfl (.head _) ?_
  refine ru_getI (k := 10) (ci := 8) dX9_carryOut_12 rfl rfl kw_1137 ?_
  refine ru_iald (n := 402) dX9_carryOut_15 rfl rfl (h.1) ?_
  refine mK_if_eq (tgt := 125) dX9_carryOut_16 rfl (by decide) (fun c1 => ?_) (fun c1 => ?_)
  · refine mK_iload_n dX9_carryOut_125 rfl rfl (.tail _ (.head _)) ?_
    exact mK_iret dX9_carryOut_126 rfl (h.2.1 c1)
  · refine mK_iload_n dX9_carryOut_19 rfl rfl (.tail _ (.head _)) ?_
    refine ru_if_ne (tgt := 125) dX9_carryOut_20 rfl (by decide) (fun c2 => ?_) (fun c2 => ?_)
    · refine mK_iload_n dX9_carryOut_125 rfl rfl (.tail _ (.head _)) ?_
      exact mK_iret dX9_carryOut_126 rfl ((h.2.2 c1).2 c2)
    · refine mK_aload_n dX9_carryOut_23 rfl rfl (.head _) ?_
      refine mK_ldcS (i := 0) dX9_carryOut_24 rfl (by decide) rfl rfl ?_
      refine mK_invV (J := M_X9_is) (k := 1) (as := [.ref 1200]) (st := []) (c1 := 0) (s1 := 0) dX9_carryOut_26 rfl jw_X9_is jn_X9_is rfl (Nat.le_of_ble_eq_true rfl) (Nat.zero_le _) (Nat.zero_le _) rfl kw_1255 kw_1257 kw_44 (b := 26) (Nat.le_of_ble_eq_true rfl) (Nat.le_of_ble_eq_true rfl) rfl ?_
      exact ((h.2.2 c1).1 c2)
set_option maxRecDepth 20000 in
theorem T_X9_carryOut_26_29a {Γ : Nat × (Nat → Int32)} {d n0 bc bs : Nat} {Q : mQ} {σ : mS} (x1 : Int32) (r : Int32) (h : ((r = 0 → mCall Γ M_X9_is (d + 1) 0 0 [.ref 26, .ref 1202] 60 mSH σ (mRt Γ M_X9_carryOut (d + 2) Q n0 bc bs 46 [(0, .ref 26), (1, .int x1)] [])) ∧ (¬ (r = 0) → mCall Γ M_X9_speakerLine (d + 1) 0 0 [.ref 26] 60 mSH σ (mRt Γ M_X9_carryOut (d + 2) Q n0 bc bs 36 [(0, .ref 26), (1, .int x1)] [])))) : mRt Γ M_X9_carryOut (d + 2) Q n0 bc bs 29 [(0, .ref 26), (1, .int x1)] [] (.inl (some (.int r))) 60 mSH σ := by
  show mK Γ M_X9_carryOut (d + 2) Q n0 bc bs 29 [(0, .ref 26), (1, .int x1)] [.int r] 60 mSH σ
  refine mK_if_eq (tgt := 40) dX9_carryOut_29 rfl (by decide) (fun c1 => ?_) (fun c1 => ?_)
  · refine mK_aload_n dX9_carryOut_40 rfl rfl (.head _) ?_
    refine mK_ldcS (i := 2) dX9_carryOut_41 rfl (by decide) rfl rfl ?_
    refine mK_invV (J := M_X9_is) (k := 1) (as := [.ref 1202]) (st := []) (c1 := 0) (s1 := 0) dX9_carryOut_43 rfl jw_X9_is jn_X9_is rfl (Nat.le_of_ble_eq_true rfl) (Nat.zero_le _) (Nat.zero_le _) rfl kw_1255 kw_1257 kw_44 (b := 26) (Nat.le_of_ble_eq_true rfl) (Nat.le_of_ble_eq_true rfl) rfl ?_
    exact (h.1 c1)
  · refine mK_aload_n dX9_carryOut_32 rfl rfl (.head _) ?_
    refine mK_invV (J := M_X9_speakerLine) (k := 0) (as := []) (st := []) (c1 := 0) (s1 := 0) dX9_carryOut_33 rfl jw_X9_speakerLine jn_X9_speakerLine rfl (Nat.le_of_ble_eq_true rfl) (Nat.zero_le _) (Nat.zero_le _) rfl kw_1384 kw_1386 kw_56 (b := 26) (Nat.le_of_ble_eq_true rfl) (Nat.le_of_ble_eq_true rfl) rfl ?_
    exact (h.2 c1)
set_option maxRecDepth 20000 in
theorem T_X9_carryOut_26_46a {Γ : Nat × (Nat → Int32)} {d n0 bc bs : Nat} {Q : mQ} {σ : mS} (x1 : Int32) (r : Int32) (h : ((r = 0 → mCall Γ M_X9_is (d + 1) 0 0 [.ref 26, .ref 1205] 60 mSH σ (mRt Γ M_X9_carryOut (d + 2) Q n0 bc bs 63 [(0, .ref 26), (1, .int x1)] [])) ∧ (¬ (r = 0) → mCall Γ M_X9_claimLine (d + 1) 0 0 [.ref 26] 60 mSH σ (mRt Γ M_X9_carryOut (d + 2) Q n0 bc bs 53 [(0, .ref 26), (1, .int x1)] [])))) : mRt Γ M_X9_carryOut (d + 2) Q n0 bc bs 46 [(0, .ref 26), (1, .int x1)] [] (.inl (some (.int r))) 60 mSH σ := by
  show mK Γ M_X9_carryOut (d + 2) Q n0 bc bs 46 [(0, .ref 26), (1, .int x1)] [.int r] 60 mSH σ
  refine mK_if_eq (tgt := 57) dX9_carryOut_46 rfl (by decide) (fun c1 => ?_) (fun c1 => ?_)
  · refine mK_aload_n dX9_carryOut_57 rfl rfl (.head _) ?_
    refine mK_ldcS (i := 5) dX9_carryOut_58 rfl (by decide) rfl rfl ?_
    refine mK_invV (J := M_X9_is) (k := 1) (as := [.ref 1205]) (st := []) (c1 := 0) (s1 := 0) dX9_carryOut_60 rfl jw_X9_is jn_X9_is rfl (Nat.le_of_ble_eq_true rfl) (Nat.zero_le _) (Nat.zero_le _) rfl kw_1255 kw_1257 kw_44 (b := 26) (Nat.le_of_ble_eq_true rfl) (Nat.le_of_ble_eq_true rfl) rfl ?_
    exact (h.1 c1)
  · refine mK_aload_n dX9_carryOut_49 rfl rfl (.head _) ?_
    refine mK_invV (J := M_X9_claimLine) (k := 0) (as := []) (st := []) (c1 := 0) (s1 := 0) dX9_carryOut_50 rfl jw_X9_claimLine jn_X9_claimLine rfl (Nat.le_of_ble_eq_true rfl) (Nat.zero_le _) (Nat.zero_le _) rfl kw_1393 kw_1395 kw_57 (b := 26) (Nat.le_of_ble_eq_true rfl) (Nat.le_of_ble_eq_true rfl) rfl ?_
    exact (h.2 c1)
set_option maxRecDepth 20000 in
theorem T_X9_carryOut_26_36a {Γ : Nat × (Nat → Int32)} {d n0 bc bs : Nat} {Q : mQ} {σ : mS} (x1 : Int32) (r : Int32) (h : mK Γ M_X9_carryOut (d + 2) Q n0 bc bs 7 [(0, .ref 26), (1, .int r)] [] 60 mSH (mPI σ 26 10 ((σ.1 26 10) + 1))) : mRt Γ M_X9_carryOut (d + 2) Q n0 bc bs 36 [(0, .ref 26), (1, .int x1)] [] (.inl (some (.int r))) 60 mSH σ := by
  show mK Γ M_X9_carryOut (d + 2) Q n0 bc bs 36 [(0, .ref 26), (1, .int x1)] [.int r] 60 mSH σ
  refine ru_istore_n (lv1 := [(0, .ref 26), (1, .int r)]) dX9_carryOut_36 rfl rfl (by decide) rfl ?_
  refine mK_goto (tgt := 112) dX9_carryOut_37 (by decide) ?_
  refine mK_aload_n dX9_carryOut_112 rfl rfl (.head _) ?_
  refine mK_dup dX9_carryOut_113 rfl rfl ?_
  refine ru_getI (k := 10) (ci := 8) dX9_carryOut_114 rfl rfl kw_1137 ?_
  refine mK_iconst dX9_carryOut_117 rfl qic_1 ?_
  refine mK_iadd dX9_carryOut_118 rfl ?_
  refine ru_putI (k := 10) (ci := 8) dX9_carryOut_119 rfl rfl rfl kw_1137 ?_
  refine mK_goto (tgt := 7) dX9_carryOut_122 (by decide) ?_
  exact h
set_option maxRecDepth 20000 in
theorem T_X9_carryOut_26_63a {Γ : Nat × (Nat → Int32)} {d n0 bc bs : Nat} {Q : mQ} {σ : mS} (x1 : Int32) (r : Int32) (h : ((r = 0 → mCall Γ M_X9_is (d + 1) 0 0 [.ref 26, .ref 1206] 60 mSH σ (mRt Γ M_X9_carryOut (d + 2) Q n0 bc bs 81 [(0, .ref 26), (1, .int x1)] [])) ∧ (¬ (r = 0) → mCall Γ M_X9_actLine (d + 1) 0 0 [.ref 26, .int 1] 60 mSH σ (mRt Γ M_X9_carryOut (d + 2) Q n0 bc bs 71 [(0, .ref 26), (1, .int x1)] [])))) : mRt Γ M_X9_carryOut (d + 2) Q n0 bc bs 63 [(0, .ref 26), (1, .int x1)] [] (.inl (some (.int r))) 60 mSH σ := by
  show mK Γ M_X9_carryOut (d + 2) Q n0 bc bs 63 [(0, .ref 26), (1, .int x1)] [.int r] 60 mSH σ
  refine mK_if_eq (tgt := 75) dX9_carryOut_63 rfl (by decide) (fun c1 => ?_) (fun c1 => ?_)
  · refine mK_aload_n dX9_carryOut_75 rfl rfl (.head _) ?_
    refine mK_ldcS (i := 6) dX9_carryOut_76 rfl (by decide) rfl rfl ?_
    refine mK_invV (J := M_X9_is) (k := 1) (as := [.ref 1206]) (st := []) (c1 := 0) (s1 := 0) dX9_carryOut_78 rfl jw_X9_is jn_X9_is rfl (Nat.le_of_ble_eq_true rfl) (Nat.zero_le _) (Nat.zero_le _) rfl kw_1255 kw_1257 kw_44 (b := 26) (Nat.le_of_ble_eq_true rfl) (Nat.le_of_ble_eq_true rfl) rfl ?_
    exact (h.1 c1)
  · refine mK_aload_n dX9_carryOut_66 rfl rfl (.head _) ?_
    refine mK_iconst dX9_carryOut_67 rfl qic_1 ?_
    refine mK_invV (J := M_X9_actLine) (k := 1) (as := [.int 1]) (st := []) (c1 := 0) (s1 := 0) dX9_carryOut_68 rfl jw_X9_actLine jn_X9_actLine rfl (Nat.le_of_ble_eq_true rfl) (Nat.zero_le _) (Nat.zero_le _) rfl kw_1417 kw_1419 kw_61 (b := 26) (Nat.le_of_ble_eq_true rfl) (Nat.le_of_ble_eq_true rfl) rfl ?_
    exact (h.2 c1)
set_option maxRecDepth 20000 in
theorem T_X9_carryOut_26_53a {Γ : Nat × (Nat → Int32)} {d n0 bc bs : Nat} {Q : mQ} {σ : mS} (x1 : Int32) (r : Int32) (h : mK Γ M_X9_carryOut (d + 2) Q n0 bc bs 7 [(0, .ref 26), (1, .int r)] [] 60 mSH (mPI σ 26 10 ((σ.1 26 10) + 1))) : mRt Γ M_X9_carryOut (d + 2) Q n0 bc bs 53 [(0, .ref 26), (1, .int x1)] [] (.inl (some (.int r))) 60 mSH σ := by
  show mK Γ M_X9_carryOut (d + 2) Q n0 bc bs 53 [(0, .ref 26), (1, .int x1)] [.int r] 60 mSH σ
  refine ru_istore_n (lv1 := [(0, .ref 26), (1, .int r)]) dX9_carryOut_53 rfl rfl (by decide) rfl ?_
  refine mK_goto (tgt := 112) dX9_carryOut_54 (by decide) ?_
  refine mK_aload_n dX9_carryOut_112 rfl rfl (.head _) ?_
  refine mK_dup dX9_carryOut_113 rfl rfl ?_
  refine ru_getI (k := 10) (ci := 8) dX9_carryOut_114 rfl rfl kw_1137 ?_
  refine mK_iconst dX9_carryOut_117 rfl qic_1 ?_
  refine mK_iadd dX9_carryOut_118 rfl ?_
  refine ru_putI (k := 10) (ci := 8) dX9_carryOut_119 rfl rfl rfl kw_1137 ?_
  refine mK_goto (tgt := 7) dX9_carryOut_122 (by decide) ?_
  exact h
set_option maxRecDepth 20000 in
theorem T_X9_carryOut_26_81a {Γ : Nat × (Nat → Int32)} {d n0 bc bs : Nat} {Q : mQ} {σ : mS} (x1 : Int32) (r : Int32) (h : ((r = 0 → mCall Γ M_X9_is (d + 1) 0 0 [.ref 26, .ref 1212] 60 mSH σ (mRt Γ M_X9_carryOut (d + 2) Q n0 bc bs 100 [(0, .ref 26), (1, .int x1)] [.ref 26])) ∧ (¬ (r = 0) → mCall Γ M_X9_actLine (d + 1) 0 0 [.ref 26, .int 2] 60 mSH σ (mRt Γ M_X9_carryOut (d + 2) Q n0 bc bs 89 [(0, .ref 26), (1, .int x1)] [])))) : mRt Γ M_X9_carryOut (d + 2) Q n0 bc bs 81 [(0, .ref 26), (1, .int x1)] [] (.inl (some (.int r))) 60 mSH σ := by
  show mK Γ M_X9_carryOut (d + 2) Q n0 bc bs 81 [(0, .ref 26), (1, .int x1)] [.int r] 60 mSH σ
  refine mK_if_eq (tgt := 93) dX9_carryOut_81 rfl (by decide) (fun c1 => ?_) (fun c1 => ?_)
  · refine mK_aload_n dX9_carryOut_93 rfl rfl (.head _) ?_
    refine mK_aload_n dX9_carryOut_94 rfl rfl (.head _) ?_
    refine mK_ldcS (i := 12) dX9_carryOut_95 rfl (by decide) rfl rfl ?_
    refine mK_invV (J := M_X9_is) (k := 1) (as := [.ref 1212]) (st := [.ref 26]) (c1 := 0) (s1 := 0) dX9_carryOut_97 rfl jw_X9_is jn_X9_is rfl (Nat.le_of_ble_eq_true rfl) (Nat.zero_le _) (Nat.zero_le _) rfl kw_1255 kw_1257 kw_44 (b := 26) (Nat.le_of_ble_eq_true rfl) (Nat.le_of_ble_eq_true rfl) rfl ?_
    exact (h.1 c1)
  · refine mK_aload_n dX9_carryOut_84 rfl rfl (.head _) ?_
    refine mK_iconst dX9_carryOut_85 rfl qic_2 ?_
    refine mK_invV (J := M_X9_actLine) (k := 1) (as := [.int 2]) (st := []) (c1 := 0) (s1 := 0) dX9_carryOut_86 rfl jw_X9_actLine jn_X9_actLine rfl (Nat.le_of_ble_eq_true rfl) (Nat.zero_le _) (Nat.zero_le _) rfl kw_1417 kw_1419 kw_61 (b := 26) (Nat.le_of_ble_eq_true rfl) (Nat.le_of_ble_eq_true rfl) rfl ?_
    exact (h.2 c1)
set_option maxRecDepth 20000 in
theorem T_X9_carryOut_26_71a {Γ : Nat × (Nat → Int32)} {d n0 bc bs : Nat} {Q : mQ} {σ : mS} (x1 : Int32) (r : Int32) (h : mK Γ M_X9_carryOut (d + 2) Q n0 bc bs 7 [(0, .ref 26), (1, .int r)] [] 60 mSH (mPI σ 26 10 ((σ.1 26 10) + 1))) : mRt Γ M_X9_carryOut (d + 2) Q n0 bc bs 71 [(0, .ref 26), (1, .int x1)] [] (.inl (some (.int r))) 60 mSH σ := by
  show mK Γ M_X9_carryOut (d + 2) Q n0 bc bs 71 [(0, .ref 26), (1, .int x1)] [.int r] 60 mSH σ
  refine ru_istore_n (lv1 := [(0, .ref 26), (1, .int r)]) dX9_carryOut_71 rfl rfl (by decide) rfl ?_
  refine mK_goto (tgt := 112) dX9_carryOut_72 (by decide) ?_
  refine mK_aload_n dX9_carryOut_112 rfl rfl (.head _) ?_
  refine mK_dup dX9_carryOut_113 rfl rfl ?_
  refine ru_getI (k := 10) (ci := 8) dX9_carryOut_114 rfl rfl kw_1137 ?_
  refine mK_iconst dX9_carryOut_117 rfl qic_1 ?_
  refine mK_iadd dX9_carryOut_118 rfl ?_
  refine ru_putI (k := 10) (ci := 8) dX9_carryOut_119 rfl rfl rfl kw_1137 ?_
  refine mK_goto (tgt := 7) dX9_carryOut_122 (by decide) ?_
  exact h
set_option maxRecDepth 20000 in
theorem T_X9_carryOut_26_100a {Γ : Nat × (Nat → Int32)} {d n0 bc bs : Nat} {Q : mQ} {σ : mS} (x1 : Int32) (r : Int32) (h : ((r = 0 → mCall Γ M_X9_concedeLine (d + 1) 0 0 [.ref 26, .int 0] 60 mSH σ (mRt Γ M_X9_carryOut (d + 2) Q n0 bc bs 111 [(0, .ref 26), (1, .int x1)] [])) ∧ (¬ (r = 0) → mCall Γ M_X9_concedeLine (d + 1) 0 0 [.ref 26, .int 1] 60 mSH σ (mRt Γ M_X9_carryOut (d + 2) Q n0 bc bs 111 [(0, .ref 26), (1, .int x1)] [])))) : mRt Γ M_X9_carryOut (d + 2) Q n0 bc bs 100 [(0, .ref 26), (1, .int x1)] [.ref 26] (.inl (some (.int r))) 60 mSH σ := by
  show mK Γ M_X9_carryOut (d + 2) Q n0 bc bs 100 [(0, .ref 26), (1, .int x1)] [.int r, .ref 26] 60 mSH σ
  refine mK_if_eq (tgt := 107) dX9_carryOut_100 rfl (by decide) (fun c1 => ?_) (fun c1 => ?_)
  · refine mK_iconst dX9_carryOut_107 rfl qic_0 ?_
    refine mK_invV (J := M_X9_concedeLine) (k := 1) (as := [.int 0]) (st := []) (c1 := 0) (s1 := 0) dX9_carryOut_108 rfl jw_X9_concedeLine jn_X9_concedeLine rfl (Nat.le_of_ble_eq_true rfl) (Nat.zero_le _) (Nat.zero_le _) rfl kw_1453 kw_1455 kw_69 (b := 26) (Nat.le_of_ble_eq_true rfl) (Nat.le_of_ble_eq_true rfl) rfl ?_
    exact (h.1 c1)
  · refine mK_iconst dX9_carryOut_103 rfl qic_1 ?_
    refine mK_goto (tgt := 108) dX9_carryOut_104 (by decide) ?_
    refine mK_invV (J := M_X9_concedeLine) (k := 1) (as := [.int 1]) (st := []) (c1 := 0) (s1 := 0) dX9_carryOut_108 rfl jw_X9_concedeLine jn_X9_concedeLine rfl (Nat.le_of_ble_eq_true rfl) (Nat.zero_le _) (Nat.zero_le _) rfl kw_1453 kw_1455 kw_69 (b := 26) (Nat.le_of_ble_eq_true rfl) (Nat.le_of_ble_eq_true rfl) rfl ?_
    exact (h.2 c1)
set_option maxRecDepth 20000 in
theorem T_X9_carryOut_26_89a {Γ : Nat × (Nat → Int32)} {d n0 bc bs : Nat} {Q : mQ} {σ : mS} (x1 : Int32) (r : Int32) (h : mK Γ M_X9_carryOut (d + 2) Q n0 bc bs 7 [(0, .ref 26), (1, .int r)] [] 60 mSH (mPI σ 26 10 ((σ.1 26 10) + 1))) : mRt Γ M_X9_carryOut (d + 2) Q n0 bc bs 89 [(0, .ref 26), (1, .int x1)] [] (.inl (some (.int r))) 60 mSH σ := by
  show mK Γ M_X9_carryOut (d + 2) Q n0 bc bs 89 [(0, .ref 26), (1, .int x1)] [.int r] 60 mSH σ
  refine ru_istore_n (lv1 := [(0, .ref 26), (1, .int r)]) dX9_carryOut_89 rfl rfl (by decide) rfl ?_
  refine mK_goto (tgt := 112) dX9_carryOut_90 (by decide) ?_
  refine mK_aload_n dX9_carryOut_112 rfl rfl (.head _) ?_
  refine mK_dup dX9_carryOut_113 rfl rfl ?_
  refine ru_getI (k := 10) (ci := 8) dX9_carryOut_114 rfl rfl kw_1137 ?_
  refine mK_iconst dX9_carryOut_117 rfl qic_1 ?_
  refine mK_iadd dX9_carryOut_118 rfl ?_
  refine ru_putI (k := 10) (ci := 8) dX9_carryOut_119 rfl rfl rfl kw_1137 ?_
  refine mK_goto (tgt := 7) dX9_carryOut_122 (by decide) ?_
  exact h
set_option maxRecDepth 20000 in
theorem T_X9_carryOut_26_111a {Γ : Nat × (Nat → Int32)} {d n0 bc bs : Nat} {Q : mQ} {σ : mS} (x1 : Int32) (r : Int32) (h : mK Γ M_X9_carryOut (d + 2) Q n0 bc bs 7 [(0, .ref 26), (1, .int r)] [] 60 mSH (mPI σ 26 10 ((σ.1 26 10) + 1))) : mRt Γ M_X9_carryOut (d + 2) Q n0 bc bs 111 [(0, .ref 26), (1, .int x1)] [] (.inl (some (.int r))) 60 mSH σ := by
  show mK Γ M_X9_carryOut (d + 2) Q n0 bc bs 111 [(0, .ref 26), (1, .int x1)] [.int r] 60 mSH σ
  refine ru_istore_n (lv1 := [(0, .ref 26), (1, .int r)]) dX9_carryOut_111 rfl rfl (by decide) rfl ?_
  refine mK_aload_n dX9_carryOut_112 rfl rfl (.head _) ?_
  refine mK_dup dX9_carryOut_113 rfl rfl ?_
  refine ru_getI (k := 10) (ci := 8) dX9_carryOut_114 rfl rfl kw_1137 ?_
  refine mK_iconst dX9_carryOut_117 rfl qic_1 ?_
  refine mK_iadd dX9_carryOut_118 rfl ?_
  refine ru_putI (k := 10) (ci := 8) dX9_carryOut_119 rfl rfl rfl kw_1137 ?_
  refine mK_goto (tgt := 7) dX9_carryOut_122 (by decide) ?_
  exact h
