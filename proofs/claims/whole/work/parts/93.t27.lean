
set_option maxRecDepth 20000 in
theorem E_X7_tell_0 {Γ : Nat × (Nat → Int32)} {d : Nat} {Q : mQ} {σ : mS} (h : mCall Γ M_X6_readFrom (d + 1) 0 0 [.ref 20, .ref 1] 60 mSH σ (mRt Γ M_X7_tell (d + 2) Q 60 0 0 11 [(0, .ref 0)] [])) : mCall Γ M_X7_tell (d + 2) 0 0 [.ref 0] 60 mSH σ Q := by
  refine mCall_of rfl (by decide) (Nat.le_of_ble_eq_true rfl) (mOkC (mOk_lo (Nat.le_of_ble_eq_true rfl)) mOkN) ?_
  show mK Γ M_X7_tell (d + 2) Q 60 0 0 0 [(0, .ref 0)] [] 60 mSH σ
  refine mK_aload_n dX7_tell_0 rfl rfl (.head _) ?_
  refine ru_getR (k := 5) (ci := 6) (a := 20) dX7_tell_1 rfl rfl rfl kw_286 ?_
  refine mK_aload_n dX7_tell_4 rfl rfl (.head _) ?_
  refine ru_getR (k := 0) (ci := 6) (a := 1) dX7_tell_5 rfl rfl rfl kw_281 ?_
  refine mK_invV (J := M_X6_readFrom) (k := 1) (as := [.ref 1]) (st := []) (c1 := 0) (s1 := 0) dX7_tell_8 rfl jw_X6_readFrom jn_X6_readFrom rfl (Nat.le_of_ble_eq_true rfl) (Nat.zero_le _) (Nat.zero_le _) rfl kw_313 kw_314 kw_315 (b := 20) (Nat.le_of_ble_eq_true rfl) (Nat.le_of_ble_eq_true rfl) rfl ?_
  exact h
set_option maxRecDepth 20000 in
theorem T_X7_tell_0_11a {Γ : Nat × (Nat → Int32)} {d n0 bc bs : Nat} {Q : mQ} {σ : mS} (h : mCall Γ M_X1_firstWrongPlace (d + 1) 0 0 [.ref 24] 60 mSH (g_X3_shortenTo_1 σ 0) (mRt Γ M_X7_tell (d + 2) Q n0 bc bs 27 [(0, .ref 0)] [.ref 0])) : mRt Γ M_X7_tell (d + 2) Q n0 bc bs 11 [(0, .ref 0)] [] (.inl none) 60 mSH σ := by
  show mK Γ M_X7_tell (d + 2) Q n0 bc bs 11 [(0, .ref 0)] [] 60 mSH σ
  refine mK_aload_n dX7_tell_11 rfl rfl (.head _) ?_
  refine ru_getR (k := 0) (ci := 6) (a := 1) dX7_tell_12 rfl rfl rfl kw_281 ?_
  refine mK_iconst dX7_tell_15 rfl qic_0 ?_
  refine mK_invV (J := M_X3_shortenTo) (k := 1) (as := [.int 0]) (st := []) (c1 := 0) (s1 := 0) dX7_tell_16 rfl jw_X3_shortenTo jn_X3_shortenTo rfl (Nat.le_of_ble_eq_true rfl) (Nat.zero_le _) (Nat.zero_le _) rfl kw_365 kw_366 kw_367 (b := 1) (Nat.le_of_ble_eq_true rfl) (Nat.le_of_ble_eq_true rfl) rfl ?_
  refine S_X3_shortenTo_1 0 ?_
  show mK Γ M_X7_tell (d + 2) Q n0 bc bs 19 [(0, .ref 0)] [] 60 mSH (g_X3_shortenTo_1 σ 0)
  refine mK_aload_n dX7_tell_19 rfl rfl (.head _) ?_
  refine mK_aload_n dX7_tell_20 rfl rfl (.head _) ?_
  refine ru_getR (k := 6) (ci := 6) (a := 24) dX7_tell_21 rfl rfl rfl kw_287 ?_
  refine mK_invV (J := M_X1_firstWrongPlace) (k := 0) (as := []) (st := [.ref 0]) (c1 := 0) (s1 := 0) dX7_tell_24 rfl jw_X1_firstWrongPlace jn_X1_firstWrongPlace rfl (Nat.le_of_ble_eq_true rfl) (Nat.zero_le _) (Nat.zero_le _) rfl kw_369 kw_370 kw_371 (b := 24) (Nat.le_of_ble_eq_true rfl) (Nat.le_of_ble_eq_true rfl) rfl ?_
  exact h
set_option maxRecDepth 20000 in
theorem T_X7_tell_0_27a {Γ : Nat × (Nat → Int32)} {d n0 bc bs : Nat} {Q : mQ} {σ : mS} (r : Int32) (h : ((r = (-1) → mCall Γ M_X0_keep (d + 1) 0 0 [.ref 5] 60 mSH (mPI σ 0 8 r) (mRt Γ M_X7_tell (d + 2) Q n0 bc bs 47 [(0, .ref 0)] [])) ∧ (¬ (r = (-1)) → Q (.inl (some (.int 1))) 60 mSH (mPI σ 0 8 r)))) : mRt Γ M_X7_tell (d + 2) Q n0 bc bs 27 [(0, .ref 0)] [.ref 0] (.inl (some (.int r))) 60 mSH σ := by
  show mK Γ M_X7_tell (d + 2) Q n0 bc bs 27 [(0, .ref 0)] [.int r, .ref 0] 60 mSH σ
  refine ru_putI (k := 8) (ci := 6) dX7_tell_27 rfl rfl rfl kw_289 ?_
  refine mK_aload_n dX7_tell_30 rfl rfl (.head _) ?_
  refine ru_getI (k := 8) (ci := 6) dX7_tell_31 rfl rfl kw_289 ?_
  refine mK_iconst dX7_tell_34 rfl qic_m1 ?_
  refine mK_icmp_eq (tgt := 40) dX7_tell_35 rfl (by decide) (fun c1 => ?_) (fun c1 => ?_)
  · refine mK_aload_n dX7_tell_40 rfl rfl (.head _) ?_
    refine ru_getR (k := 2) (ci := 6) (a := 5) dX7_tell_41 rfl rfl rfl kw_283 ?_
    refine mK_invV (J := M_X0_keep) (k := 0) (as := []) (st := []) (c1 := 0) (s1 := 0) dX7_tell_44 rfl jw_X0_keep jn_X0_keep rfl (Nat.le_of_ble_eq_true rfl) (Nat.zero_le _) (Nat.zero_le _) rfl kw_468 kw_469 kw_470 (b := 5) (Nat.le_of_ble_eq_true rfl) (Nat.le_of_ble_eq_true rfl) rfl ?_
    exact (h.1 c1)
  · refine mK_iconst dX7_tell_38 rfl qic_1 ?_
    exact mK_iret dX7_tell_39 rfl (h.2 c1)
set_option maxRecDepth 20000 in
theorem T_X7_tell_0_47a {Γ : Nat × (Nat → Int32)} {d n0 bc bs : Nat} {Q : mQ} {σ : mS} (h : mCall Γ M_X5_carryOut (d + 1) 0 0 [.ref 25] 60 mSH σ (mRt Γ M_X7_tell (d + 2) Q n0 bc bs 54 [(0, .ref 0)] [])) : mRt Γ M_X7_tell (d + 2) Q n0 bc bs 47 [(0, .ref 0)] [] (.inl none) 60 mSH σ := by
  show mK Γ M_X7_tell (d + 2) Q n0 bc bs 47 [(0, .ref 0)] [] 60 mSH σ
  refine mK_aload_n dX7_tell_47 rfl rfl (.head _) ?_
  refine ru_getR (k := 7) (ci := 6) (a := 25) dX7_tell_48 rfl rfl rfl kw_288 ?_
  refine mK_invV (J := M_X5_carryOut) (k := 0) (as := []) (st := []) (c1 := 0) (s1 := 0) dX7_tell_51 rfl jw_X5_carryOut jn_X5_carryOut rfl (Nat.le_of_ble_eq_true rfl) (Nat.zero_le _) (Nat.zero_le _) rfl kw_475 kw_476 kw_477 (b := 25) (Nat.le_of_ble_eq_true rfl) (Nat.le_of_ble_eq_true rfl) rfl ?_
  exact h
set_option maxRecDepth 20000 in
theorem T_X7_tell_0_54a {Γ : Nat × (Nat → Int32)} {d n0 bc bs : Nat} {Q : mQ} {σ : mS} (r : Int32) (h : ((r = 0 → mCall Γ M_X4_settle (d + 1) 0 0 [.ref 16, .long 0, .long 0] 60 mSH σ (mRt Γ M_X7_tell (d + 2) Q n0 bc bs 86 [(0, .ref 0), (1, .int r)] [])) ∧ (¬ (r = 0) → mCall Γ M_X5_errorPlace (d + 1) 0 0 [.ref 25] 60 mSH σ (mRt Γ M_X7_tell (d + 2) Q n0 bc bs 67 [(0, .ref 0), (1, .int r)] [.ref 0])))) : mRt Γ M_X7_tell (d + 2) Q n0 bc bs 54 [(0, .ref 0)] [] (.inl (some (.int r))) 60 mSH σ := by
  show mK Γ M_X7_tell (d + 2) Q n0 bc bs 54 [(0, .ref 0)] [.int r] 60 mSH σ
  refine ru_istore_n (lv1 := [(0, .ref 0), (1, .int r)]) dX7_tell_54 rfl rfl (by decide) rfl ?_
  refine mK_iload_n dX7_tell_55 rfl rfl (.tail _ (.head _)) ?_
  refine mK_if_eq (tgt := 77) dX7_tell_56 rfl (by decide) (fun c1 => ?_) (fun c1 => ?_)
  · refine mK_aload_n dX7_tell_77 rfl rfl (.head _) ?_
    refine ru_getR (k := 3) (ci := 6) (a := 16) dX7_tell_78 rfl rfl rfl kw_284 ?_
    refine mK_lconst dX7_tell_81 rfl (v := 0) rfl ?_
    refine mK_lconst dX7_tell_82 rfl (v := 0) rfl ?_
    refine mK_invV (J := M_X4_settle) (k := 2) (as := [.long 0, .long 0]) (st := []) (c1 := 0) (s1 := 0) dX7_tell_83 rfl jw_X4_settle jn_X4_settle rfl (Nat.le_of_ble_eq_true rfl) (Nat.zero_le _) (Nat.zero_le _) rfl kw_692 kw_591 kw_592 (b := 16) (Nat.le_of_ble_eq_true rfl) (Nat.le_of_ble_eq_true rfl) rfl ?_
    exact (h.1 c1)
  · refine mK_aload_n dX7_tell_59 rfl rfl (.head _) ?_
    refine mK_aload_n dX7_tell_60 rfl rfl (.head _) ?_
    refine ru_getR (k := 7) (ci := 6) (a := 25) dX7_tell_61 rfl rfl rfl kw_288 ?_
    refine mK_invV (J := M_X5_errorPlace) (k := 0) (as := []) (st := [.ref 0]) (c1 := 0) (s1 := 0) dX7_tell_64 rfl jw_X5_errorPlace jn_X5_errorPlace rfl (Nat.le_of_ble_eq_true rfl) (Nat.zero_le _) (Nat.zero_le _) rfl kw_683 kw_684 kw_685 (b := 25) (Nat.le_of_ble_eq_true rfl) (Nat.le_of_ble_eq_true rfl) rfl ?_
    exact (h.2 c1)
set_option maxRecDepth 20000 in
theorem T_X7_tell_0_86a {Γ : Nat × (Nat → Int32)} {d n0 bc bs : Nat} {Q : mQ} {σ : mS} (x1 : Int32) (h : Q (.inl (some (.int x1))) 60 mSH σ) : mRt Γ M_X7_tell (d + 2) Q n0 bc bs 86 [(0, .ref 0), (1, .int x1)] [] (.inl none) 60 mSH σ := by
  show mK Γ M_X7_tell (d + 2) Q n0 bc bs 86 [(0, .ref 0), (1, .int x1)] [] 60 mSH σ
  refine mK_iload_n dX7_tell_86 rfl rfl (.tail _ (.head _)) ?_
  exact mK_iret dX7_tell_87 rfl h
set_option maxRecDepth 20000 in
theorem T_X7_tell_0_67a {Γ : Nat × (Nat → Int32)} {d n0 bc bs : Nat} {Q : mQ} {σ : mS} (x1 : Int32) (r : Int32) (h : mCall Γ M_X0_goBack (d + 1) 0 0 [.ref 5] 60 mSH (mPI σ 0 8 r) (mRt Γ M_X7_tell (d + 2) Q n0 bc bs 77 [(0, .ref 0), (1, .int x1)] [])) : mRt Γ M_X7_tell (d + 2) Q n0 bc bs 67 [(0, .ref 0), (1, .int x1)] [.ref 0] (.inl (some (.int r))) 60 mSH σ := by
  show mK Γ M_X7_tell (d + 2) Q n0 bc bs 67 [(0, .ref 0), (1, .int x1)] [.int r, .ref 0] 60 mSH σ
  refine ru_putI (k := 8) (ci := 6) dX7_tell_67 rfl rfl rfl kw_289 ?_
  refine mK_aload_n dX7_tell_70 rfl rfl (.head _) ?_
  refine ru_getR (k := 2) (ci := 6) (a := 5) dX7_tell_71 rfl rfl rfl kw_283 ?_
  refine mK_invV (J := M_X0_goBack) (k := 0) (as := []) (st := []) (c1 := 0) (s1 := 0) dX7_tell_74 rfl jw_X0_goBack jn_X0_goBack rfl (Nat.le_of_ble_eq_true rfl) (Nat.zero_le _) (Nat.zero_le _) rfl kw_688 kw_689 kw_690 (b := 5) (Nat.le_of_ble_eq_true rfl) (Nat.le_of_ble_eq_true rfl) rfl ?_
  exact h
set_option maxRecDepth 20000 in
theorem T_X7_tell_0_77a {Γ : Nat × (Nat → Int32)} {d n0 bc bs : Nat} {Q : mQ} {σ : mS} (x1 : Int32) (h : mCall Γ M_X4_settle (d + 1) 0 0 [.ref 16, .long 0, .long 0] 60 mSH σ (mRt Γ M_X7_tell (d + 2) Q n0 bc bs 86 [(0, .ref 0), (1, .int x1)] [])) : mRt Γ M_X7_tell (d + 2) Q n0 bc bs 77 [(0, .ref 0), (1, .int x1)] [] (.inl none) 60 mSH σ := by
  show mK Γ M_X7_tell (d + 2) Q n0 bc bs 77 [(0, .ref 0), (1, .int x1)] [] 60 mSH σ
  refine mK_aload_n dX7_tell_77 rfl rfl (.head _) ?_
  refine ru_getR (k := 3) (ci := 6) (a := 16) dX7_tell_78 rfl rfl rfl kw_284 ?_
  refine mK_lconst dX7_tell_81 rfl (v := 0) rfl ?_
  refine mK_lconst dX7_tell_82 rfl (v := 0) rfl ?_
  refine mK_invV (J := M_X4_settle) (k := 2) (as := [.long 0, .long 0]) (st := []) (c1 := 0) (s1 := 0) dX7_tell_83 rfl jw_X4_settle jn_X4_settle rfl (Nat.le_of_ble_eq_true rfl) (Nat.zero_le _) (Nat.zero_le _) rfl kw_692 kw_591 kw_592 (b := 16) (Nat.le_of_ble_eq_true rfl) (Nat.le_of_ble_eq_true rfl) rfl ?_
  exact h
set_option maxRecDepth 20000 in
theorem E_X9_tell_26 {Γ : Nat × (Nat → Int32)} {d : Nat} {Q : mQ} {σ : mS} (h : mCall Γ M_X9_read (d + 1) 0 0 [.ref 26] 60 mSH (mPI (mPI σ 26 0 0) 26 1 (-1)) (mRt Γ M_X9_tell (d + 2) Q 60 0 0 14 [(0, .ref 26)] [])) : mCall Γ M_X9_tell (d + 2) 0 0 [.ref 26] 60 mSH σ Q := by
  refine mCall_of rfl (by decide) (Nat.le_of_ble_eq_true rfl) (mOkC (mOk_lo (Nat.le_of_ble_eq_true rfl)) mOkN) ?_
  show mK Γ M_X9_tell (d + 2) Q 60 0 0 0 [(0, .ref 26)] [] 60 mSH σ
  refine mK_aload_n dX9_tell_0 rfl rfl (.head _) ?_
  refine mK_iconst dX9_tell_1 rfl qic_0 ?_
  refine ru_putI (k := 0) (ci := 8) dX9_tell_2 rfl rfl rfl kw_1127 ?_
  refine mK_aload_n dX9_tell_5 rfl rfl (.head _) ?_
  refine mK_iconst dX9_tell_6 rfl qic_m1 ?_
  refine ru_putI (k := 1) (ci := 8) dX9_tell_7 rfl rfl rfl kw_1128 ?_
  refine mK_aload_n dX9_tell_10 rfl rfl (.head _) ?_
  refine mK_invV (J := M_X9_read) (k := 0) (as := []) (st := []) (c1 := 0) (s1 := 0) dX9_tell_11 rfl jw_X9_read jn_X9_read rfl (Nat.le_of_ble_eq_true rfl) (Nat.zero_le _) (Nat.zero_le _) rfl kw_1223 kw_1225 kw_39 (b := 26) (Nat.le_of_ble_eq_true rfl) (Nat.le_of_ble_eq_true rfl) rfl ?_
  exact h
set_option maxRecDepth 20000 in
theorem T_X9_tell_26_14a {Γ : Nat × (Nat → Int32)} {d n0 bc bs : Nat} {Q : mQ} {σ : mS} (h : mCall Γ M_X9_isText (d + 1) 0 0 [.ref 26] 60 mSH (mPI σ 26 2 0) (mRt Γ M_X9_tell (d + 2) Q n0 bc bs 23 [(0, .ref 26)] [])) : mRt Γ M_X9_tell (d + 2) Q n0 bc bs 14 [(0, .ref 26)] [] (.inl none) 60 mSH σ := by
  show mK Γ M_X9_tell (d + 2) Q n0 bc bs 14 [(0, .ref 26)] [] 60 mSH σ
  refine mK_aload_n dX9_tell_14 rfl rfl (.head _) ?_
  refine mK_iconst dX9_tell_15 rfl qic_0 ?_
  refine ru_putI (k := 2) (ci := 8) dX9_tell_16 rfl rfl rfl kw_1129 ?_
  refine mK_aload_n dX9_tell_19 rfl rfl (.head _) ?_
  refine mK_invV (J := M_X9_isText) (k := 0) (as := []) (st := []) (c1 := 0) (s1 := 0) dX9_tell_20 rfl jw_X9_isText jn_X9_isText rfl (Nat.le_of_ble_eq_true rfl) (Nat.zero_le _) (Nat.zero_le _) rfl kw_1242 kw_1244 kw_41 (b := 26) (Nat.le_of_ble_eq_true rfl) (Nat.le_of_ble_eq_true rfl) rfl ?_
  exact h
set_option maxRecDepth 20000 in
theorem T_X9_tell_26_23a {Γ : Nat × (Nat → Int32)} {d n0 bc bs : Nat} {Q : mQ} {σ : mS} (r : Int32) (h : ((r = 0 → ((vp_in (σ.1 26 10) 402) ∧ Q (.inl (some (.int (h_X9_fail_26 σ 1 (σ.1 26 10)).1))) 60 mSH (h_X9_fail_26 σ 1 (σ.1 26 10)).2)) ∧ (¬ (r = 0) → mCall Γ M_X8_become (d + 1) 0 0 [.ref 42, .ref 32] 60 mSH σ (mRt Γ M_X9_tell (d + 2) Q n0 bc bs 47 [(0, .ref 26)] [])))) : mRt Γ M_X9_tell (d + 2) Q n0 bc bs 23 [(0, .ref 26)] [] (.inl (some (.int r))) 60 mSH σ := by
  show mK Γ M_X9_tell (d + 2) Q n0 bc bs 23 [(0, .ref 26)] [.int r] 60 mSH σ
  refine ru_if_ne (tgt := 36) dX9_tell_23 rfl (by decide) (fun c1 => ?_) (fun c1 => ?_)
  · refine mK_aload_n dX9_tell_36 rfl rfl (.head _) ?_
    refine ru_getR (k := 12) (ci := 8) (a := 42) dX9_tell_37 rfl rfl rfl kw_1139 ?_
    refine mK_aload_n dX9_tell_40 rfl rfl (.head _) ?_
    refine ru_getR (k := 11) (ci := 8) (a := 32) dX9_tell_41 rfl rfl rfl kw_1138 ?_
    refine mK_invV (J := M_X8_become) (k := 1) (as := [.ref 32]) (st := []) (c1 := 0) (s1 := 0) dX9_tell_44 rfl jw_X8_become jn_X8_become rfl (Nat.le_of_ble_eq_true rfl) (Nat.zero_le _) (Nat.zero_le _) rfl kw_1371 kw_1372 kw_1373 (b := 42) (Nat.le_of_ble_eq_true rfl) (Nat.le_of_ble_eq_true rfl) rfl ?_
    exact (h.2 c1)
  · refine mK_aload_n dX9_tell_26 rfl rfl (.head _) ?_
    refine mK_iconst dX9_tell_27 rfl qic_1 ?_
    refine mK_aload_n dX9_tell_28 rfl rfl (.head _) ?_
    refine ru_getI (k := 10) (ci := 8) dX9_tell_29 rfl rfl kw_1137 ?_
    refine mK_invV (J := M_X9_fail) (k := 2) (as := [.int 1, .int (σ.1 26 10)]) (st := []) (c1 := 0) (s1 := 0) dX9_tell_32 rfl jw_X9_fail jn_X9_fail rfl (Nat.le_of_ble_eq_true rfl) (Nat.zero_le _) (Nat.zero_le _) rfl kw_1367 kw_1369 kw_53 (b := 26) (Nat.le_of_ble_eq_true rfl) (Nat.le_of_ble_eq_true rfl) rfl ?_
    refine S_X9_fail_26 1 (σ.1 26 10) ((h.1 c1).1) ?_
    show mK Γ M_X9_tell (d + 2) Q n0 bc bs 35 [(0, .ref 26)] [.int (h_X9_fail_26 σ 1 (σ.1 26 10)).1] 60 mSH (h_X9_fail_26 σ 1 (σ.1 26 10)).2
    exact mK_iret dX9_tell_35 rfl (h.1 c1).2
set_option maxRecDepth 20000 in
theorem T_X9_tell_26_47a {Γ : Nat × (Nat → Int32)} {d n0 bc bs : Nat} {Q : mQ} {σ : mS} (h : mCall Γ M_X9_carryOut (d + 1) 0 0 [.ref 26] 60 mSH σ (mRt Γ M_X9_tell (d + 2) Q n0 bc bs 51 [(0, .ref 26)] [])) : mRt Γ M_X9_tell (d + 2) Q n0 bc bs 47 [(0, .ref 26)] [] (.inl none) 60 mSH σ := by
  show mK Γ M_X9_tell (d + 2) Q n0 bc bs 47 [(0, .ref 26)] [] 60 mSH σ
  refine mK_aload_n dX9_tell_47 rfl rfl (.head _) ?_
  refine mK_invV (J := M_X9_carryOut) (k := 0) (as := []) (st := []) (c1 := 0) (s1 := 0) dX9_tell_48 rfl jw_X9_carryOut jn_X9_carryOut rfl (Nat.le_of_ble_eq_true rfl) (Nat.zero_le _) (Nat.zero_le _) rfl kw_1380 kw_1382 kw_55 (b := 26) (Nat.le_of_ble_eq_true rfl) (Nat.le_of_ble_eq_true rfl) rfl ?_
  exact h
set_option maxRecDepth 20000 in
theorem T_X9_tell_26_51a {Γ : Nat × (Nat → Int32)} {d n0 bc bs : Nat} {Q : mQ} {σ : mS} (r : Int32) (h : ((r ≤ 0 → mCall Γ M_X9_stand (d + 1) 0 0 [.ref 26, .ref 52, .ref 53] 60 mSH σ (mRt Γ M_X9_tell (d + 2) Q n0 bc bs 83 [(0, .ref 26), (1, .int r)] [.ref 26])) ∧ (¬ (r ≤ 0) → mCall Γ M_X8_become (d + 1) 0 0 [.ref 32, .ref 42] 60 mSH σ (mRt Γ M_X9_tell (d + 2) Q n0 bc bs 67 [(0, .ref 26), (1, .int r)] [])))) : mRt Γ M_X9_tell (d + 2) Q n0 bc bs 51 [(0, .ref 26)] [] (.inl (some (.int r))) 60 mSH σ := by
  show mK Γ M_X9_tell (d + 2) Q n0 bc bs 51 [(0, .ref 26)] [.int r] 60 mSH σ
  refine ru_istore_n (lv1 := [(0, .ref 26), (1, .int r)]) dX9_tell_51 rfl rfl (by decide) rfl ?_
  refine mK_iload_n dX9_tell_52 rfl rfl (.tail _ (.head _)) ?_
  refine mK_if_le (tgt := 70) dX9_tell_53 rfl (by decide) (fun c1 => ?_) (fun c1 => ?_)
  · refine mK_aload_n dX9_tell_70 rfl rfl (.head _) ?_
    refine mK_aload_n dX9_tell_71 rfl rfl (.head _) ?_
    refine mK_aload_n dX9_tell_72 rfl rfl (.head _) ?_
    refine ru_getR (k := 13) (ci := 8) (a := 52) dX9_tell_73 rfl rfl rfl kw_1140 ?_
    refine mK_aload_n dX9_tell_76 rfl rfl (.head _) ?_
    refine ru_getR (k := 14) (ci := 8) (a := 53) dX9_tell_77 rfl rfl rfl kw_1141 ?_
    refine mK_invV (J := M_X9_stand) (k := 2) (as := [.ref 52, .ref 53]) (st := [.ref 26]) (c1 := 0) (s1 := 0) dX9_tell_80 rfl jw_X9_stand jn_X9_stand rfl (Nat.le_of_ble_eq_true rfl) (Nat.zero_le _) (Nat.zero_le _) rfl kw_1425 kw_1427 kw_63 (b := 26) (Nat.le_of_ble_eq_true rfl) (Nat.le_of_ble_eq_true rfl) rfl ?_
    exact (h.1 c1)
  · refine mK_aload_n dX9_tell_56 rfl rfl (.head _) ?_
    refine ru_getR (k := 11) (ci := 8) (a := 32) dX9_tell_57 rfl rfl rfl kw_1138 ?_
    refine mK_aload_n dX9_tell_60 rfl rfl (.head _) ?_
    refine ru_getR (k := 12) (ci := 8) (a := 42) dX9_tell_61 rfl rfl rfl kw_1139 ?_
    refine mK_invV (J := M_X8_become) (k := 1) (as := [.ref 42]) (st := []) (c1 := 0) (s1 := 0) dX9_tell_64 rfl jw_X8_become jn_X8_become rfl (Nat.le_of_ble_eq_true rfl) (Nat.zero_le _) (Nat.zero_le _) rfl kw_1371 kw_1372 kw_1373 (b := 32) (Nat.le_of_ble_eq_true rfl) (Nat.le_of_ble_eq_true rfl) rfl ?_
    exact (h.2 c1)
set_option maxRecDepth 20000 in
theorem T_X9_tell_26_83a {Γ : Nat × (Nat → Int32)} {d n0 bc bs : Nat} {Q : mQ} {σ : mS} (x1 : Int32) (r : Int32) (h : Q (.inl (some (.int x1))) 60 mSH (mPI σ 26 15 r)) : mRt Γ M_X9_tell (d + 2) Q n0 bc bs 83 [(0, .ref 26), (1, .int x1)] [.ref 26] (.inl (some (.int r))) 60 mSH σ := by
  show mK Γ M_X9_tell (d + 2) Q n0 bc bs 83 [(0, .ref 26), (1, .int x1)] [.int r, .ref 26] 60 mSH σ
  refine ru_putI (k := 15) (ci := 8) dX9_tell_83 rfl rfl rfl kw_1142 ?_
  refine mK_iload_n dX9_tell_86 rfl rfl (.tail _ (.head _)) ?_
  exact mK_iret dX9_tell_87 rfl h
set_option maxRecDepth 20000 in
theorem T_X9_tell_26_67a {Γ : Nat × (Nat → Int32)} {d n0 bc bs : Nat} {Q : mQ} {σ : mS} (x1 : Int32) (h : Q (.inl (some (.int x1))) 60 mSH σ) : mRt Γ M_X9_tell (d + 2) Q n0 bc bs 67 [(0, .ref 26), (1, .int x1)] [] (.inl none) 60 mSH σ := by
  show mK Γ M_X9_tell (d + 2) Q n0 bc bs 67 [(0, .ref 26), (1, .int x1)] [] 60 mSH σ
  refine mK_goto (tgt := 86) dX9_tell_67 (by decide) ?_
  refine mK_iload_n dX9_tell_86 rfl rfl (.tail _ (.head _)) ?_
  exact mK_iret dX9_tell_87 rfl h
