
set_option maxRecDepth 20000 in
theorem E_X9_is_26 {Γ : Nat × (Nat → Int32)} {d : Nat} {Q : mQ} {σ : mS} (a1 : Nat) (ha_a1 : 1200 ≤ a1 ∧ a1 < 1221) (h : ((vp_in (σ.1 26 10) 402) ∧ (((σ.1 29 (σ.1 26 10).toNatClampNeg) = 2 → (((σ.2.1 31 (σ.1 26 10).toNatClampNeg) = (mKy (a1 - 1200)) → Q (.inl (some (.int 1))) 60 mSH σ) ∧ (¬ ((σ.2.1 31 (σ.1 26 10).toNatClampNeg) = (mKy (a1 - 1200))) → Q (.inl (some (.int 0))) 60 mSH σ))) ∧ (¬ ((σ.1 29 (σ.1 26 10).toNatClampNeg) = 2) → Q (.inl (some (.int 0))) 60 mSH σ)))) : mCall Γ M_X9_is (d + 6) 0 0 [.ref 26, .ref a1] 60 mSH σ Q := by
  refine mCall_of rfl (by decide) (Nat.le_of_ble_eq_true rfl) (mOkC (mOk_lo (Nat.le_of_ble_eq_true rfl)) (mOkC (mOk_hi (Nat.le_trans (by decide) ha_a1.1)) mOkN)) ?_
  show mK Γ M_X9_is (d + 6) Q 60 0 0 0 [(0, .ref 26), (1, .ref a1)] [] 60 mSH σ
  refine mK_aload_n dX9_is_0 rfl rfl (.head _) ?_
  refine ru_getR (k := 7) (ci := 8) (a := 29) dX9_is_1 rfl rfl rfl kw_1134 ?_
  refine mK_aload_n dX9_is_4 rfl rfl (.head _) ?_
  refine ru_getI (k := 10) (ci := 8) dX9_is_5 rfl rfl kw_1137 ?_
  refine ru_iald (n := 402) dX9_is_8 rfl rfl (h.1) ?_
  refine mK_iconst dX9_is_9 rfl qic_2 ?_
  refine ru_icmp_ne (tgt := 34) dX9_is_10 rfl (by decide) (fun c1 => ?_) (fun c1 => ?_)
  · refine mK_iconst dX9_is_34 rfl qic_0 ?_
    exact mK_zret dX9_is_35 rfl (by decide) (h.2.2 c1)
  · refine mK_aload_n dX9_is_13 rfl rfl (.head _) ?_
    refine ru_getR (k := 9) (ci := 8) (a := 31) dX9_is_14 rfl rfl rfl kw_1136 ?_
    refine mK_aload_n dX9_is_17 rfl rfl (.head _) ?_
    refine ru_getI (k := 10) (ci := 8) dX9_is_18 rfl rfl kw_1137 ?_
    refine ru_lald (n := 402) dX9_is_21 rfl rfl (h.1) ?_
    refine mK_aload_n dX9_is_22 rfl rfl (.tail _ (.head _)) ?_
    refine mK_invS (J := M_X9_packed) (k := 1) (as := [.ref a1]) (st := [.long (σ.2.1 31 (σ.1 26 10).toNatClampNeg)]) (c1 := 0) (s1 := 0) dX9_is_23 rfl jw_X9_packed jn_X9_packed rfl (Nat.le_of_ble_eq_true rfl) (Nat.zero_le _) (Nat.zero_le _) rfl kw_1259 kw_1260 ?_
    refine S_packedL a1 ha_a1 ?_
    show mK Γ M_X9_is (d + 6) Q 60 0 0 26 [(0, .ref 26), (1, .ref a1)] [.long (mKy (a1 - 1200)), .long (σ.2.1 31 (σ.1 26 10).toNatClampNeg)] 60 mSH σ
    refine ru_lif_ne (tgt := 34) dX9_is_26 rfl dX9_is_27 rfl (by decide) (fun c2 => ?_) (fun c2 => ?_)
    · refine mK_iconst dX9_is_34 rfl qic_0 ?_
      exact mK_zret dX9_is_35 rfl (by decide) ((h.2.1 c1).2 c2)
    · refine mK_iconst dX9_is_30 rfl qic_1 ?_
      refine mK_goto (tgt := 35) dX9_is_31 (by decide) ?_
      exact mK_zret dX9_is_35 rfl (by decide) ((h.2.1 c1).1 c2)
set_option maxRecDepth 20000 in
theorem E_X9_word_26 {Γ : Nat × (Nat → Int32)} {d : Nat} {Q : mQ} {σ : mS} (a1 : Nat) (ha_a1 : 1200 ≤ a1 ∧ a1 < 1221) (h : mCall Γ M_X9_is (d + 1) 0 0 [.ref 26, .ref a1] 60 mSH σ (mRt Γ M_X9_word (d + 2) Q 60 0 0 6 [(0, .ref 26), (1, .ref a1)] [.ref 26])) : mCall Γ M_X9_word (d + 2) 0 0 [.ref 26, .ref a1] 60 mSH σ Q := by
  refine mCall_of rfl (by decide) (Nat.le_of_ble_eq_true rfl) (mOkC (mOk_lo (Nat.le_of_ble_eq_true rfl)) (mOkC (mOk_hi (Nat.le_trans (by decide) ha_a1.1)) mOkN)) ?_
  show mK Γ M_X9_word (d + 2) Q 60 0 0 0 [(0, .ref 26), (1, .ref a1)] [] 60 mSH σ
  refine mK_aload_n dX9_word_0 rfl rfl (.head _) ?_
  refine mK_aload_n dX9_word_1 rfl rfl (.head _) ?_
  refine mK_aload_n dX9_word_2 rfl rfl (.tail _ (.head _)) ?_
  refine mK_invV (J := M_X9_is) (k := 1) (as := [.ref a1]) (st := [.ref 26]) (c1 := 0) (s1 := 0) dX9_word_3 rfl jw_X9_is jn_X9_is rfl (Nat.le_of_ble_eq_true rfl) (Nat.zero_le _) (Nat.zero_le _) rfl kw_1255 kw_1257 kw_44 (b := 26) (Nat.le_of_ble_eq_true rfl) (Nat.le_of_ble_eq_true rfl) rfl ?_
  exact h
set_option maxRecDepth 20000 in
theorem T_X9_word_26_6a {Γ : Nat × (Nat → Int32)} {d n0 bc bs : Nat} {Q : mQ} {σ : mS} (x1 : Nat) (r : Int32) (ha_x1 : 1200 ≤ x1 ∧ x1 < 1221) (h : mCall Γ M_X9_past (d + 1) 0 0 [.ref 26, .int r] 60 mSH σ (mRt Γ M_X9_word (d + 2) Q n0 bc bs 9 [(0, .ref 26), (1, .ref x1)] [])) : mRt Γ M_X9_word (d + 2) Q n0 bc bs 6 [(0, .ref 26), (1, .ref x1)] [.ref 26] (.inl (some (.int r))) 60 mSH σ := by
  show mK Γ M_X9_word (d + 2) Q n0 bc bs 6 [(0, .ref 26), (1, .ref x1)] [.int r, .ref 26] 60 mSH σ
  refine mK_invV (J := M_X9_past) (k := 1) (as := [.int r]) (st := []) (c1 := 0) (s1 := 0) dX9_word_6 rfl jw_X9_past jn_X9_past rfl (Nat.le_of_ble_eq_true rfl) (Nat.zero_le _) (Nat.zero_le _) rfl kw_1310 kw_1312 kw_45 (b := 26) (Nat.le_of_ble_eq_true rfl) (Nat.le_of_ble_eq_true rfl) rfl ?_
  exact h
set_option maxRecDepth 20000 in
theorem T_X9_word_26_9a {Γ : Nat × (Nat → Int32)} {d n0 bc bs : Nat} {Q : mQ} {σ : mS} (x1 : Nat) (r : Int32) (ha_x1 : 1200 ≤ x1 ∧ x1 < 1221) (h : ((r = 0 ∨ r = 1) ∧ Q (.inl (some (.int r))) 60 mSH σ)) : mRt Γ M_X9_word (d + 2) Q n0 bc bs 9 [(0, .ref 26), (1, .ref x1)] [] (.inl (some (.int r))) 60 mSH σ := by
  show mK Γ M_X9_word (d + 2) Q n0 bc bs 9 [(0, .ref 26), (1, .ref x1)] [.int r] 60 mSH σ
  exact mK_zret dX9_word_9 rfl (h.1) h.2
set_option maxRecDepth 20000 in
theorem E_X9_name_26 {Γ : Nat × (Nat → Int32)} {d : Nat} {Q : mQ} {σ : mS} (h : ((vp_in (σ.1 26 10) 402) ∧ (((σ.1 29 (σ.1 26 10).toNatClampNeg) = 2 → mCall Γ M_X9_isKeyword (d + 1) 0 0 [.long (σ.2.1 31 (σ.1 26 10).toNatClampNeg)] 60 mSH σ (mRt Γ M_X9_name (d + 2) Q 60 0 0 26 [(0, .ref 26)] [.ref 26])) ∧ (¬ ((σ.1 29 (σ.1 26 10).toNatClampNeg) = 2) → mCall Γ M_X9_past (d + 1) 0 0 [.ref 26, .int 0] 60 mSH σ (mRt Γ M_X9_name (d + 2) Q 60 0 0 37 [(0, .ref 26)] []))))) : mCall Γ M_X9_name (d + 2) 0 0 [.ref 26] 60 mSH σ Q := by
  refine mCall_of rfl (by decide) (Nat.le_of_ble_eq_true rfl) (mOkC (mOk_lo (Nat.le_of_ble_eq_true rfl)) mOkN) ?_
  show mK Γ M_X9_name (d + 2) Q 60 0 0 0 [(0, .ref 26)] [] 60 mSH σ
  refine mK_aload_n dX9_name_0 rfl rfl (.head _) ?_
  refine mK_aload_n dX9_name_1 rfl rfl (.head _) ?_
  refine ru_getR (k := 7) (ci := 8) (a := 29) dX9_name_2 rfl rfl rfl kw_1134 ?_
  refine mK_aload_n dX9_name_5 rfl rfl (.head _) ?_
  refine ru_getI (k := 10) (ci := 8) dX9_name_6 rfl rfl kw_1137 ?_
  refine ru_iald (n := 402) dX9_name_9 rfl rfl (h.1) ?_
  refine mK_iconst dX9_name_10 rfl qic_2 ?_
  refine ru_icmp_ne (tgt := 33) dX9_name_11 rfl (by decide) (fun c1 => ?_) (fun c1 => ?_)
  · refine mK_iconst dX9_name_33 rfl qic_0 ?_
    refine mK_invV (J := M_X9_past) (k := 1) (as := [.int 0]) (st := []) (c1 := 0) (s1 := 0) dX9_name_34 rfl jw_X9_past jn_X9_past rfl (Nat.le_of_ble_eq_true rfl) (Nat.zero_le _) (Nat.zero_le _) rfl kw_1310 kw_1312 kw_45 (b := 26) (Nat.le_of_ble_eq_true rfl) (Nat.le_of_ble_eq_true rfl) rfl ?_
    exact (h.2.2 c1)
  · refine mK_aload_n dX9_name_14 rfl rfl (.head _) ?_
    refine ru_getR (k := 9) (ci := 8) (a := 31) dX9_name_15 rfl rfl rfl kw_1136 ?_
    refine mK_aload_n dX9_name_18 rfl rfl (.head _) ?_
    refine ru_getI (k := 10) (ci := 8) dX9_name_19 rfl rfl kw_1137 ?_
    refine ru_lald (n := 402) dX9_name_22 rfl rfl (h.1) ?_
    refine mK_invS (J := M_X9_isKeyword) (k := 1) (as := [.long (σ.2.1 31 (σ.1 26 10).toNatClampNeg)]) (st := [.ref 26]) (c1 := 0) (s1 := 0) dX9_name_23 rfl jw_X9_isKeyword jn_X9_isKeyword rfl (Nat.le_of_ble_eq_true rfl) (Nat.zero_le _) (Nat.zero_le _) rfl kw_1318 kw_1319 ?_
    exact (h.2.1 c1)
set_option maxRecDepth 20000 in
theorem T_X9_name_26_26a {Γ : Nat × (Nat → Int32)} {d n0 bc bs : Nat} {Q : mQ} {σ : mS} (r : Int32) (h : ((r = 0 → mCall Γ M_X9_past (d + 1) 0 0 [.ref 26, .int 1] 60 mSH σ (mRt Γ M_X9_name (d + 2) Q n0 bc bs 37 [(0, .ref 26)] [])) ∧ (¬ (r = 0) → mCall Γ M_X9_past (d + 1) 0 0 [.ref 26, .int 0] 60 mSH σ (mRt Γ M_X9_name (d + 2) Q n0 bc bs 37 [(0, .ref 26)] [])))) : mRt Γ M_X9_name (d + 2) Q n0 bc bs 26 [(0, .ref 26)] [.ref 26] (.inl (some (.int r))) 60 mSH σ := by
  show mK Γ M_X9_name (d + 2) Q n0 bc bs 26 [(0, .ref 26)] [.int r, .ref 26] 60 mSH σ
  refine ru_if_ne (tgt := 33) dX9_name_26 rfl (by decide) (fun c1 => ?_) (fun c1 => ?_)
  · refine mK_iconst dX9_name_33 rfl qic_0 ?_
    refine mK_invV (J := M_X9_past) (k := 1) (as := [.int 0]) (st := []) (c1 := 0) (s1 := 0) dX9_name_34 rfl jw_X9_past jn_X9_past rfl (Nat.le_of_ble_eq_true rfl) (Nat.zero_le _) (Nat.zero_le _) rfl kw_1310 kw_1312 kw_45 (b := 26) (Nat.le_of_ble_eq_true rfl) (Nat.le_of_ble_eq_true rfl) rfl ?_
    exact (h.2 c1)
  · refine mK_iconst dX9_name_29 rfl qic_1 ?_
    refine mK_goto (tgt := 34) dX9_name_30 (by decide) ?_
    refine mK_invV (J := M_X9_past) (k := 1) (as := [.int 1]) (st := []) (c1 := 0) (s1 := 0) dX9_name_34 rfl jw_X9_past jn_X9_past rfl (Nat.le_of_ble_eq_true rfl) (Nat.zero_le _) (Nat.zero_le _) rfl kw_1310 kw_1312 kw_45 (b := 26) (Nat.le_of_ble_eq_true rfl) (Nat.le_of_ble_eq_true rfl) rfl ?_
    exact (h.1 c1)
set_option maxRecDepth 20000 in
theorem T_X9_name_26_37a {Γ : Nat × (Nat → Int32)} {d n0 bc bs : Nat} {Q : mQ} {σ : mS} (r : Int32) (h : ((r = 0 ∨ r = 1) ∧ Q (.inl (some (.int r))) 60 mSH σ)) : mRt Γ M_X9_name (d + 2) Q n0 bc bs 37 [(0, .ref 26)] [] (.inl (some (.int r))) 60 mSH σ := by
  show mK Γ M_X9_name (d + 2) Q n0 bc bs 37 [(0, .ref 26)] [.int r] 60 mSH σ
  exact mK_zret dX9_name_37 rfl (h.1) h.2
set_option maxRecDepth 20000 in
theorem E_X9_single_26 {Γ : Nat × (Nat → Int32)} {d : Nat} {Q : mQ} {σ : mS} (a1 : Int32) (h : mCall Γ M_X9_is (d + 1) 0 0 [.ref 26, .ref 1218] 60 mSH σ (mRt Γ M_X9_single (d + 2) Q 60 0 0 6 [(0, .ref 26), (1, .int a1)] [])) : mCall Γ M_X9_single (d + 2) 0 0 [.ref 26, .int a1] 60 mSH σ Q := by
  refine mCall_of rfl (by decide) (Nat.le_of_ble_eq_true rfl) (mOkC (mOk_lo (Nat.le_of_ble_eq_true rfl)) (mOkC mOk_i mOkN)) ?_
  show mK Γ M_X9_single (d + 2) Q 60 0 0 0 [(0, .ref 26), (1, .int a1)] [] 60 mSH σ
  refine mK_aload_n dX9_single_0 rfl rfl (.head _) ?_
  refine mK_ldcS (i := 18) dX9_single_1 rfl (by decide) rfl rfl ?_
  refine mK_invV (J := M_X9_is) (k := 1) (as := [.ref 1218]) (st := []) (c1 := 0) (s1 := 0) dX9_single_3 rfl jw_X9_is jn_X9_is rfl (Nat.le_of_ble_eq_true rfl) (Nat.zero_le _) (Nat.zero_le _) rfl kw_1255 kw_1257 kw_44 (b := 26) (Nat.le_of_ble_eq_true rfl) (Nat.le_of_ble_eq_true rfl) rfl ?_
  exact h
set_option maxRecDepth 20000 in
theorem T_X9_single_26_6a {Γ : Nat × (Nat → Int32)} {d n0 bc bs : Nat} {Q : mQ} {σ : mS} (x1 : Int32) (r : Int32) (h : ((r = 0 → mCall Γ M_X9_isSymbol (d + 1) 0 0 [.ref 26, .int 91] 60 mSH σ (mRt Γ M_X9_single (d + 2) Q n0 bc bs 15 [(0, .ref 26), (1, .int x1)] [])) ∧ (¬ (r = 0) → ((x1 = 6 → Q (.inl (some (.int 0))) 60 mSH σ) ∧ (¬ (x1 = 6) → mCall Γ M_X9_is (d + 1) 0 0 [.ref 26, .ref 1218] 60 mSH σ (mRt Γ M_X9_single (d + 2) Q n0 bc bs 32 [(0, .ref 26), (1, .int x1)] [])))))) : mRt Γ M_X9_single (d + 2) Q n0 bc bs 6 [(0, .ref 26), (1, .int x1)] [] (.inl (some (.int r))) 60 mSH σ := by
  show mK Γ M_X9_single (d + 2) Q n0 bc bs 6 [(0, .ref 26), (1, .int x1)] [.int r] 60 mSH σ
  refine ru_if_ne (tgt := 18) dX9_single_6 rfl (by decide) (fun c1 => ?_) (fun c1 => ?_)
  · refine mK_iload_n dX9_single_18 rfl rfl (.tail _ (.head _)) ?_
    refine mK_bipush dX9_single_19 rfl qbi_6 ?_
    refine ru_icmp_ne (tgt := 26) dX9_single_21 rfl (by decide) (fun c2 => ?_) (fun c2 => ?_)
    · refine mK_aload_n dX9_single_26 rfl rfl (.head _) ?_
      refine mK_ldcS (i := 18) dX9_single_27 rfl (by decide) rfl rfl ?_
      refine mK_invV (J := M_X9_is) (k := 1) (as := [.ref 1218]) (st := []) (c1 := 0) (s1 := 0) dX9_single_29 rfl jw_X9_is jn_X9_is rfl (Nat.le_of_ble_eq_true rfl) (Nat.zero_le _) (Nat.zero_le _) rfl kw_1255 kw_1257 kw_44 (b := 26) (Nat.le_of_ble_eq_true rfl) (Nat.le_of_ble_eq_true rfl) rfl ?_
      exact ((h.2 c1).2 c2)
    · refine mK_iconst dX9_single_24 rfl qic_0 ?_
      exact mK_zret dX9_single_25 rfl (by decide) ((h.2 c1).1 c2)
  · refine mK_aload_n dX9_single_9 rfl rfl (.head _) ?_
    refine mK_bipush dX9_single_10 rfl qbi_91 ?_
    refine mK_invV (J := M_X9_isSymbol) (k := 1) (as := [.int 91]) (st := []) (c1 := 0) (s1 := 0) dX9_single_12 rfl jw_X9_isSymbol jn_X9_isSymbol rfl (Nat.le_of_ble_eq_true rfl) (Nat.zero_le _) (Nat.zero_le _) rfl kw_1353 kw_1355 kw_52 (b := 26) (Nat.le_of_ble_eq_true rfl) (Nat.le_of_ble_eq_true rfl) rfl ?_
    exact (h.1 c1)
set_option maxRecDepth 20000 in
theorem T_X9_single_26_15a {Γ : Nat × (Nat → Int32)} {d n0 bc bs : Nat} {Q : mQ} {σ : mS} (x1 : Int32) (r : Int32) (h : ((r = 0 → mCall Γ M_X9_word (d + 1) 0 0 [.ref 26, .ref 1214] 60 mSH σ (mRt Γ M_X9_single (d + 2) Q n0 bc bs 92 [(0, .ref 26), (1, .int x1)] [])) ∧ (¬ (r = 0) → ((x1 = 6 → Q (.inl (some (.int 0))) 60 mSH σ) ∧ (¬ (x1 = 6) → mCall Γ M_X9_is (d + 1) 0 0 [.ref 26, .ref 1218] 60 mSH σ (mRt Γ M_X9_single (d + 2) Q n0 bc bs 32 [(0, .ref 26), (1, .int x1)] [])))))) : mRt Γ M_X9_single (d + 2) Q n0 bc bs 15 [(0, .ref 26), (1, .int x1)] [] (.inl (some (.int r))) 60 mSH σ := by
  show mK Γ M_X9_single (d + 2) Q n0 bc bs 15 [(0, .ref 26), (1, .int x1)] [.int r] 60 mSH σ
  refine mK_if_eq (tgt := 86) dX9_single_15 rfl (by decide) (fun c1 => ?_) (fun c1 => ?_)
  · refine mK_aload_n dX9_single_86 rfl rfl (.head _) ?_
    refine mK_ldcS (i := 14) dX9_single_87 rfl (by decide) rfl rfl ?_
    refine mK_invV (J := M_X9_word) (k := 1) (as := [.ref 1214]) (st := []) (c1 := 0) (s1 := 0) dX9_single_89 rfl jw_X9_word jn_X9_word rfl (Nat.le_of_ble_eq_true rfl) (Nat.zero_le _) (Nat.zero_le _) rfl kw_1251 kw_1253 kw_43 (b := 26) (Nat.le_of_ble_eq_true rfl) (Nat.le_of_ble_eq_true rfl) rfl ?_
    exact (h.1 c1)
  · refine mK_iload_n dX9_single_18 rfl rfl (.tail _ (.head _)) ?_
    refine mK_bipush dX9_single_19 rfl qbi_6 ?_
    refine ru_icmp_ne (tgt := 26) dX9_single_21 rfl (by decide) (fun c2 => ?_) (fun c2 => ?_)
    · refine mK_aload_n dX9_single_26 rfl rfl (.head _) ?_
      refine mK_ldcS (i := 18) dX9_single_27 rfl (by decide) rfl rfl ?_
      refine mK_invV (J := M_X9_is) (k := 1) (as := [.ref 1218]) (st := []) (c1 := 0) (s1 := 0) dX9_single_29 rfl jw_X9_is jn_X9_is rfl (Nat.le_of_ble_eq_true rfl) (Nat.zero_le _) (Nat.zero_le _) rfl kw_1255 kw_1257 kw_44 (b := 26) (Nat.le_of_ble_eq_true rfl) (Nat.le_of_ble_eq_true rfl) rfl ?_
      exact ((h.2 c1).2 c2)
    · refine mK_iconst dX9_single_24 rfl qic_0 ?_
      exact mK_zret dX9_single_25 rfl (by decide) ((h.2 c1).1 c2)
set_option maxRecDepth 20000 in
theorem T_X9_single_26_32a {Γ : Nat × (Nat → Int32)} {d n0 bc bs : Nat} {Q : mQ} {σ : mS} (x1 : Int32) (r : Int32) (h : ((r = 0 → mCall Γ M_X9_test (d + 1) 0 0 [.ref 26, .int (x1 + 1)] 60 mSH (mPI σ 26 10 ((σ.1 26 10) + 1)) (mRt Γ M_X9_single (d + 2) Q n0 bc bs 64 [(0, .ref 26), (1, .int x1), (2, .int r)] [])) ∧ (¬ (r = 0) → mCall Γ M_X9_single (d + 1) 0 0 [.ref 26, .int (x1 + 1)] 60 mSH (mPI σ 26 10 ((σ.1 26 10) + 1)) (mRt Γ M_X9_single (d + 2) Q n0 bc bs 54 [(0, .ref 26), (1, .int x1), (2, .int r)] [])))) : mRt Γ M_X9_single (d + 2) Q n0 bc bs 32 [(0, .ref 26), (1, .int x1)] [] (.inl (some (.int r))) 60 mSH σ := by
  show mK Γ M_X9_single (d + 2) Q n0 bc bs 32 [(0, .ref 26), (1, .int x1)] [.int r] 60 mSH σ
  refine ru_istore_n (lv1 := [(0, .ref 26), (1, .int x1), (2, .int r)]) dX9_single_32 rfl rfl (by decide) rfl ?_
  refine mK_aload_n dX9_single_33 rfl rfl (.head _) ?_
  refine mK_dup dX9_single_34 rfl rfl ?_
  refine ru_getI (k := 10) (ci := 8) dX9_single_35 rfl rfl kw_1137 ?_
  refine mK_iconst dX9_single_38 rfl qic_1 ?_
  refine mK_iadd dX9_single_39 rfl ?_
  refine ru_putI (k := 10) (ci := 8) dX9_single_40 rfl rfl rfl kw_1137 ?_
  refine mK_iload_n dX9_single_43 rfl rfl (.tail _ (.tail _ (.head _))) ?_
  refine mK_if_eq (tgt := 57) dX9_single_44 rfl (by decide) (fun c1 => ?_) (fun c1 => ?_)
  · refine mK_aload_n dX9_single_57 rfl rfl (.head _) ?_
    refine mK_iload_n dX9_single_58 rfl rfl (.tail _ (.head _)) ?_
    refine mK_iconst dX9_single_59 rfl qic_1 ?_
    refine mK_iadd dX9_single_60 rfl ?_
    refine mK_invV (J := M_X9_test) (k := 1) (as := [.int (x1 + 1)]) (st := []) (c1 := 0) (s1 := 0) dX9_single_61 rfl jw_X9_test jn_X9_test rfl (Nat.le_of_ble_eq_true rfl) (Nat.zero_le _) (Nat.zero_le _) rfl kw_1340 kw_1342 kw_49 (b := 26) (Nat.le_of_ble_eq_true rfl) (Nat.le_of_ble_eq_true rfl) rfl ?_
    exact (h.1 c1)
  · refine mK_aload_n dX9_single_47 rfl rfl (.head _) ?_
    refine mK_iload_n dX9_single_48 rfl rfl (.tail _ (.head _)) ?_
    refine mK_iconst dX9_single_49 rfl qic_1 ?_
    refine mK_iadd dX9_single_50 rfl ?_
    refine mK_invV (J := M_X9_single) (k := 1) (as := [.int (x1 + 1)]) (st := []) (c1 := 0) (s1 := 0) dX9_single_51 rfl jw_X9_single jn_X9_single rfl (Nat.le_of_ble_eq_true rfl) (Nat.zero_le _) (Nat.zero_le _) rfl kw_1348 kw_1350 kw_51 (b := 26) (Nat.le_of_ble_eq_true rfl) (Nat.le_of_ble_eq_true rfl) rfl ?_
    exact (h.2 c1)
set_option maxRecDepth 20000 in
theorem T_X9_single_26_92a {Γ : Nat × (Nat → Int32)} {d n0 bc bs : Nat} {Q : mQ} {σ : mS} (x1 : Int32) (r : Int32) (h : ((r = 0 → mCall Γ M_X9_word (d + 1) 0 0 [.ref 26, .ref 1215] 60 mSH σ (mRt Γ M_X9_single (d + 2) Q n0 bc bs 101 [(0, .ref 26), (1, .int x1)] [])) ∧ (¬ (r = 0) → mCall Γ M_X9_name (d + 1) 0 0 [.ref 26] 60 mSH σ (mRt Γ M_X9_single (d + 2) Q n0 bc bs 126 [(0, .ref 26), (1, .int x1)] [])))) : mRt Γ M_X9_single (d + 2) Q n0 bc bs 92 [(0, .ref 26), (1, .int x1)] [] (.inl (some (.int r))) 60 mSH σ := by
  show mK Γ M_X9_single (d + 2) Q n0 bc bs 92 [(0, .ref 26), (1, .int x1)] [.int r] 60 mSH σ
  refine ru_if_ne (tgt := 122) dX9_single_92 rfl (by decide) (fun c1 => ?_) (fun c1 => ?_)
  · refine mK_aload_n dX9_single_122 rfl rfl (.head _) ?_
    refine mK_invV (J := M_X9_name) (k := 0) (as := []) (st := []) (c1 := 0) (s1 := 0) dX9_single_123 rfl jw_X9_name jn_X9_name rfl (Nat.le_of_ble_eq_true rfl) (Nat.zero_le _) (Nat.zero_le _) rfl kw_1314 kw_1316 kw_46 (b := 26) (Nat.le_of_ble_eq_true rfl) (Nat.le_of_ble_eq_true rfl) rfl ?_
    exact (h.2 c1)
  · refine mK_aload_n dX9_single_95 rfl rfl (.head _) ?_
    refine mK_ldcS (i := 15) dX9_single_96 rfl (by decide) rfl rfl ?_
    refine mK_invV (J := M_X9_word) (k := 1) (as := [.ref 1215]) (st := []) (c1 := 0) (s1 := 0) dX9_single_98 rfl jw_X9_word jn_X9_word rfl (Nat.le_of_ble_eq_true rfl) (Nat.zero_le _) (Nat.zero_le _) rfl kw_1251 kw_1253 kw_43 (b := 26) (Nat.le_of_ble_eq_true rfl) (Nat.le_of_ble_eq_true rfl) rfl ?_
    exact (h.1 c1)
set_option maxRecDepth 20000 in
theorem T_X9_single_26_64a {Γ : Nat × (Nat → Int32)} {d n0 bc bs : Nat} {Q : mQ} {σ : mS} (x1 : Int32) (x2 : Int32) (r : Int32) (h : ((r = 0 → Q (.inl (some (.int 0))) 60 mSH σ) ∧ (¬ (r = 0) → mCall Γ M_X9_isSymbol (d + 1) 0 0 [.ref 26, .int 93] 60 mSH σ (mRt Γ M_X9_single (d + 2) Q n0 bc bs 74 [(0, .ref 26), (1, .int x1), (2, .int x2)] [.ref 26])))) : mRt Γ M_X9_single (d + 2) Q n0 bc bs 64 [(0, .ref 26), (1, .int x1), (2, .int x2)] [] (.inl (some (.int r))) 60 mSH σ := by
  show mK Γ M_X9_single (d + 2) Q n0 bc bs 64 [(0, .ref 26), (1, .int x1), (2, .int x2)] [.int r] 60 mSH σ
  refine mK_if_eq (tgt := 84) dX9_single_64 rfl (by decide) (fun c1 => ?_) (fun c1 => ?_)
  · refine mK_iconst dX9_single_84 rfl qic_0 ?_
    exact mK_zret dX9_single_85 rfl (by decide) (h.1 c1)
  · refine mK_aload_n dX9_single_67 rfl rfl (.head _) ?_
    refine mK_aload_n dX9_single_68 rfl rfl (.head _) ?_
    refine mK_bipush dX9_single_69 rfl qbi_93 ?_
    refine mK_invV (J := M_X9_isSymbol) (k := 1) (as := [.int 93]) (st := [.ref 26]) (c1 := 0) (s1 := 0) dX9_single_71 rfl jw_X9_isSymbol jn_X9_isSymbol rfl (Nat.le_of_ble_eq_true rfl) (Nat.zero_le _) (Nat.zero_le _) rfl kw_1353 kw_1355 kw_52 (b := 26) (Nat.le_of_ble_eq_true rfl) (Nat.le_of_ble_eq_true rfl) rfl ?_
    exact (h.2 c1)
set_option maxRecDepth 20000 in
theorem T_X9_single_26_54a {Γ : Nat × (Nat → Int32)} {d n0 bc bs : Nat} {Q : mQ} {σ : mS} (x1 : Int32) (x2 : Int32) (r : Int32) (h : ((r = 0 ∨ r = 1) ∧ Q (.inl (some (.int r))) 60 mSH σ)) : mRt Γ M_X9_single (d + 2) Q n0 bc bs 54 [(0, .ref 26), (1, .int x1), (2, .int x2)] [] (.inl (some (.int r))) 60 mSH σ := by
  show mK Γ M_X9_single (d + 2) Q n0 bc bs 54 [(0, .ref 26), (1, .int x1), (2, .int x2)] [.int r] 60 mSH σ
  refine mK_goto (tgt := 85) dX9_single_54 (by decide) ?_
  exact mK_zret dX9_single_85 rfl (h.1) h.2
set_option maxRecDepth 20000 in
theorem T_X9_single_26_101a {Γ : Nat × (Nat → Int32)} {d n0 bc bs : Nat} {Q : mQ} {σ : mS} (x1 : Int32) (r : Int32) (h : ((r = 0 → mCall Γ M_X9_word (d + 1) 0 0 [.ref 26, .ref 1216] 60 mSH σ (mRt Γ M_X9_single (d + 2) Q n0 bc bs 110 [(0, .ref 26), (1, .int x1)] [])) ∧ (¬ (r = 0) → mCall Γ M_X9_name (d + 1) 0 0 [.ref 26] 60 mSH σ (mRt Γ M_X9_single (d + 2) Q n0 bc bs 126 [(0, .ref 26), (1, .int x1)] [])))) : mRt Γ M_X9_single (d + 2) Q n0 bc bs 101 [(0, .ref 26), (1, .int x1)] [] (.inl (some (.int r))) 60 mSH σ := by
  show mK Γ M_X9_single (d + 2) Q n0 bc bs 101 [(0, .ref 26), (1, .int x1)] [.int r] 60 mSH σ
  refine ru_if_ne (tgt := 122) dX9_single_101 rfl (by decide) (fun c1 => ?_) (fun c1 => ?_)
  · refine mK_aload_n dX9_single_122 rfl rfl (.head _) ?_
    refine mK_invV (J := M_X9_name) (k := 0) (as := []) (st := []) (c1 := 0) (s1 := 0) dX9_single_123 rfl jw_X9_name jn_X9_name rfl (Nat.le_of_ble_eq_true rfl) (Nat.zero_le _) (Nat.zero_le _) rfl kw_1314 kw_1316 kw_46 (b := 26) (Nat.le_of_ble_eq_true rfl) (Nat.le_of_ble_eq_true rfl) rfl ?_
    exact (h.2 c1)
  · refine mK_aload_n dX9_single_104 rfl rfl (.head _) ?_
    refine mK_ldcS (i := 16) dX9_single_105 rfl (by decide) rfl rfl ?_
    refine mK_invV (J := M_X9_word) (k := 1) (as := [.ref 1216]) (st := []) (c1 := 0) (s1 := 0) dX9_single_107 rfl jw_X9_word jn_X9_word rfl (Nat.le_of_ble_eq_true rfl) (Nat.zero_le _) (Nat.zero_le _) rfl kw_1251 kw_1253 kw_43 (b := 26) (Nat.le_of_ble_eq_true rfl) (Nat.le_of_ble_eq_true rfl) rfl ?_
    exact (h.1 c1)
set_option maxRecDepth 20000 in
theorem T_X9_single_26_126a {Γ : Nat × (Nat → Int32)} {d n0 bc bs : Nat} {Q : mQ} {σ : mS} (x1 : Int32) (r : Int32) (h : ((r = 0 → Q (.inl (some (.int 0))) 60 mSH σ) ∧ (¬ (r = 0) → Q (.inl (some (.int 1))) 60 mSH σ))) : mRt Γ M_X9_single (d + 2) Q n0 bc bs 126 [(0, .ref 26), (1, .int x1)] [] (.inl (some (.int r))) 60 mSH σ := by
  show mK Γ M_X9_single (d + 2) Q n0 bc bs 126 [(0, .ref 26), (1, .int x1)] [.int r] 60 mSH σ
  refine mK_if_eq (tgt := 133) dX9_single_126 rfl (by decide) (fun c1 => ?_) (fun c1 => ?_)
  · refine mK_iconst dX9_single_133 rfl qic_0 ?_
    exact mK_zret dX9_single_134 rfl (by decide) (h.1 c1)
  · refine mK_iconst dX9_single_129 rfl qic_1 ?_
    refine mK_goto (tgt := 134) dX9_single_130 (by decide) ?_
    exact mK_zret dX9_single_134 rfl (by decide) (h.2 c1)
set_option maxRecDepth 20000 in
theorem T_X9_single_26_74a {Γ : Nat × (Nat → Int32)} {d n0 bc bs : Nat} {Q : mQ} {σ : mS} (x1 : Int32) (x2 : Int32) (r : Int32) (h : mCall Γ M_X9_past (d + 1) 0 0 [.ref 26, .int r] 60 mSH σ (mRt Γ M_X9_single (d + 2) Q n0 bc bs 77 [(0, .ref 26), (1, .int x1), (2, .int x2)] [])) : mRt Γ M_X9_single (d + 2) Q n0 bc bs 74 [(0, .ref 26), (1, .int x1), (2, .int x2)] [.ref 26] (.inl (some (.int r))) 60 mSH σ := by
  show mK Γ M_X9_single (d + 2) Q n0 bc bs 74 [(0, .ref 26), (1, .int x1), (2, .int x2)] [.int r, .ref 26] 60 mSH σ
  refine mK_invV (J := M_X9_past) (k := 1) (as := [.int r]) (st := []) (c1 := 0) (s1 := 0) dX9_single_74 rfl jw_X9_past jn_X9_past rfl (Nat.le_of_ble_eq_true rfl) (Nat.zero_le _) (Nat.zero_le _) rfl kw_1310 kw_1312 kw_45 (b := 26) (Nat.le_of_ble_eq_true rfl) (Nat.le_of_ble_eq_true rfl) rfl ?_
  exact h
set_option maxRecDepth 20000 in
theorem T_X9_single_26_110a {Γ : Nat × (Nat → Int32)} {d n0 bc bs : Nat} {Q : mQ} {σ : mS} (x1 : Int32) (r : Int32) (h : ((r = 0 → mCall Γ M_X9_word (d + 1) 0 0 [.ref 26, .ref 1217] 60 mSH σ (mRt Γ M_X9_single (d + 2) Q n0 bc bs 119 [(0, .ref 26), (1, .int x1)] [])) ∧ (¬ (r = 0) → mCall Γ M_X9_name (d + 1) 0 0 [.ref 26] 60 mSH σ (mRt Γ M_X9_single (d + 2) Q n0 bc bs 126 [(0, .ref 26), (1, .int x1)] [])))) : mRt Γ M_X9_single (d + 2) Q n0 bc bs 110 [(0, .ref 26), (1, .int x1)] [] (.inl (some (.int r))) 60 mSH σ := by
  show mK Γ M_X9_single (d + 2) Q n0 bc bs 110 [(0, .ref 26), (1, .int x1)] [.int r] 60 mSH σ
  refine ru_if_ne (tgt := 122) dX9_single_110 rfl (by decide) (fun c1 => ?_) (fun c1 => ?_)
  · refine mK_aload_n dX9_single_122 rfl rfl (.head _) ?_
    refine mK_invV (J := M_X9_name) (k := 0) (as := []) (st := []) (c1 := 0) (s1 := 0) dX9_single_123 rfl jw_X9_name jn_X9_name rfl (Nat.le_of_ble_eq_true rfl) (Nat.zero_le _) (Nat.zero_le _) rfl kw_1314 kw_1316 kw_46 (b := 26) (Nat.le_of_ble_eq_true rfl) (Nat.le_of_ble_eq_true rfl) rfl ?_
    exact (h.2 c1)
  · refine mK_aload_n dX9_single_113 rfl rfl (.head _) ?_
    refine mK_ldcS (i := 17) dX9_single_114 rfl (by decide) rfl rfl ?_
    refine mK_invV (J := M_X9_word) (k := 1) (as := [.ref 1217]) (st := []) (c1 := 0) (s1 := 0) dX9_single_116 rfl jw_X9_word jn_X9_word rfl (Nat.le_of_ble_eq_true rfl) (Nat.zero_le _) (Nat.zero_le _) rfl kw_1251 kw_1253 kw_43 (b := 26) (Nat.le_of_ble_eq_true rfl) (Nat.le_of_ble_eq_true rfl) rfl ?_
    exact (h.1 c1)
set_option maxRecDepth 20000 in
theorem T_X9_single_26_77a {Γ : Nat × (Nat → Int32)} {d n0 bc bs : Nat} {Q : mQ} {σ : mS} (x1 : Int32) (x2 : Int32) (r : Int32) (h : ((r = 0 → Q (.inl (some (.int 0))) 60 mSH σ) ∧ (¬ (r = 0) → Q (.inl (some (.int 1))) 60 mSH σ))) : mRt Γ M_X9_single (d + 2) Q n0 bc bs 77 [(0, .ref 26), (1, .int x1), (2, .int x2)] [] (.inl (some (.int r))) 60 mSH σ := by
  show mK Γ M_X9_single (d + 2) Q n0 bc bs 77 [(0, .ref 26), (1, .int x1), (2, .int x2)] [.int r] 60 mSH σ
  refine mK_if_eq (tgt := 84) dX9_single_77 rfl (by decide) (fun c1 => ?_) (fun c1 => ?_)
  · refine mK_iconst dX9_single_84 rfl qic_0 ?_
    exact mK_zret dX9_single_85 rfl (by decide) (h.1 c1)
  · refine mK_iconst dX9_single_80 rfl qic_1 ?_
    refine mK_goto (tgt := 85) dX9_single_81 (by decide) ?_
    exact mK_zret dX9_single_85 rfl (by decide) (h.2 c1)
set_option maxRecDepth 20000 in
theorem T_X9_single_26_119a {Γ : Nat × (Nat → Int32)} {d n0 bc bs : Nat} {Q : mQ} {σ : mS} (x1 : Int32) (r : Int32) (h : ((r = 0 → Q (.inl (some (.int 0))) 60 mSH σ) ∧ (¬ (r = 0) → mCall Γ M_X9_name (d + 1) 0 0 [.ref 26] 60 mSH σ (mRt Γ M_X9_single (d + 2) Q n0 bc bs 126 [(0, .ref 26), (1, .int x1)] [])))) : mRt Γ M_X9_single (d + 2) Q n0 bc bs 119 [(0, .ref 26), (1, .int x1)] [] (.inl (some (.int r))) 60 mSH σ := by
  show mK Γ M_X9_single (d + 2) Q n0 bc bs 119 [(0, .ref 26), (1, .int x1)] [.int r] 60 mSH σ
  refine mK_if_eq (tgt := 133) dX9_single_119 rfl (by decide) (fun c1 => ?_) (fun c1 => ?_)
  · refine mK_iconst dX9_single_133 rfl qic_0 ?_
    exact mK_zret dX9_single_134 rfl (by decide) (h.1 c1)
  · refine mK_aload_n dX9_single_122 rfl rfl (.head _) ?_
    refine mK_invV (J := M_X9_name) (k := 0) (as := []) (st := []) (c1 := 0) (s1 := 0) dX9_single_123 rfl jw_X9_name jn_X9_name rfl (Nat.le_of_ble_eq_true rfl) (Nat.zero_le _) (Nat.zero_le _) rfl kw_1314 kw_1316 kw_46 (b := 26) (Nat.le_of_ble_eq_true rfl) (Nat.le_of_ble_eq_true rfl) rfl ?_
    exact (h.2 c1)
set_option maxRecDepth 20000 in
theorem E_X9_both_26 {Γ : Nat × (Nat → Int32)} {d : Nat} {Q : mQ} {σ : mS} (a1 : Int32) (h : mCall Γ M_X9_single (d + 1) 0 0 [.ref 26, .int a1] 60 mSH σ (mRt Γ M_X9_both (d + 2) Q 60 0 0 5 [(0, .ref 26), (1, .int a1)] [])) : mCall Γ M_X9_both (d + 2) 0 0 [.ref 26, .int a1] 60 mSH σ Q := by
  refine mCall_of rfl (by decide) (Nat.le_of_ble_eq_true rfl) (mOkC (mOk_lo (Nat.le_of_ble_eq_true rfl)) (mOkC mOk_i mOkN)) ?_
  show mK Γ M_X9_both (d + 2) Q 60 0 0 0 [(0, .ref 26), (1, .int a1)] [] 60 mSH σ
  refine mK_aload_n dX9_both_0 rfl rfl (.head _) ?_
  refine mK_iload_n dX9_both_1 rfl rfl (.tail _ (.head _)) ?_
  refine mK_invV (J := M_X9_single) (k := 1) (as := [.int a1]) (st := []) (c1 := 0) (s1 := 0) dX9_both_2 rfl jw_X9_single jn_X9_single rfl (Nat.le_of_ble_eq_true rfl) (Nat.zero_le _) (Nat.zero_le _) rfl kw_1348 kw_1350 kw_51 (b := 26) (Nat.le_of_ble_eq_true rfl) (Nat.le_of_ble_eq_true rfl) rfl ?_
  exact h
set_option maxRecDepth 20000 in
theorem T_X9_both_26_5a {Γ : Nat × (Nat → Int32)} {d n0 bc bs : Nat} {Q : mQ} {σ : mS} (x1 : Int32) (r : Int32) (h : ((r = 0 → Q (.inl (some (.int 0))) 60 mSH σ) ∧ (¬ (r = 0) → mK Γ M_X9_both (d + 2) Q n0 bc bs 10 [(0, .ref 26), (1, .int x1)] [] 60 mSH σ))) : mRt Γ M_X9_both (d + 2) Q n0 bc bs 5 [(0, .ref 26), (1, .int x1)] [] (.inl (some (.int r))) 60 mSH σ := by
  show mK Γ M_X9_both (d + 2) Q n0 bc bs 5 [(0, .ref 26), (1, .int x1)] [.int r] 60 mSH σ
  refine ru_if_ne (tgt := 10) dX9_both_5 rfl (by decide) (fun c1 => ?_) (fun c1 => ?_)
  · exact (h.2 c1)
  · refine mK_iconst dX9_both_8 rfl qic_0 ?_
    exact mK_zret dX9_both_9 rfl (by decide) (h.1 c1)
set_option maxRecDepth 20000 in
theorem T_X9_both_26_10 {Γ : Nat × (Nat → Int32)} {d n0 bc bs : Nat} {Q : mQ} {σ : mS} (x1 : Int32) (h : mCall Γ M_X9_word (d + 1) 0 0 [.ref 26, .ref 1219] 60 mSH σ (mRt Γ M_X9_both (d + 2) Q n0 bc bs 16 [(0, .ref 26), (1, .int x1)] [])) : mK Γ M_X9_both (d + 2) Q n0 bc bs 10 [(0, .ref 26), (1, .int x1)] [] 60 mSH σ := by
  refine mK_aload_n dX9_both_10 rfl rfl (.head _) ?_
  refine mK_ldcS (i := 19) dX9_both_11 rfl (by decide) rfl rfl ?_
  refine mK_invV (J := M_X9_word) (k := 1) (as := [.ref 1219]) (st := []) (c1 := 0) (s1 := 0) dX9_both_13 rfl jw_X9_word jn_X9_word rfl (Nat.le_of_ble_eq_true rfl) (Nat.zero_le _) (Nat.zero_le _) rfl kw_1251 kw_1253 kw_43 (b := 26) (Nat.le_of_ble_eq_true rfl) (Nat.le_of_ble_eq_true rfl) rfl ?_
  exact h
set_option maxRecDepth 20000 in
theorem T_X9_both_26_16a {Γ : Nat × (Nat → Int32)} {d n0 bc bs : Nat} {Q : mQ} {σ : mS} (x1 : Int32) (r : Int32) (h : ((r = 0 → Q (.inl (some (.int 1))) 60 mSH σ) ∧ (¬ (r = 0) → mCall Γ M_X9_single (d + 1) 0 0 [.ref 26, .int x1] 60 mSH σ (mRt Γ M_X9_both (d + 2) Q n0 bc bs 24 [(0, .ref 26), (1, .int x1)] [])))) : mRt Γ M_X9_both (d + 2) Q n0 bc bs 16 [(0, .ref 26), (1, .int x1)] [] (.inl (some (.int r))) 60 mSH σ := by
  show mK Γ M_X9_both (d + 2) Q n0 bc bs 16 [(0, .ref 26), (1, .int x1)] [.int r] 60 mSH σ
  refine mK_if_eq (tgt := 29) dX9_both_16 rfl (by decide) (fun c1 => ?_) (fun c1 => ?_)
  · refine mK_iconst dX9_both_29 rfl qic_1 ?_
    exact mK_zret dX9_both_30 rfl (by decide) (h.1 c1)
  · refine mK_aload_n dX9_both_19 rfl rfl (.head _) ?_
    refine mK_iload_n dX9_both_20 rfl rfl (.tail _ (.head _)) ?_
    refine mK_invV (J := M_X9_single) (k := 1) (as := [.int x1]) (st := []) (c1 := 0) (s1 := 0) dX9_both_21 rfl jw_X9_single jn_X9_single rfl (Nat.le_of_ble_eq_true rfl) (Nat.zero_le _) (Nat.zero_le _) rfl kw_1348 kw_1350 kw_51 (b := 26) (Nat.le_of_ble_eq_true rfl) (Nat.le_of_ble_eq_true rfl) rfl ?_
    exact (h.2 c1)
set_option maxRecDepth 20000 in
theorem T_X9_both_26_24a {Γ : Nat × (Nat → Int32)} {d n0 bc bs : Nat} {Q : mQ} {σ : mS} (x1 : Int32) (r : Int32) (h : ((r = 0 → Q (.inl (some (.int 0))) 60 mSH σ) ∧ (¬ (r = 0) → mK Γ M_X9_both (d + 2) Q n0 bc bs 10 [(0, .ref 26), (1, .int x1)] [] 60 mSH σ))) : mRt Γ M_X9_both (d + 2) Q n0 bc bs 24 [(0, .ref 26), (1, .int x1)] [] (.inl (some (.int r))) 60 mSH σ := by
  show mK Γ M_X9_both (d + 2) Q n0 bc bs 24 [(0, .ref 26), (1, .int x1)] [.int r] 60 mSH σ
  refine ru_if_ne (tgt := 10) dX9_both_24 rfl (by decide) (fun c1 => ?_) (fun c1 => ?_)
  · exact (h.2 c1)
  · refine mK_iconst dX9_both_27 rfl qic_0 ?_
    exact mK_zret dX9_both_28 rfl (by decide) (h.1 c1)
set_option maxRecDepth 20000 in
theorem E_X9_test_26 {Γ : Nat × (Nat → Int32)} {d : Nat} {Q : mQ} {σ : mS} (a1 : Int32) (h : mCall Γ M_X9_both (d + 1) 0 0 [.ref 26, .int a1] 60 mSH σ (mRt Γ M_X9_test (d + 2) Q 60 0 0 5 [(0, .ref 26), (1, .int a1)] [])) : mCall Γ M_X9_test (d + 2) 0 0 [.ref 26, .int a1] 60 mSH σ Q := by
  refine mCall_of rfl (by decide) (Nat.le_of_ble_eq_true rfl) (mOkC (mOk_lo (Nat.le_of_ble_eq_true rfl)) (mOkC mOk_i mOkN)) ?_
  show mK Γ M_X9_test (d + 2) Q 60 0 0 0 [(0, .ref 26), (1, .int a1)] [] 60 mSH σ
  refine mK_aload_n dX9_test_0 rfl rfl (.head _) ?_
  refine mK_iload_n dX9_test_1 rfl rfl (.tail _ (.head _)) ?_
  refine mK_invV (J := M_X9_both) (k := 1) (as := [.int a1]) (st := []) (c1 := 0) (s1 := 0) dX9_test_2 rfl jw_X9_both jn_X9_both rfl (Nat.le_of_ble_eq_true rfl) (Nat.zero_le _) (Nat.zero_le _) rfl kw_1344 kw_1346 kw_50 (b := 26) (Nat.le_of_ble_eq_true rfl) (Nat.le_of_ble_eq_true rfl) rfl ?_
  exact h
set_option maxRecDepth 20000 in
theorem T_X9_test_26_5a {Γ : Nat × (Nat → Int32)} {d n0 bc bs : Nat} {Q : mQ} {σ : mS} (x1 : Int32) (r : Int32) (h : ((r = 0 → Q (.inl (some (.int 0))) 60 mSH σ) ∧ (¬ (r = 0) → mK Γ M_X9_test (d + 2) Q n0 bc bs 10 [(0, .ref 26), (1, .int x1)] [] 60 mSH σ))) : mRt Γ M_X9_test (d + 2) Q n0 bc bs 5 [(0, .ref 26), (1, .int x1)] [] (.inl (some (.int r))) 60 mSH σ := by
  show mK Γ M_X9_test (d + 2) Q n0 bc bs 5 [(0, .ref 26), (1, .int x1)] [.int r] 60 mSH σ
  refine ru_if_ne (tgt := 10) dX9_test_5 rfl (by decide) (fun c1 => ?_) (fun c1 => ?_)
  · exact (h.2 c1)
  · refine mK_iconst dX9_test_8 rfl qic_0 ?_
    exact mK_zret dX9_test_9 rfl (by decide) (h.1 c1)
set_option maxRecDepth 20000 in
theorem T_X9_test_26_10 {Γ : Nat × (Nat → Int32)} {d n0 bc bs : Nat} {Q : mQ} {σ : mS} (x1 : Int32) (h : mCall Γ M_X9_word (d + 1) 0 0 [.ref 26, .ref 1220] 60 mSH σ (mRt Γ M_X9_test (d + 2) Q n0 bc bs 16 [(0, .ref 26), (1, .int x1)] [])) : mK Γ M_X9_test (d + 2) Q n0 bc bs 10 [(0, .ref 26), (1, .int x1)] [] 60 mSH σ := by
  refine mK_aload_n dX9_test_10 rfl rfl (.head _) ?_
  refine mK_ldcS (i := 20) dX9_test_11 rfl (by decide) rfl rfl ?_
  refine mK_invV (J := M_X9_word) (k := 1) (as := [.ref 1220]) (st := []) (c1 := 0) (s1 := 0) dX9_test_13 rfl jw_X9_word jn_X9_word rfl (Nat.le_of_ble_eq_true rfl) (Nat.zero_le _) (Nat.zero_le _) rfl kw_1251 kw_1253 kw_43 (b := 26) (Nat.le_of_ble_eq_true rfl) (Nat.le_of_ble_eq_true rfl) rfl ?_
  exact h
set_option maxRecDepth 20000 in
theorem T_X9_test_26_16a {Γ : Nat × (Nat → Int32)} {d n0 bc bs : Nat} {Q : mQ} {σ : mS} (x1 : Int32) (r : Int32) (h : ((r = 0 → Q (.inl (some (.int 1))) 60 mSH σ) ∧ (¬ (r = 0) → mCall Γ M_X9_both (d + 1) 0 0 [.ref 26, .int x1] 60 mSH σ (mRt Γ M_X9_test (d + 2) Q n0 bc bs 24 [(0, .ref 26), (1, .int x1)] [])))) : mRt Γ M_X9_test (d + 2) Q n0 bc bs 16 [(0, .ref 26), (1, .int x1)] [] (.inl (some (.int r))) 60 mSH σ := by
  show mK Γ M_X9_test (d + 2) Q n0 bc bs 16 [(0, .ref 26), (1, .int x1)] [.int r] 60 mSH σ
  refine mK_if_eq (tgt := 29) dX9_test_16 rfl (by decide) (fun c1 => ?_) (fun c1 => ?_)
  · refine mK_iconst dX9_test_29 rfl qic_1 ?_
    exact mK_zret dX9_test_30 rfl (by decide) (h.1 c1)
  · refine mK_aload_n dX9_test_19 rfl rfl (.head _) ?_
    refine mK_iload_n dX9_test_20 rfl rfl (.tail _ (.head _)) ?_
    refine mK_invV (J := M_X9_both) (k := 1) (as := [.int x1]) (st := []) (c1 := 0) (s1 := 0) dX9_test_21 rfl jw_X9_both jn_X9_both rfl (Nat.le_of_ble_eq_true rfl) (Nat.zero_le _) (Nat.zero_le _) rfl kw_1344 kw_1346 kw_50 (b := 26) (Nat.le_of_ble_eq_true rfl) (Nat.le_of_ble_eq_true rfl) rfl ?_
    exact (h.2 c1)
set_option maxRecDepth 20000 in
theorem T_X9_test_26_24a {Γ : Nat × (Nat → Int32)} {d n0 bc bs : Nat} {Q : mQ} {σ : mS} (x1 : Int32) (r : Int32) (h : ((r = 0 → Q (.inl (some (.int 0))) 60 mSH σ) ∧ (¬ (r = 0) → mK Γ M_X9_test (d + 2) Q n0 bc bs 10 [(0, .ref 26), (1, .int x1)] [] 60 mSH σ))) : mRt Γ M_X9_test (d + 2) Q n0 bc bs 24 [(0, .ref 26), (1, .int x1)] [] (.inl (some (.int r))) 60 mSH σ := by
  show mK Γ M_X9_test (d + 2) Q n0 bc bs 24 [(0, .ref 26), (1, .int x1)] [.int r] 60 mSH σ
  refine ru_if_ne (tgt := 10) dX9_test_24 rfl (by decide) (fun c1 => ?_) (fun c1 => ?_)
  · exact (h.2 c1)
  · refine mK_iconst dX9_test_27 rfl qic_0 ?_
    exact mK_zret dX9_test_28 rfl (by decide) (h.1 c1)
set_option maxRecDepth 20000 in
theorem E_X9_rest_26 {Γ : Nat × (Nat → Int32)} {d : Nat} {Q : mQ} {σ : mS} (h : mCall Γ M_X9_word (d + 1) 0 0 [.ref 26, .ref 1210] 60 mSH σ (mRt Γ M_X9_rest (d + 2) Q 60 0 0 6 [(0, .ref 26)] [])) : mCall Γ M_X9_rest (d + 2) 0 0 [.ref 26] 60 mSH σ Q := by
  refine mCall_of rfl (by decide) (Nat.le_of_ble_eq_true rfl) (mOkC (mOk_lo (Nat.le_of_ble_eq_true rfl)) mOkN) ?_
  show mK Γ M_X9_rest (d + 2) Q 60 0 0 0 [(0, .ref 26)] [] 60 mSH σ
  refine mK_aload_n dX9_rest_0 rfl rfl (.head _) ?_
  refine mK_ldcS (i := 10) dX9_rest_1 rfl (by decide) rfl rfl ?_
  refine mK_invV (J := M_X9_word) (k := 1) (as := [.ref 1210]) (st := []) (c1 := 0) (s1 := 0) dX9_rest_3 rfl jw_X9_word jn_X9_word rfl (Nat.le_of_ble_eq_true rfl) (Nat.zero_le _) (Nat.zero_le _) rfl kw_1251 kw_1253 kw_43 (b := 26) (Nat.le_of_ble_eq_true rfl) (Nat.le_of_ble_eq_true rfl) rfl ?_
  exact h
set_option maxRecDepth 20000 in
theorem T_X9_rest_26_6a {Γ : Nat × (Nat → Int32)} {d n0 bc bs : Nat} {Q : mQ} {σ : mS} (r : Int32) (h : ((r = 0 → mCall Γ M_X9_word (d + 1) 0 0 [.ref 26, .ref 1211] 60 mSH σ (mRt Γ M_X9_rest (d + 2) Q n0 bc bs 22 [(0, .ref 26)] [])) ∧ (¬ (r = 0) → mCall Γ M_X9_number (d + 1) 0 0 [.ref 26] 60 mSH σ (mRt Γ M_X9_rest (d + 2) Q n0 bc bs 13 [(0, .ref 26)] [])))) : mRt Γ M_X9_rest (d + 2) Q n0 bc bs 6 [(0, .ref 26)] [] (.inl (some (.int r))) 60 mSH σ := by
  show mK Γ M_X9_rest (d + 2) Q n0 bc bs 6 [(0, .ref 26)] [.int r] 60 mSH σ
  refine mK_if_eq (tgt := 16) dX9_rest_6 rfl (by decide) (fun c1 => ?_) (fun c1 => ?_)
  · refine mK_aload_n dX9_rest_16 rfl rfl (.head _) ?_
    refine mK_ldcS (i := 11) dX9_rest_17 rfl (by decide) rfl rfl ?_
    refine mK_invV (J := M_X9_word) (k := 1) (as := [.ref 1211]) (st := []) (c1 := 0) (s1 := 0) dX9_rest_19 rfl jw_X9_word jn_X9_word rfl (Nat.le_of_ble_eq_true rfl) (Nat.zero_le _) (Nat.zero_le _) rfl kw_1251 kw_1253 kw_43 (b := 26) (Nat.le_of_ble_eq_true rfl) (Nat.le_of_ble_eq_true rfl) rfl ?_
    exact (h.1 c1)
  · refine mK_aload_n dX9_rest_9 rfl rfl (.head _) ?_
    refine mK_invV (J := M_X9_number) (k := 0) (as := []) (st := []) (c1 := 0) (s1 := 0) dX9_rest_10 rfl jw_X9_number jn_X9_number rfl (Nat.le_of_ble_eq_true rfl) (Nat.zero_le _) (Nat.zero_le _) rfl kw_1324 kw_1326 kw_47 (b := 26) (Nat.le_of_ble_eq_true rfl) (Nat.le_of_ble_eq_true rfl) rfl ?_
    exact (h.2 c1)
set_option maxRecDepth 20000 in
theorem T_X9_rest_26_22a {Γ : Nat × (Nat → Int32)} {d n0 bc bs : Nat} {Q : mQ} {σ : mS} (r : Int32) (h : ((r = 0 → Q (.inl (some (.int 1))) 60 mSH σ) ∧ (¬ (r = 0) → mCall Γ M_X9_test (d + 1) 0 0 [.ref 26, .int 0] 60 mSH σ (mRt Γ M_X9_rest (d + 2) Q n0 bc bs 30 [(0, .ref 26)] [])))) : mRt Γ M_X9_rest (d + 2) Q n0 bc bs 22 [(0, .ref 26)] [] (.inl (some (.int r))) 60 mSH σ := by
  show mK Γ M_X9_rest (d + 2) Q n0 bc bs 22 [(0, .ref 26)] [.int r] 60 mSH σ
  refine mK_if_eq (tgt := 33) dX9_rest_22 rfl (by decide) (fun c1 => ?_) (fun c1 => ?_)
  · refine mK_iconst dX9_rest_33 rfl qic_1 ?_
    refine mK_goto (tgt := 38) dX9_rest_34 (by decide) ?_
    exact mK_zret dX9_rest_38 rfl (by decide) (h.1 c1)
  · refine mK_aload_n dX9_rest_25 rfl rfl (.head _) ?_
    refine mK_iconst dX9_rest_26 rfl qic_0 ?_
    refine mK_invV (J := M_X9_test) (k := 1) (as := [.int 0]) (st := []) (c1 := 0) (s1 := 0) dX9_rest_27 rfl jw_X9_test jn_X9_test rfl (Nat.le_of_ble_eq_true rfl) (Nat.zero_le _) (Nat.zero_le _) rfl kw_1340 kw_1342 kw_49 (b := 26) (Nat.le_of_ble_eq_true rfl) (Nat.le_of_ble_eq_true rfl) rfl ?_
    exact (h.2 c1)
set_option maxRecDepth 20000 in
theorem T_X9_rest_26_13a {Γ : Nat × (Nat → Int32)} {d n0 bc bs : Nat} {Q : mQ} {σ : mS} (r : Int32) (h : ((r = 0 → Q (.inl (some (.int 0))) 60 mSH σ) ∧ (¬ (r = 0) → mCall Γ M_X9_word (d + 1) 0 0 [.ref 26, .ref 1211] 60 mSH σ (mRt Γ M_X9_rest (d + 2) Q n0 bc bs 22 [(0, .ref 26)] [])))) : mRt Γ M_X9_rest (d + 2) Q n0 bc bs 13 [(0, .ref 26)] [] (.inl (some (.int r))) 60 mSH σ := by
  show mK Γ M_X9_rest (d + 2) Q n0 bc bs 13 [(0, .ref 26)] [.int r] 60 mSH σ
  refine mK_if_eq (tgt := 37) dX9_rest_13 rfl (by decide) (fun c1 => ?_) (fun c1 => ?_)
  · refine mK_iconst dX9_rest_37 rfl qic_0 ?_
    exact mK_zret dX9_rest_38 rfl (by decide) (h.1 c1)
  · refine mK_aload_n dX9_rest_16 rfl rfl (.head _) ?_
    refine mK_ldcS (i := 11) dX9_rest_17 rfl (by decide) rfl rfl ?_
    refine mK_invV (J := M_X9_word) (k := 1) (as := [.ref 1211]) (st := []) (c1 := 0) (s1 := 0) dX9_rest_19 rfl jw_X9_word jn_X9_word rfl (Nat.le_of_ble_eq_true rfl) (Nat.zero_le _) (Nat.zero_le _) rfl kw_1251 kw_1253 kw_43 (b := 26) (Nat.le_of_ble_eq_true rfl) (Nat.le_of_ble_eq_true rfl) rfl ?_
    exact (h.2 c1)
set_option maxRecDepth 20000 in
theorem T_X9_rest_26_30a {Γ : Nat × (Nat → Int32)} {d n0 bc bs : Nat} {Q : mQ} {σ : mS} (r : Int32) (h : ((r = 0 → Q (.inl (some (.int 0))) 60 mSH σ) ∧ (¬ (r = 0) → Q (.inl (some (.int 1))) 60 mSH σ))) : mRt Γ M_X9_rest (d + 2) Q n0 bc bs 30 [(0, .ref 26)] [] (.inl (some (.int r))) 60 mSH σ := by
  show mK Γ M_X9_rest (d + 2) Q n0 bc bs 30 [(0, .ref 26)] [.int r] 60 mSH σ
  refine mK_if_eq (tgt := 37) dX9_rest_30 rfl (by decide) (fun c1 => ?_) (fun c1 => ?_)
  · refine mK_iconst dX9_rest_37 rfl qic_0 ?_
    exact mK_zret dX9_rest_38 rfl (by decide) (h.1 c1)
  · refine mK_iconst dX9_rest_33 rfl qic_1 ?_
    refine mK_goto (tgt := 38) dX9_rest_34 (by decide) ?_
    exact mK_zret dX9_rest_38 rfl (by decide) (h.2 c1)
set_option maxRecDepth 20000 in
theorem E_X9_line_26 {Γ : Nat × (Nat → Int32)} {d : Nat} {Q : mQ} {σ : mS} (h : mCall Γ M_X9_word (d + 1) 0 0 [.ref 26, .ref 1200] 60 mSH σ (mRt Γ M_X9_line (d + 2) Q 60 0 0 6 [(0, .ref 26)] [])) : mCall Γ M_X9_line (d + 2) 0 0 [.ref 26] 60 mSH σ Q := by
  refine mCall_of rfl (by decide) (Nat.le_of_ble_eq_true rfl) (mOkC (mOk_lo (Nat.le_of_ble_eq_true rfl)) mOkN) ?_
  show mK Γ M_X9_line (d + 2) Q 60 0 0 0 [(0, .ref 26)] [] 60 mSH σ
  refine mK_aload_n dX9_line_0 rfl rfl (.head _) ?_
  refine mK_ldcS (i := 0) dX9_line_1 rfl (by decide) rfl rfl ?_
  refine mK_invV (J := M_X9_word) (k := 1) (as := [.ref 1200]) (st := []) (c1 := 0) (s1 := 0) dX9_line_3 rfl jw_X9_word jn_X9_word rfl (Nat.le_of_ble_eq_true rfl) (Nat.zero_le _) (Nat.zero_le _) rfl kw_1251 kw_1253 kw_43 (b := 26) (Nat.le_of_ble_eq_true rfl) (Nat.le_of_ble_eq_true rfl) rfl ?_
  exact h
set_option maxRecDepth 20000 in
theorem T_X9_line_26_6a {Γ : Nat × (Nat → Int32)} {d n0 bc bs : Nat} {Q : mQ} {σ : mS} (r : Int32) (h : ((r = 0 → mCall Γ M_X9_word (d + 1) 0 0 [.ref 26, .ref 1202] 60 mSH σ (mRt Γ M_X9_line (d + 2) Q n0 bc bs 44 [(0, .ref 26)] [])) ∧ (¬ (r = 0) → mCall Γ M_X9_name (d + 1) 0 0 [.ref 26] 60 mSH σ (mRt Γ M_X9_line (d + 2) Q n0 bc bs 13 [(0, .ref 26)] [])))) : mRt Γ M_X9_line (d + 2) Q n0 bc bs 6 [(0, .ref 26)] [] (.inl (some (.int r))) 60 mSH σ := by
  show mK Γ M_X9_line (d + 2) Q n0 bc bs 6 [(0, .ref 26)] [.int r] 60 mSH σ
  refine mK_if_eq (tgt := 38) dX9_line_6 rfl (by decide) (fun c1 => ?_) (fun c1 => ?_)
  · refine mK_aload_n dX9_line_38 rfl rfl (.head _) ?_
    refine mK_ldcS (i := 2) dX9_line_39 rfl (by decide) rfl rfl ?_
    refine mK_invV (J := M_X9_word) (k := 1) (as := [.ref 1202]) (st := []) (c1 := 0) (s1 := 0) dX9_line_41 rfl jw_X9_word jn_X9_word rfl (Nat.le_of_ble_eq_true rfl) (Nat.zero_le _) (Nat.zero_le _) rfl kw_1251 kw_1253 kw_43 (b := 26) (Nat.le_of_ble_eq_true rfl) (Nat.le_of_ble_eq_true rfl) rfl ?_
    exact (h.1 c1)
  · refine mK_aload_n dX9_line_9 rfl rfl (.head _) ?_
    refine mK_invV (J := M_X9_name) (k := 0) (as := []) (st := []) (c1 := 0) (s1 := 0) dX9_line_10 rfl jw_X9_name jn_X9_name rfl (Nat.le_of_ble_eq_true rfl) (Nat.zero_le _) (Nat.zero_le _) rfl kw_1314 kw_1316 kw_46 (b := 26) (Nat.le_of_ble_eq_true rfl) (Nat.le_of_ble_eq_true rfl) rfl ?_
    exact (h.2 c1)
set_option maxRecDepth 20000 in
theorem T_X9_line_26_44a {Γ : Nat × (Nat → Int32)} {d n0 bc bs : Nat} {Q : mQ} {σ : mS} (r : Int32) (h : ((r = 0 → mCall Γ M_X9_word (d + 1) 0 0 [.ref 26, .ref 1205] 60 mSH σ (mRt Γ M_X9_line (d + 2) Q n0 bc bs 98 [(0, .ref 26)] [])) ∧ (¬ (r = 0) → mCall Γ M_X9_name (d + 1) 0 0 [.ref 26] 60 mSH σ (mRt Γ M_X9_line (d + 2) Q n0 bc bs 51 [(0, .ref 26)] [])))) : mRt Γ M_X9_line (d + 2) Q n0 bc bs 44 [(0, .ref 26)] [] (.inl (some (.int r))) 60 mSH σ := by
  show mK Γ M_X9_line (d + 2) Q n0 bc bs 44 [(0, .ref 26)] [.int r] 60 mSH σ
  refine mK_if_eq (tgt := 92) dX9_line_44 rfl (by decide) (fun c1 => ?_) (fun c1 => ?_)
  · refine mK_aload_n dX9_line_92 rfl rfl (.head _) ?_
    refine mK_ldcS (i := 5) dX9_line_93 rfl (by decide) rfl rfl ?_
    refine mK_invV (J := M_X9_word) (k := 1) (as := [.ref 1205]) (st := []) (c1 := 0) (s1 := 0) dX9_line_95 rfl jw_X9_word jn_X9_word rfl (Nat.le_of_ble_eq_true rfl) (Nat.zero_le _) (Nat.zero_le _) rfl kw_1251 kw_1253 kw_43 (b := 26) (Nat.le_of_ble_eq_true rfl) (Nat.le_of_ble_eq_true rfl) rfl ?_
    exact (h.1 c1)
  · refine mK_aload_n dX9_line_47 rfl rfl (.head _) ?_
    refine mK_invV (J := M_X9_name) (k := 0) (as := []) (st := []) (c1 := 0) (s1 := 0) dX9_line_48 rfl jw_X9_name jn_X9_name rfl (Nat.le_of_ble_eq_true rfl) (Nat.zero_le _) (Nat.zero_le _) rfl kw_1314 kw_1316 kw_46 (b := 26) (Nat.le_of_ble_eq_true rfl) (Nat.le_of_ble_eq_true rfl) rfl ?_
    exact (h.2 c1)
set_option maxRecDepth 20000 in
theorem T_X9_line_26_13a {Γ : Nat × (Nat → Int32)} {d n0 bc bs : Nat} {Q : mQ} {σ : mS} (r : Int32) (h : ((r = 0 → Q (.inl (some (.int 0))) 60 mSH σ) ∧ (¬ (r = 0) → mCall Γ M_X9_word (d + 1) 0 0 [.ref 26, .ref 1201] 60 mSH σ (mRt Γ M_X9_line (d + 2) Q n0 bc bs 22 [(0, .ref 26)] [])))) : mRt Γ M_X9_line (d + 2) Q n0 bc bs 13 [(0, .ref 26)] [] (.inl (some (.int r))) 60 mSH σ := by
  show mK Γ M_X9_line (d + 2) Q n0 bc bs 13 [(0, .ref 26)] [.int r] 60 mSH σ
  refine mK_if_eq (tgt := 36) dX9_line_13 rfl (by decide) (fun c1 => ?_) (fun c1 => ?_)
  · refine mK_iconst dX9_line_36 rfl qic_0 ?_
    exact mK_zret dX9_line_37 rfl (by decide) (h.1 c1)
  · refine mK_aload_n dX9_line_16 rfl rfl (.head _) ?_
    refine mK_ldcS (i := 1) dX9_line_17 rfl (by decide) rfl rfl ?_
    refine mK_invV (J := M_X9_word) (k := 1) (as := [.ref 1201]) (st := []) (c1 := 0) (s1 := 0) dX9_line_19 rfl jw_X9_word jn_X9_word rfl (Nat.le_of_ble_eq_true rfl) (Nat.zero_le _) (Nat.zero_le _) rfl kw_1251 kw_1253 kw_43 (b := 26) (Nat.le_of_ble_eq_true rfl) (Nat.le_of_ble_eq_true rfl) rfl ?_
    exact (h.2 c1)
set_option maxRecDepth 20000 in
theorem T_X9_line_26_98a {Γ : Nat × (Nat → Int32)} {d n0 bc bs : Nat} {Q : mQ} {σ : mS} (r : Int32) (h : ((r = 0 → mCall Γ M_X9_word (d + 1) 0 0 [.ref 26, .ref 1206] 60 mSH σ (mRt Γ M_X9_line (d + 2) Q n0 bc bs 159 [(0, .ref 26)] [])) ∧ (¬ (r = 0) → mCall Γ M_X9_name (d + 1) 0 0 [.ref 26] 60 mSH σ (mRt Γ M_X9_line (d + 2) Q n0 bc bs 105 [(0, .ref 26)] [])))) : mRt Γ M_X9_line (d + 2) Q n0 bc bs 98 [(0, .ref 26)] [] (.inl (some (.int r))) 60 mSH σ := by
  show mK Γ M_X9_line (d + 2) Q n0 bc bs 98 [(0, .ref 26)] [.int r] 60 mSH σ
  refine mK_if_eq (tgt := 153) dX9_line_98 rfl (by decide) (fun c1 => ?_) (fun c1 => ?_)
  · refine mK_aload_n dX9_line_153 rfl rfl (.head _) ?_
    refine mK_ldcS (i := 6) dX9_line_154 rfl (by decide) rfl rfl ?_
    refine mK_invV (J := M_X9_word) (k := 1) (as := [.ref 1206]) (st := []) (c1 := 0) (s1 := 0) dX9_line_156 rfl jw_X9_word jn_X9_word rfl (Nat.le_of_ble_eq_true rfl) (Nat.zero_le _) (Nat.zero_le _) rfl kw_1251 kw_1253 kw_43 (b := 26) (Nat.le_of_ble_eq_true rfl) (Nat.le_of_ble_eq_true rfl) rfl ?_
    exact (h.1 c1)
  · refine mK_aload_n dX9_line_101 rfl rfl (.head _) ?_
    refine mK_invV (J := M_X9_name) (k := 0) (as := []) (st := []) (c1 := 0) (s1 := 0) dX9_line_102 rfl jw_X9_name jn_X9_name rfl (Nat.le_of_ble_eq_true rfl) (Nat.zero_le _) (Nat.zero_le _) rfl kw_1314 kw_1316 kw_46 (b := 26) (Nat.le_of_ble_eq_true rfl) (Nat.le_of_ble_eq_true rfl) rfl ?_
    exact (h.2 c1)
set_option maxRecDepth 20000 in
theorem T_X9_line_26_51a {Γ : Nat × (Nat → Int32)} {d n0 bc bs : Nat} {Q : mQ} {σ : mS} (r : Int32) (h : ((r = 0 → Q (.inl (some (.int 0))) 60 mSH σ) ∧ (¬ (r = 0) → mCall Γ M_X9_word (d + 1) 0 0 [.ref 26, .ref 1203] 60 mSH σ (mRt Γ M_X9_line (d + 2) Q n0 bc bs 60 [(0, .ref 26)] [])))) : mRt Γ M_X9_line (d + 2) Q n0 bc bs 51 [(0, .ref 26)] [] (.inl (some (.int r))) 60 mSH σ := by
  show mK Γ M_X9_line (d + 2) Q n0 bc bs 51 [(0, .ref 26)] [.int r] 60 mSH σ
  refine mK_if_eq (tgt := 90) dX9_line_51 rfl (by decide) (fun c1 => ?_) (fun c1 => ?_)
  · refine mK_iconst dX9_line_90 rfl qic_0 ?_
    exact mK_zret dX9_line_91 rfl (by decide) (h.1 c1)
  · refine mK_aload_n dX9_line_54 rfl rfl (.head _) ?_
    refine mK_ldcS (i := 3) dX9_line_55 rfl (by decide) rfl rfl ?_
    refine mK_invV (J := M_X9_word) (k := 1) (as := [.ref 1203]) (st := []) (c1 := 0) (s1 := 0) dX9_line_57 rfl jw_X9_word jn_X9_word rfl (Nat.le_of_ble_eq_true rfl) (Nat.zero_le _) (Nat.zero_le _) rfl kw_1251 kw_1253 kw_43 (b := 26) (Nat.le_of_ble_eq_true rfl) (Nat.le_of_ble_eq_true rfl) rfl ?_
    exact (h.2 c1)
set_option maxRecDepth 20000 in
theorem T_X9_line_26_22a {Γ : Nat × (Nat → Int32)} {d n0 bc bs : Nat} {Q : mQ} {σ : mS} (r : Int32) (h : ((r = 0 → Q (.inl (some (.int 1))) 60 mSH σ) ∧ (¬ (r = 0) → mCall Γ M_X9_number (d + 1) 0 0 [.ref 26] 60 mSH σ (mRt Γ M_X9_line (d + 2) Q n0 bc bs 29 [(0, .ref 26)] [])))) : mRt Γ M_X9_line (d + 2) Q n0 bc bs 22 [(0, .ref 26)] [] (.inl (some (.int r))) 60 mSH σ := by
  show mK Γ M_X9_line (d + 2) Q n0 bc bs 22 [(0, .ref 26)] [.int r] 60 mSH σ
  refine mK_if_eq (tgt := 32) dX9_line_22 rfl (by decide) (fun c1 => ?_) (fun c1 => ?_)
  · refine mK_iconst dX9_line_32 rfl qic_1 ?_
    refine mK_goto (tgt := 37) dX9_line_33 (by decide) ?_
    exact mK_zret dX9_line_37 rfl (by decide) (h.1 c1)
  · refine mK_aload_n dX9_line_25 rfl rfl (.head _) ?_
    refine mK_invV (J := M_X9_number) (k := 0) (as := []) (st := []) (c1 := 0) (s1 := 0) dX9_line_26 rfl jw_X9_number jn_X9_number rfl (Nat.le_of_ble_eq_true rfl) (Nat.zero_le _) (Nat.zero_le _) rfl kw_1324 kw_1326 kw_47 (b := 26) (Nat.le_of_ble_eq_true rfl) (Nat.le_of_ble_eq_true rfl) rfl ?_
    exact (h.2 c1)
set_option maxRecDepth 20000 in
theorem T_X9_line_26_159a {Γ : Nat × (Nat → Int32)} {d n0 bc bs : Nat} {Q : mQ} {σ : mS} (r : Int32) (h : ((r = 0 → mCall Γ M_X9_word (d + 1) 0 0 [.ref 26, .ref 1212] 60 mSH σ (mRt Γ M_X9_line (d + 2) Q n0 bc bs 220 [(0, .ref 26)] [])) ∧ (¬ (r = 0) → mCall Γ M_X9_name (d + 1) 0 0 [.ref 26] 60 mSH σ (mRt Γ M_X9_line (d + 2) Q n0 bc bs 166 [(0, .ref 26)] [])))) : mRt Γ M_X9_line (d + 2) Q n0 bc bs 159 [(0, .ref 26)] [] (.inl (some (.int r))) 60 mSH σ := by
  show mK Γ M_X9_line (d + 2) Q n0 bc bs 159 [(0, .ref 26)] [.int r] 60 mSH σ
  refine mK_if_eq (tgt := 214) dX9_line_159 rfl (by decide) (fun c1 => ?_) (fun c1 => ?_)
  · refine mK_aload_n dX9_line_214 rfl rfl (.head _) ?_
    refine mK_ldcS (i := 12) dX9_line_215 rfl (by decide) rfl rfl ?_
    refine mK_invV (J := M_X9_word) (k := 1) (as := [.ref 1212]) (st := []) (c1 := 0) (s1 := 0) dX9_line_217 rfl jw_X9_word jn_X9_word rfl (Nat.le_of_ble_eq_true rfl) (Nat.zero_le _) (Nat.zero_le _) rfl kw_1251 kw_1253 kw_43 (b := 26) (Nat.le_of_ble_eq_true rfl) (Nat.le_of_ble_eq_true rfl) rfl ?_
    exact (h.1 c1)
  · refine mK_aload_n dX9_line_162 rfl rfl (.head _) ?_
    refine mK_invV (J := M_X9_name) (k := 0) (as := []) (st := []) (c1 := 0) (s1 := 0) dX9_line_163 rfl jw_X9_name jn_X9_name rfl (Nat.le_of_ble_eq_true rfl) (Nat.zero_le _) (Nat.zero_le _) rfl kw_1314 kw_1316 kw_46 (b := 26) (Nat.le_of_ble_eq_true rfl) (Nat.le_of_ble_eq_true rfl) rfl ?_
    exact (h.2 c1)
set_option maxRecDepth 20000 in
theorem T_X9_line_26_105a {Γ : Nat × (Nat → Int32)} {d n0 bc bs : Nat} {Q : mQ} {σ : mS} (r : Int32) (h : ((r = 0 → Q (.inl (some (.int 0))) 60 mSH σ) ∧ (¬ (r = 0) → mCall Γ M_X9_word (d + 1) 0 0 [.ref 26, .ref 1207] 60 mSH σ (mRt Γ M_X9_line (d + 2) Q n0 bc bs 114 [(0, .ref 26)] [])))) : mRt Γ M_X9_line (d + 2) Q n0 bc bs 105 [(0, .ref 26)] [] (.inl (some (.int r))) 60 mSH σ := by
  show mK Γ M_X9_line (d + 2) Q n0 bc bs 105 [(0, .ref 26)] [.int r] 60 mSH σ
  refine mK_if_eq (tgt := 151) dX9_line_105 rfl (by decide) (fun c1 => ?_) (fun c1 => ?_)
  · refine mK_iconst dX9_line_151 rfl qic_0 ?_
    exact mK_zret dX9_line_152 rfl (by decide) (h.1 c1)
  · refine mK_aload_n dX9_line_108 rfl rfl (.head _) ?_
    refine mK_ldcS (i := 7) dX9_line_109 rfl (by decide) rfl rfl ?_
    refine mK_invV (J := M_X9_word) (k := 1) (as := [.ref 1207]) (st := []) (c1 := 0) (s1 := 0) dX9_line_111 rfl jw_X9_word jn_X9_word rfl (Nat.le_of_ble_eq_true rfl) (Nat.zero_le _) (Nat.zero_le _) rfl kw_1251 kw_1253 kw_43 (b := 26) (Nat.le_of_ble_eq_true rfl) (Nat.le_of_ble_eq_true rfl) rfl ?_
    exact (h.2 c1)
set_option maxRecDepth 20000 in
theorem T_X9_line_26_60a {Γ : Nat × (Nat → Int32)} {d n0 bc bs : Nat} {Q : mQ} {σ : mS} (r : Int32) (h : ((r = 0 → Q (.inl (some (.int 0))) 60 mSH σ) ∧ (¬ (r = 0) → mCall Γ M_X9_name (d + 1) 0 0 [.ref 26] 60 mSH σ (mRt Γ M_X9_line (d + 2) Q n0 bc bs 67 [(0, .ref 26)] [])))) : mRt Γ M_X9_line (d + 2) Q n0 bc bs 60 [(0, .ref 26)] [] (.inl (some (.int r))) 60 mSH σ := by
  show mK Γ M_X9_line (d + 2) Q n0 bc bs 60 [(0, .ref 26)] [.int r] 60 mSH σ
  refine mK_if_eq (tgt := 90) dX9_line_60 rfl (by decide) (fun c1 => ?_) (fun c1 => ?_)
  · refine mK_iconst dX9_line_90 rfl qic_0 ?_
    exact mK_zret dX9_line_91 rfl (by decide) (h.1 c1)
  · refine mK_aload_n dX9_line_63 rfl rfl (.head _) ?_
    refine mK_invV (J := M_X9_name) (k := 0) (as := []) (st := []) (c1 := 0) (s1 := 0) dX9_line_64 rfl jw_X9_name jn_X9_name rfl (Nat.le_of_ble_eq_true rfl) (Nat.zero_le _) (Nat.zero_le _) rfl kw_1314 kw_1316 kw_46 (b := 26) (Nat.le_of_ble_eq_true rfl) (Nat.le_of_ble_eq_true rfl) rfl ?_
    exact (h.2 c1)
set_option maxRecDepth 20000 in
theorem T_X9_line_26_29a {Γ : Nat × (Nat → Int32)} {d n0 bc bs : Nat} {Q : mQ} {σ : mS} (r : Int32) (h : ((r = 0 → Q (.inl (some (.int 0))) 60 mSH σ) ∧ (¬ (r = 0) → Q (.inl (some (.int 1))) 60 mSH σ))) : mRt Γ M_X9_line (d + 2) Q n0 bc bs 29 [(0, .ref 26)] [] (.inl (some (.int r))) 60 mSH σ := by
  show mK Γ M_X9_line (d + 2) Q n0 bc bs 29 [(0, .ref 26)] [.int r] 60 mSH σ
  refine mK_if_eq (tgt := 36) dX9_line_29 rfl (by decide) (fun c1 => ?_) (fun c1 => ?_)
  · refine mK_iconst dX9_line_36 rfl qic_0 ?_
    exact mK_zret dX9_line_37 rfl (by decide) (h.1 c1)
  · refine mK_iconst dX9_line_32 rfl qic_1 ?_
    refine mK_goto (tgt := 37) dX9_line_33 (by decide) ?_
    exact mK_zret dX9_line_37 rfl (by decide) (h.2 c1)
set_option maxRecDepth 20000 in
theorem T_X9_line_26_220a {Γ : Nat × (Nat → Int32)} {d n0 bc bs : Nat} {Q : mQ} {σ : mS} (r : Int32) (h : ((r = 0 → mCall Γ M_X9_word (d + 1) 0 0 [.ref 26, .ref 1213] 60 mSH σ (mRt Γ M_X9_line (d + 2) Q n0 bc bs 229 [(0, .ref 26)] [])) ∧ (¬ (r = 0) → mCall Γ M_X9_name (d + 1) 0 0 [.ref 26] 60 mSH σ (mRt Γ M_X9_line (d + 2) Q n0 bc bs 236 [(0, .ref 26)] [])))) : mRt Γ M_X9_line (d + 2) Q n0 bc bs 220 [(0, .ref 26)] [] (.inl (some (.int r))) 60 mSH σ := by
  show mK Γ M_X9_line (d + 2) Q n0 bc bs 220 [(0, .ref 26)] [.int r] 60 mSH σ
  refine ru_if_ne (tgt := 232) dX9_line_220 rfl (by decide) (fun c1 => ?_) (fun c1 => ?_)
  · refine mK_aload_n dX9_line_232 rfl rfl (.head _) ?_
    refine mK_invV (J := M_X9_name) (k := 0) (as := []) (st := []) (c1 := 0) (s1 := 0) dX9_line_233 rfl jw_X9_name jn_X9_name rfl (Nat.le_of_ble_eq_true rfl) (Nat.zero_le _) (Nat.zero_le _) rfl kw_1314 kw_1316 kw_46 (b := 26) (Nat.le_of_ble_eq_true rfl) (Nat.le_of_ble_eq_true rfl) rfl ?_
    exact (h.2 c1)
  · refine mK_aload_n dX9_line_223 rfl rfl (.head _) ?_
    refine mK_ldcS (i := 13) dX9_line_224 rfl (by decide) rfl rfl ?_
    refine mK_invV (J := M_X9_word) (k := 1) (as := [.ref 1213]) (st := []) (c1 := 0) (s1 := 0) dX9_line_226 rfl jw_X9_word jn_X9_word rfl (Nat.le_of_ble_eq_true rfl) (Nat.zero_le _) (Nat.zero_le _) rfl kw_1251 kw_1253 kw_43 (b := 26) (Nat.le_of_ble_eq_true rfl) (Nat.le_of_ble_eq_true rfl) rfl ?_
    exact (h.1 c1)
set_option maxRecDepth 20000 in
theorem T_X9_line_26_166a {Γ : Nat × (Nat → Int32)} {d n0 bc bs : Nat} {Q : mQ} {σ : mS} (r : Int32) (h : ((r = 0 → Q (.inl (some (.int 0))) 60 mSH σ) ∧ (¬ (r = 0) → mCall Γ M_X9_word (d + 1) 0 0 [.ref 26, .ref 1207] 60 mSH σ (mRt Γ M_X9_line (d + 2) Q n0 bc bs 175 [(0, .ref 26)] [])))) : mRt Γ M_X9_line (d + 2) Q n0 bc bs 166 [(0, .ref 26)] [] (.inl (some (.int r))) 60 mSH σ := by
  show mK Γ M_X9_line (d + 2) Q n0 bc bs 166 [(0, .ref 26)] [.int r] 60 mSH σ
  refine mK_if_eq (tgt := 212) dX9_line_166 rfl (by decide) (fun c1 => ?_) (fun c1 => ?_)
  · refine mK_iconst dX9_line_212 rfl qic_0 ?_
    exact mK_zret dX9_line_213 rfl (by decide) (h.1 c1)
  · refine mK_aload_n dX9_line_169 rfl rfl (.head _) ?_
    refine mK_ldcS (i := 7) dX9_line_170 rfl (by decide) rfl rfl ?_
    refine mK_invV (J := M_X9_word) (k := 1) (as := [.ref 1207]) (st := []) (c1 := 0) (s1 := 0) dX9_line_172 rfl jw_X9_word jn_X9_word rfl (Nat.le_of_ble_eq_true rfl) (Nat.zero_le _) (Nat.zero_le _) rfl kw_1251 kw_1253 kw_43 (b := 26) (Nat.le_of_ble_eq_true rfl) (Nat.le_of_ble_eq_true rfl) rfl ?_
    exact (h.2 c1)
set_option maxRecDepth 20000 in
theorem T_X9_line_26_114a {Γ : Nat × (Nat → Int32)} {d n0 bc bs : Nat} {Q : mQ} {σ : mS} (r : Int32) (h : ((r = 0 → Q (.inl (some (.int 0))) 60 mSH σ) ∧ (¬ (r = 0) → mCall Γ M_X9_name (d + 1) 0 0 [.ref 26] 60 mSH σ (mRt Γ M_X9_line (d + 2) Q n0 bc bs 121 [(0, .ref 26)] [])))) : mRt Γ M_X9_line (d + 2) Q n0 bc bs 114 [(0, .ref 26)] [] (.inl (some (.int r))) 60 mSH σ := by
  show mK Γ M_X9_line (d + 2) Q n0 bc bs 114 [(0, .ref 26)] [.int r] 60 mSH σ
  refine mK_if_eq (tgt := 151) dX9_line_114 rfl (by decide) (fun c1 => ?_) (fun c1 => ?_)
  · refine mK_iconst dX9_line_151 rfl qic_0 ?_
    exact mK_zret dX9_line_152 rfl (by decide) (h.1 c1)
  · refine mK_aload_n dX9_line_117 rfl rfl (.head _) ?_
    refine mK_invV (J := M_X9_name) (k := 0) (as := []) (st := []) (c1 := 0) (s1 := 0) dX9_line_118 rfl jw_X9_name jn_X9_name rfl (Nat.le_of_ble_eq_true rfl) (Nat.zero_le _) (Nat.zero_le _) rfl kw_1314 kw_1316 kw_46 (b := 26) (Nat.le_of_ble_eq_true rfl) (Nat.le_of_ble_eq_true rfl) rfl ?_
    exact (h.2 c1)
set_option maxRecDepth 20000 in
theorem T_X9_line_26_67a {Γ : Nat × (Nat → Int32)} {d n0 bc bs : Nat} {Q : mQ} {σ : mS} (r : Int32) (h : ((r = 0 → Q (.inl (some (.int 0))) 60 mSH σ) ∧ (¬ (r = 0) → mCall Γ M_X9_word (d + 1) 0 0 [.ref 26, .ref 1204] 60 mSH σ (mRt Γ M_X9_line (d + 2) Q n0 bc bs 76 [(0, .ref 26)] [])))) : mRt Γ M_X9_line (d + 2) Q n0 bc bs 67 [(0, .ref 26)] [] (.inl (some (.int r))) 60 mSH σ := by
  show mK Γ M_X9_line (d + 2) Q n0 bc bs 67 [(0, .ref 26)] [.int r] 60 mSH σ
  refine mK_if_eq (tgt := 90) dX9_line_67 rfl (by decide) (fun c1 => ?_) (fun c1 => ?_)
  · refine mK_iconst dX9_line_90 rfl qic_0 ?_
    exact mK_zret dX9_line_91 rfl (by decide) (h.1 c1)
  · refine mK_aload_n dX9_line_70 rfl rfl (.head _) ?_
    refine mK_ldcS (i := 4) dX9_line_71 rfl (by decide) rfl rfl ?_
    refine mK_invV (J := M_X9_word) (k := 1) (as := [.ref 1204]) (st := []) (c1 := 0) (s1 := 0) dX9_line_73 rfl jw_X9_word jn_X9_word rfl (Nat.le_of_ble_eq_true rfl) (Nat.zero_le _) (Nat.zero_le _) rfl kw_1251 kw_1253 kw_43 (b := 26) (Nat.le_of_ble_eq_true rfl) (Nat.le_of_ble_eq_true rfl) rfl ?_
    exact (h.2 c1)
set_option maxRecDepth 20000 in
theorem T_X9_line_26_229a {Γ : Nat × (Nat → Int32)} {d n0 bc bs : Nat} {Q : mQ} {σ : mS} (r : Int32) (h : ((r = 0 → Q (.inl (some (.int 0))) 60 mSH σ) ∧ (¬ (r = 0) → mCall Γ M_X9_name (d + 1) 0 0 [.ref 26] 60 mSH σ (mRt Γ M_X9_line (d + 2) Q n0 bc bs 236 [(0, .ref 26)] [])))) : mRt Γ M_X9_line (d + 2) Q n0 bc bs 229 [(0, .ref 26)] [] (.inl (some (.int r))) 60 mSH σ := by
  show mK Γ M_X9_line (d + 2) Q n0 bc bs 229 [(0, .ref 26)] [.int r] 60 mSH σ
  refine mK_if_eq (tgt := 243) dX9_line_229 rfl (by decide) (fun c1 => ?_) (fun c1 => ?_)
  · refine mK_iconst dX9_line_243 rfl qic_0 ?_
    exact mK_zret dX9_line_244 rfl (by decide) (h.1 c1)
  · refine mK_aload_n dX9_line_232 rfl rfl (.head _) ?_
    refine mK_invV (J := M_X9_name) (k := 0) (as := []) (st := []) (c1 := 0) (s1 := 0) dX9_line_233 rfl jw_X9_name jn_X9_name rfl (Nat.le_of_ble_eq_true rfl) (Nat.zero_le _) (Nat.zero_le _) rfl kw_1314 kw_1316 kw_46 (b := 26) (Nat.le_of_ble_eq_true rfl) (Nat.le_of_ble_eq_true rfl) rfl ?_
    exact (h.2 c1)
set_option maxRecDepth 20000 in
theorem T_X9_line_26_236a {Γ : Nat × (Nat → Int32)} {d n0 bc bs : Nat} {Q : mQ} {σ : mS} (r : Int32) (h : ((r = 0 → Q (.inl (some (.int 0))) 60 mSH σ) ∧ (¬ (r = 0) → Q (.inl (some (.int 1))) 60 mSH σ))) : mRt Γ M_X9_line (d + 2) Q n0 bc bs 236 [(0, .ref 26)] [] (.inl (some (.int r))) 60 mSH σ := by
  show mK Γ M_X9_line (d + 2) Q n0 bc bs 236 [(0, .ref 26)] [.int r] 60 mSH σ
  refine mK_if_eq (tgt := 243) dX9_line_236 rfl (by decide) (fun c1 => ?_) (fun c1 => ?_)
  · refine mK_iconst dX9_line_243 rfl qic_0 ?_
    exact mK_zret dX9_line_244 rfl (by decide) (h.1 c1)
  · refine mK_iconst dX9_line_239 rfl qic_1 ?_
    refine mK_goto (tgt := 244) dX9_line_240 (by decide) ?_
    exact mK_zret dX9_line_244 rfl (by decide) (h.2 c1)
set_option maxRecDepth 20000 in
theorem T_X9_line_26_175a {Γ : Nat × (Nat → Int32)} {d n0 bc bs : Nat} {Q : mQ} {σ : mS} (r : Int32) (h : ((r = 0 → Q (.inl (some (.int 0))) 60 mSH σ) ∧ (¬ (r = 0) → mCall Γ M_X9_name (d + 1) 0 0 [.ref 26] 60 mSH σ (mRt Γ M_X9_line (d + 2) Q n0 bc bs 182 [(0, .ref 26)] [])))) : mRt Γ M_X9_line (d + 2) Q n0 bc bs 175 [(0, .ref 26)] [] (.inl (some (.int r))) 60 mSH σ := by
  show mK Γ M_X9_line (d + 2) Q n0 bc bs 175 [(0, .ref 26)] [.int r] 60 mSH σ
  refine mK_if_eq (tgt := 212) dX9_line_175 rfl (by decide) (fun c1 => ?_) (fun c1 => ?_)
  · refine mK_iconst dX9_line_212 rfl qic_0 ?_
    exact mK_zret dX9_line_213 rfl (by decide) (h.1 c1)
  · refine mK_aload_n dX9_line_178 rfl rfl (.head _) ?_
    refine mK_invV (J := M_X9_name) (k := 0) (as := []) (st := []) (c1 := 0) (s1 := 0) dX9_line_179 rfl jw_X9_name jn_X9_name rfl (Nat.le_of_ble_eq_true rfl) (Nat.zero_le _) (Nat.zero_le _) rfl kw_1314 kw_1316 kw_46 (b := 26) (Nat.le_of_ble_eq_true rfl) (Nat.le_of_ble_eq_true rfl) rfl ?_
    exact (h.2 c1)
set_option maxRecDepth 20000 in
theorem T_X9_line_26_121a {Γ : Nat × (Nat → Int32)} {d n0 bc bs : Nat} {Q : mQ} {σ : mS} (r : Int32) (h : ((r = 0 → Q (.inl (some (.int 0))) 60 mSH σ) ∧ (¬ (r = 0) → mCall Γ M_X9_word (d + 1) 0 0 [.ref 26, .ref 1208] 60 mSH σ (mRt Γ M_X9_line (d + 2) Q n0 bc bs 130 [(0, .ref 26)] [])))) : mRt Γ M_X9_line (d + 2) Q n0 bc bs 121 [(0, .ref 26)] [] (.inl (some (.int r))) 60 mSH σ := by
  show mK Γ M_X9_line (d + 2) Q n0 bc bs 121 [(0, .ref 26)] [.int r] 60 mSH σ
  refine mK_if_eq (tgt := 151) dX9_line_121 rfl (by decide) (fun c1 => ?_) (fun c1 => ?_)
  · refine mK_iconst dX9_line_151 rfl qic_0 ?_
    exact mK_zret dX9_line_152 rfl (by decide) (h.1 c1)
  · refine mK_aload_n dX9_line_124 rfl rfl (.head _) ?_
    refine mK_ldcS (i := 8) dX9_line_125 rfl (by decide) rfl rfl ?_
    refine mK_invV (J := M_X9_word) (k := 1) (as := [.ref 1208]) (st := []) (c1 := 0) (s1 := 0) dX9_line_127 rfl jw_X9_word jn_X9_word rfl (Nat.le_of_ble_eq_true rfl) (Nat.zero_le _) (Nat.zero_le _) rfl kw_1251 kw_1253 kw_43 (b := 26) (Nat.le_of_ble_eq_true rfl) (Nat.le_of_ble_eq_true rfl) rfl ?_
    exact (h.2 c1)
set_option maxRecDepth 20000 in
theorem T_X9_line_26_76a {Γ : Nat × (Nat → Int32)} {d n0 bc bs : Nat} {Q : mQ} {σ : mS} (r : Int32) (h : ((r = 0 → Q (.inl (some (.int 1))) 60 mSH σ) ∧ (¬ (r = 0) → mCall Γ M_X9_number (d + 1) 0 0 [.ref 26] 60 mSH σ (mRt Γ M_X9_line (d + 2) Q n0 bc bs 83 [(0, .ref 26)] [])))) : mRt Γ M_X9_line (d + 2) Q n0 bc bs 76 [(0, .ref 26)] [] (.inl (some (.int r))) 60 mSH σ := by
  show mK Γ M_X9_line (d + 2) Q n0 bc bs 76 [(0, .ref 26)] [.int r] 60 mSH σ
  refine mK_if_eq (tgt := 86) dX9_line_76 rfl (by decide) (fun c1 => ?_) (fun c1 => ?_)
  · refine mK_iconst dX9_line_86 rfl qic_1 ?_
    refine mK_goto (tgt := 91) dX9_line_87 (by decide) ?_
    exact mK_zret dX9_line_91 rfl (by decide) (h.1 c1)
  · refine mK_aload_n dX9_line_79 rfl rfl (.head _) ?_
    refine mK_invV (J := M_X9_number) (k := 0) (as := []) (st := []) (c1 := 0) (s1 := 0) dX9_line_80 rfl jw_X9_number jn_X9_number rfl (Nat.le_of_ble_eq_true rfl) (Nat.zero_le _) (Nat.zero_le _) rfl kw_1324 kw_1326 kw_47 (b := 26) (Nat.le_of_ble_eq_true rfl) (Nat.le_of_ble_eq_true rfl) rfl ?_
    exact (h.2 c1)
set_option maxRecDepth 20000 in
theorem T_X9_line_26_182a {Γ : Nat × (Nat → Int32)} {d n0 bc bs : Nat} {Q : mQ} {σ : mS} (r : Int32) (h : ((r = 0 → Q (.inl (some (.int 0))) 60 mSH σ) ∧ (¬ (r = 0) → mCall Γ M_X9_word (d + 1) 0 0 [.ref 26, .ref 1209] 60 mSH σ (mRt Γ M_X9_line (d + 2) Q n0 bc bs 191 [(0, .ref 26)] [])))) : mRt Γ M_X9_line (d + 2) Q n0 bc bs 182 [(0, .ref 26)] [] (.inl (some (.int r))) 60 mSH σ := by
  show mK Γ M_X9_line (d + 2) Q n0 bc bs 182 [(0, .ref 26)] [.int r] 60 mSH σ
  refine mK_if_eq (tgt := 212) dX9_line_182 rfl (by decide) (fun c1 => ?_) (fun c1 => ?_)
  · refine mK_iconst dX9_line_212 rfl qic_0 ?_
    exact mK_zret dX9_line_213 rfl (by decide) (h.1 c1)
  · refine mK_aload_n dX9_line_185 rfl rfl (.head _) ?_
    refine mK_ldcS (i := 9) dX9_line_186 rfl (by decide) rfl rfl ?_
    refine mK_invV (J := M_X9_word) (k := 1) (as := [.ref 1209]) (st := []) (c1 := 0) (s1 := 0) dX9_line_188 rfl jw_X9_word jn_X9_word rfl (Nat.le_of_ble_eq_true rfl) (Nat.zero_le _) (Nat.zero_le _) rfl kw_1251 kw_1253 kw_43 (b := 26) (Nat.le_of_ble_eq_true rfl) (Nat.le_of_ble_eq_true rfl) rfl ?_
    exact (h.2 c1)
set_option maxRecDepth 20000 in
theorem T_X9_line_26_130a {Γ : Nat × (Nat → Int32)} {d n0 bc bs : Nat} {Q : mQ} {σ : mS} (r : Int32) (h : ((r = 0 → Q (.inl (some (.int 0))) 60 mSH σ) ∧ (¬ (r = 0) → mCall Γ M_X9_name (d + 1) 0 0 [.ref 26] 60 mSH σ (mRt Γ M_X9_line (d + 2) Q n0 bc bs 137 [(0, .ref 26)] [])))) : mRt Γ M_X9_line (d + 2) Q n0 bc bs 130 [(0, .ref 26)] [] (.inl (some (.int r))) 60 mSH σ := by
  show mK Γ M_X9_line (d + 2) Q n0 bc bs 130 [(0, .ref 26)] [.int r] 60 mSH σ
  refine mK_if_eq (tgt := 151) dX9_line_130 rfl (by decide) (fun c1 => ?_) (fun c1 => ?_)
  · refine mK_iconst dX9_line_151 rfl qic_0 ?_
    exact mK_zret dX9_line_152 rfl (by decide) (h.1 c1)
  · refine mK_aload_n dX9_line_133 rfl rfl (.head _) ?_
    refine mK_invV (J := M_X9_name) (k := 0) (as := []) (st := []) (c1 := 0) (s1 := 0) dX9_line_134 rfl jw_X9_name jn_X9_name rfl (Nat.le_of_ble_eq_true rfl) (Nat.zero_le _) (Nat.zero_le _) rfl kw_1314 kw_1316 kw_46 (b := 26) (Nat.le_of_ble_eq_true rfl) (Nat.le_of_ble_eq_true rfl) rfl ?_
    exact (h.2 c1)
set_option maxRecDepth 20000 in
theorem T_X9_line_26_83a {Γ : Nat × (Nat → Int32)} {d n0 bc bs : Nat} {Q : mQ} {σ : mS} (r : Int32) (h : ((r = 0 → Q (.inl (some (.int 0))) 60 mSH σ) ∧ (¬ (r = 0) → Q (.inl (some (.int 1))) 60 mSH σ))) : mRt Γ M_X9_line (d + 2) Q n0 bc bs 83 [(0, .ref 26)] [] (.inl (some (.int r))) 60 mSH σ := by
  show mK Γ M_X9_line (d + 2) Q n0 bc bs 83 [(0, .ref 26)] [.int r] 60 mSH σ
  refine mK_if_eq (tgt := 90) dX9_line_83 rfl (by decide) (fun c1 => ?_) (fun c1 => ?_)
  · refine mK_iconst dX9_line_90 rfl qic_0 ?_
    exact mK_zret dX9_line_91 rfl (by decide) (h.1 c1)
  · refine mK_iconst dX9_line_86 rfl qic_1 ?_
    refine mK_goto (tgt := 91) dX9_line_87 (by decide) ?_
    exact mK_zret dX9_line_91 rfl (by decide) (h.2 c1)
set_option maxRecDepth 20000 in
theorem T_X9_line_26_191a {Γ : Nat × (Nat → Int32)} {d n0 bc bs : Nat} {Q : mQ} {σ : mS} (r : Int32) (h : ((r = 0 → Q (.inl (some (.int 0))) 60 mSH σ) ∧ (¬ (r = 0) → mCall Γ M_X9_name (d + 1) 0 0 [.ref 26] 60 mSH σ (mRt Γ M_X9_line (d + 2) Q n0 bc bs 198 [(0, .ref 26)] [])))) : mRt Γ M_X9_line (d + 2) Q n0 bc bs 191 [(0, .ref 26)] [] (.inl (some (.int r))) 60 mSH σ := by
  show mK Γ M_X9_line (d + 2) Q n0 bc bs 191 [(0, .ref 26)] [.int r] 60 mSH σ
  refine mK_if_eq (tgt := 212) dX9_line_191 rfl (by decide) (fun c1 => ?_) (fun c1 => ?_)
  · refine mK_iconst dX9_line_212 rfl qic_0 ?_
    exact mK_zret dX9_line_213 rfl (by decide) (h.1 c1)
  · refine mK_aload_n dX9_line_194 rfl rfl (.head _) ?_
    refine mK_invV (J := M_X9_name) (k := 0) (as := []) (st := []) (c1 := 0) (s1 := 0) dX9_line_195 rfl jw_X9_name jn_X9_name rfl (Nat.le_of_ble_eq_true rfl) (Nat.zero_le _) (Nat.zero_le _) rfl kw_1314 kw_1316 kw_46 (b := 26) (Nat.le_of_ble_eq_true rfl) (Nat.le_of_ble_eq_true rfl) rfl ?_
    exact (h.2 c1)
set_option maxRecDepth 20000 in
theorem T_X9_line_26_137a {Γ : Nat × (Nat → Int32)} {d n0 bc bs : Nat} {Q : mQ} {σ : mS} (r : Int32) (h : ((r = 0 → Q (.inl (some (.int 0))) 60 mSH σ) ∧ (¬ (r = 0) → mCall Γ M_X9_rest (d + 1) 0 0 [.ref 26] 60 mSH σ (mRt Γ M_X9_line (d + 2) Q n0 bc bs 144 [(0, .ref 26)] [])))) : mRt Γ M_X9_line (d + 2) Q n0 bc bs 137 [(0, .ref 26)] [] (.inl (some (.int r))) 60 mSH σ := by
  show mK Γ M_X9_line (d + 2) Q n0 bc bs 137 [(0, .ref 26)] [.int r] 60 mSH σ
  refine mK_if_eq (tgt := 151) dX9_line_137 rfl (by decide) (fun c1 => ?_) (fun c1 => ?_)
  · refine mK_iconst dX9_line_151 rfl qic_0 ?_
    exact mK_zret dX9_line_152 rfl (by decide) (h.1 c1)
  · refine mK_aload_n dX9_line_140 rfl rfl (.head _) ?_
    refine mK_invV (J := M_X9_rest) (k := 0) (as := []) (st := []) (c1 := 0) (s1 := 0) dX9_line_141 rfl jw_X9_rest jn_X9_rest rfl (Nat.le_of_ble_eq_true rfl) (Nat.zero_le _) (Nat.zero_le _) rfl kw_1334 kw_1336 kw_48 (b := 26) (Nat.le_of_ble_eq_true rfl) (Nat.le_of_ble_eq_true rfl) rfl ?_
    exact (h.2 c1)
set_option maxRecDepth 20000 in
theorem T_X9_line_26_198a {Γ : Nat × (Nat → Int32)} {d n0 bc bs : Nat} {Q : mQ} {σ : mS} (r : Int32) (h : ((r = 0 → Q (.inl (some (.int 0))) 60 mSH σ) ∧ (¬ (r = 0) → mCall Γ M_X9_rest (d + 1) 0 0 [.ref 26] 60 mSH σ (mRt Γ M_X9_line (d + 2) Q n0 bc bs 205 [(0, .ref 26)] [])))) : mRt Γ M_X9_line (d + 2) Q n0 bc bs 198 [(0, .ref 26)] [] (.inl (some (.int r))) 60 mSH σ := by
  show mK Γ M_X9_line (d + 2) Q n0 bc bs 198 [(0, .ref 26)] [.int r] 60 mSH σ
  refine mK_if_eq (tgt := 212) dX9_line_198 rfl (by decide) (fun c1 => ?_) (fun c1 => ?_)
  · refine mK_iconst dX9_line_212 rfl qic_0 ?_
    exact mK_zret dX9_line_213 rfl (by decide) (h.1 c1)
  · refine mK_aload_n dX9_line_201 rfl rfl (.head _) ?_
    refine mK_invV (J := M_X9_rest) (k := 0) (as := []) (st := []) (c1 := 0) (s1 := 0) dX9_line_202 rfl jw_X9_rest jn_X9_rest rfl (Nat.le_of_ble_eq_true rfl) (Nat.zero_le _) (Nat.zero_le _) rfl kw_1334 kw_1336 kw_48 (b := 26) (Nat.le_of_ble_eq_true rfl) (Nat.le_of_ble_eq_true rfl) rfl ?_
    exact (h.2 c1)
set_option maxRecDepth 20000 in
theorem T_X9_line_26_144a {Γ : Nat × (Nat → Int32)} {d n0 bc bs : Nat} {Q : mQ} {σ : mS} (r : Int32) (h : ((r = 0 → Q (.inl (some (.int 0))) 60 mSH σ) ∧ (¬ (r = 0) → Q (.inl (some (.int 1))) 60 mSH σ))) : mRt Γ M_X9_line (d + 2) Q n0 bc bs 144 [(0, .ref 26)] [] (.inl (some (.int r))) 60 mSH σ := by
  show mK Γ M_X9_line (d + 2) Q n0 bc bs 144 [(0, .ref 26)] [.int r] 60 mSH σ
  refine mK_if_eq (tgt := 151) dX9_line_144 rfl (by decide) (fun c1 => ?_) (fun c1 => ?_)
  · refine mK_iconst dX9_line_151 rfl qic_0 ?_
    exact mK_zret dX9_line_152 rfl (by decide) (h.1 c1)
  · refine mK_iconst dX9_line_147 rfl qic_1 ?_
    refine mK_goto (tgt := 152) dX9_line_148 (by decide) ?_
    exact mK_zret dX9_line_152 rfl (by decide) (h.2 c1)
set_option maxRecDepth 20000 in
theorem T_X9_line_26_205a {Γ : Nat × (Nat → Int32)} {d n0 bc bs : Nat} {Q : mQ} {σ : mS} (r : Int32) (h : ((r = 0 → Q (.inl (some (.int 0))) 60 mSH σ) ∧ (¬ (r = 0) → Q (.inl (some (.int 1))) 60 mSH σ))) : mRt Γ M_X9_line (d + 2) Q n0 bc bs 205 [(0, .ref 26)] [] (.inl (some (.int r))) 60 mSH σ := by
  show mK Γ M_X9_line (d + 2) Q n0 bc bs 205 [(0, .ref 26)] [.int r] 60 mSH σ
  refine mK_if_eq (tgt := 212) dX9_line_205 rfl (by decide) (fun c1 => ?_) (fun c1 => ?_)
  · refine mK_iconst dX9_line_212 rfl qic_0 ?_
    exact mK_zret dX9_line_213 rfl (by decide) (h.1 c1)
  · refine mK_iconst dX9_line_208 rfl qic_1 ?_
    refine mK_goto (tgt := 213) dX9_line_209 (by decide) ?_
    exact mK_zret dX9_line_213 rfl (by decide) (h.2 c1)
set_option maxRecDepth 20000 in
theorem E_X9_isText_26 {Γ : Nat × (Nat → Int32)} {d : Nat} {Q : mQ} {σ : mS} (h : mK Γ M_X9_isText (d + 2) Q 60 0 0 5 [(0, .ref 26)] [] 60 mSH (mPI σ 26 10 0)) : mCall Γ M_X9_isText (d + 2) 0 0 [.ref 26] 60 mSH σ Q := by
  refine mCall_of rfl (by decide) (Nat.le_of_ble_eq_true rfl) (mOkC (mOk_lo (Nat.le_of_ble_eq_true rfl)) mOkN) ?_
  show mK Γ M_X9_isText (d + 2) Q 60 0 0 0 [(0, .ref 26)] [] 60 mSH σ
  refine mK_aload_n dX9_isText_0 rfl rfl (.head _) ?_
  refine mK_iconst dX9_isText_1 rfl qic_0 ?_
  refine ru_putI (k := 10) (ci := 8) dX9_isText_2 rfl rfl rfl kw_1137 ?_
  exact h
set_option maxRecDepth 20000 in
theorem T_X9_isText_26_5 {Γ : Nat × (Nat → Int32)} {d n0 bc bs : Nat} {Q : mQ} {σ : mS} (h : ((vp_in (σ.1 26 10) 402) ∧ (((σ.1 29 (σ.1 26 10).toNatClampNeg) = 0 → Q (.inl (some (.int 1))) 60 mSH σ) ∧ (¬ ((σ.1 29 (σ.1 26 10).toNatClampNeg) = 0) → mCall Γ M_X9_line (d + 1) 0 0 [.ref 26] 60 mSH σ (mRt Γ M_X9_isText (d + 2) Q n0 bc bs 21 [(0, .ref 26)] []))))) : mK Γ M_X9_isText (d + 2) Q n0 bc bs 5 [(0, .ref 26)] [] 60 mSH σ := by
  refine mK_aload_n dX9_isText_5 rfl rfl (.head _) ?_
  refine ru_getR (k := 7) (ci := 8) (a := 29) dX9_isText_6 rfl rfl rfl kw_1134 ?_
  refine mK_aload_n dX9_isText_9 rfl rfl (.head _) ?_
  refine ru_getI (k := 10) (ci := 8) dX9_isText_10 rfl rfl kw_1137 ?_
  refine ru_iald (n := 402) dX9_isText_13 rfl rfl (h.1) ?_
  refine mK_if_eq (tgt := 39) dX9_isText_14 rfl (by decide) (fun c1 => ?_) (fun c1 => ?_)
  · refine mK_iconst dX9_isText_39 rfl qic_1 ?_
    exact mK_zret dX9_isText_40 rfl (by decide) (h.2.1 c1)
  · refine mK_aload_n dX9_isText_17 rfl rfl (.head _) ?_
    refine mK_invV (J := M_X9_line) (k := 0) (as := []) (st := []) (c1 := 0) (s1 := 0) dX9_isText_18 rfl jw_X9_line jn_X9_line rfl (Nat.le_of_ble_eq_true rfl) (Nat.zero_le _) (Nat.zero_le _) rfl kw_1246 kw_1248 kw_42 (b := 26) (Nat.le_of_ble_eq_true rfl) (Nat.le_of_ble_eq_true rfl) rfl ?_
    exact (h.2.2 c1)
set_option maxRecDepth 20000 in
theorem T_X9_isText_26_21a {Γ : Nat × (Nat → Int32)} {d n0 bc bs : Nat} {Q : mQ} {σ : mS} (r : Int32) (h : ((r = 0 → Q (.inl (some (.int 0))) 60 mSH σ) ∧ (¬ (r = 0) → mCall Γ M_X9_isSymbol (d + 1) 0 0 [.ref 26, .int 59] 60 mSH σ (mRt Γ M_X9_isText (d + 2) Q n0 bc bs 31 [(0, .ref 26)] [.ref 26])))) : mRt Γ M_X9_isText (d + 2) Q n0 bc bs 21 [(0, .ref 26)] [] (.inl (some (.int r))) 60 mSH σ := by
  show mK Γ M_X9_isText (d + 2) Q n0 bc bs 21 [(0, .ref 26)] [.int r] 60 mSH σ
  refine mK_if_eq (tgt := 37) dX9_isText_21 rfl (by decide) (fun c1 => ?_) (fun c1 => ?_)
  · refine mK_iconst dX9_isText_37 rfl qic_0 ?_
    exact mK_zret dX9_isText_38 rfl (by decide) (h.1 c1)
  · refine mK_aload_n dX9_isText_24 rfl rfl (.head _) ?_
    refine mK_aload_n dX9_isText_25 rfl rfl (.head _) ?_
    refine mK_bipush dX9_isText_26 rfl qbi_59 ?_
    refine mK_invV (J := M_X9_isSymbol) (k := 1) (as := [.int 59]) (st := [.ref 26]) (c1 := 0) (s1 := 0) dX9_isText_28 rfl jw_X9_isSymbol jn_X9_isSymbol rfl (Nat.le_of_ble_eq_true rfl) (Nat.zero_le _) (Nat.zero_le _) rfl kw_1353 kw_1355 kw_52 (b := 26) (Nat.le_of_ble_eq_true rfl) (Nat.le_of_ble_eq_true rfl) rfl ?_
    exact (h.2 c1)
set_option maxRecDepth 20000 in
theorem T_X9_isText_26_31a {Γ : Nat × (Nat → Int32)} {d n0 bc bs : Nat} {Q : mQ} {σ : mS} (r : Int32) (h : mCall Γ M_X9_past (d + 1) 0 0 [.ref 26, .int r] 60 mSH σ (mRt Γ M_X9_isText (d + 2) Q n0 bc bs 34 [(0, .ref 26)] [])) : mRt Γ M_X9_isText (d + 2) Q n0 bc bs 31 [(0, .ref 26)] [.ref 26] (.inl (some (.int r))) 60 mSH σ := by
  show mK Γ M_X9_isText (d + 2) Q n0 bc bs 31 [(0, .ref 26)] [.int r, .ref 26] 60 mSH σ
  refine mK_invV (J := M_X9_past) (k := 1) (as := [.int r]) (st := []) (c1 := 0) (s1 := 0) dX9_isText_31 rfl jw_X9_past jn_X9_past rfl (Nat.le_of_ble_eq_true rfl) (Nat.zero_le _) (Nat.zero_le _) rfl kw_1310 kw_1312 kw_45 (b := 26) (Nat.le_of_ble_eq_true rfl) (Nat.le_of_ble_eq_true rfl) rfl ?_
  exact h
set_option maxRecDepth 20000 in
theorem T_X9_isText_26_34a {Γ : Nat × (Nat → Int32)} {d n0 bc bs : Nat} {Q : mQ} {σ : mS} (r : Int32) (h : ((r = 0 → Q (.inl (some (.int 0))) 60 mSH σ) ∧ (¬ (r = 0) → mK Γ M_X9_isText (d + 2) Q n0 bc bs 5 [(0, .ref 26)] [] 60 mSH σ))) : mRt Γ M_X9_isText (d + 2) Q n0 bc bs 34 [(0, .ref 26)] [] (.inl (some (.int r))) 60 mSH σ := by
  show mK Γ M_X9_isText (d + 2) Q n0 bc bs 34 [(0, .ref 26)] [.int r] 60 mSH σ
  refine ru_if_ne (tgt := 5) dX9_isText_34 rfl (by decide) (fun c1 => ?_) (fun c1 => ?_)
  · exact (h.2 c1)
  · refine mK_iconst dX9_isText_37 rfl qic_0 ?_
    exact mK_zret dX9_isText_38 rfl (by decide) (h.1 c1)
