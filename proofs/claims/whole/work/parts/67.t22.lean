
set_option maxRecDepth 20000 in
theorem E_X6_behindBlanks_1 {Γ : Nat × (Nat → Int32)} {d : Nat} {Q : mQ} {σ : mS} (a2 : Int32) (h : mK Γ M_X6_behindBlanks (d + 2) Q 60 0 0 2 [(0, .ref 1), (2, .int a2)] [] 60 mSH σ) : mCall Γ M_X6_behindBlanks (d + 2) 0 0 [.ref 1, .int a2] 60 mSH σ Q := by
  refine mCall_of rfl (by decide) (Nat.le_of_ble_eq_true rfl) (mOkC (mOk_lo (Nat.le_of_ble_eq_true rfl)) (mOkC mOk_i mOkN)) ?_
  show mK Γ M_X6_behindBlanks (d + 2) Q 60 0 0 0 [(0, .ref 1), (1, .int a2)] [] 60 mSH σ
  refine mK_iload_n dX6_behindBlanks_0 rfl rfl (.tail _ (.head _)) ?_
  refine ru_istore_n (lv1 := [(0, .ref 1), (1, .int a2), (2, .int a2)]) dX6_behindBlanks_1 rfl rfl (by decide) rfl ?_
  exact ru_pick [0, 2] rfl h
set_option maxRecDepth 20000 in
theorem T_X6_behindBlanks_1_2 {Γ : Nat × (Nat → Int32)} {d n0 bc bs : Nat} {Q : mQ} {σ : mS} (x2 : Int32) (h : (((f_X3_length_1 σ) ≤ x2 → Q (.inl (some (.int x2))) 60 mSH σ) ∧ (¬ ((f_X3_length_1 σ) ≤ x2) → (((f_X3_at_1 σ x2) = 32 → mK Γ M_X6_behindBlanks (d + 2) Q n0 bc bs 2 [(0, .ref 1), (2, .int (x2 + 1))] [] 60 mSH σ) ∧ (¬ ((f_X3_at_1 σ x2) = 32) → (((f_X3_at_1 σ x2) = 10 → mK Γ M_X6_behindBlanks (d + 2) Q n0 bc bs 2 [(0, .ref 1), (2, .int (x2 + 1))] [] 60 mSH σ) ∧ (¬ ((f_X3_at_1 σ x2) = 10) → Q (.inl (some (.int x2))) 60 mSH σ))))))) : mK Γ M_X6_behindBlanks (d + 2) Q n0 bc bs 2 [(0, .ref 1), (2, .int x2)] [] 60 mSH σ := by
  refine mK_iload_n dX6_behindBlanks_2 rfl rfl (.tail _ (.head _)) ?_
  refine mK_aload_n dX6_behindBlanks_3 rfl rfl (.head _) ?_
  refine mK_invV (J := M_X3_length) (k := 0) (as := []) (st := [.int x2]) (c1 := 0) (s1 := 0) dX6_behindBlanks_4 rfl jw_X3_length jn_X3_length rfl (Nat.le_of_ble_eq_true rfl) (Nat.zero_le _) (Nat.zero_le _) rfl kw_320 kw_321 kw_322 (b := 1) (Nat.le_of_ble_eq_true rfl) (Nat.le_of_ble_eq_true rfl) rfl ?_
  refine S_X3_length_1  ?_
  show mK Γ M_X6_behindBlanks (d + 2) Q n0 bc bs 7 [(0, .ref 1), (2, .int x2)] [.int (f_X3_length_1 σ), .int x2] 60 mSH σ
  refine mK_icmp_ge (tgt := 36) dX6_behindBlanks_7 rfl (by decide) (fun c1 => ?_) (fun c1 => ?_)
  · refine mK_iload_n dX6_behindBlanks_36 rfl rfl (.tail _ (.head _)) ?_
    exact mK_iret dX6_behindBlanks_37 rfl (h.1 c1)
  · refine mK_aload_n dX6_behindBlanks_10 rfl rfl (.head _) ?_
    refine mK_iload_n dX6_behindBlanks_11 rfl rfl (.tail _ (.head _)) ?_
    refine mK_invV (J := M_X3_at) (k := 1) (as := [.int x2]) (st := []) (c1 := 0) (s1 := 0) dX6_behindBlanks_12 rfl jw_X3_at jn_X3_at rfl (Nat.le_of_ble_eq_true rfl) (Nat.zero_le _) (Nat.zero_le _) rfl kw_324 kw_325 kw_326 (b := 1) (Nat.le_of_ble_eq_true rfl) (Nat.le_of_ble_eq_true rfl) rfl ?_
    refine S_X3_at_1 x2 ?_
    show mK Γ M_X6_behindBlanks (d + 2) Q n0 bc bs 15 [(0, .ref 1), (2, .int x2)] [.int (f_X3_at_1 σ x2)] 60 mSH σ
    refine mK_bipush dX6_behindBlanks_15 rfl qbi_32 ?_
    refine mK_icmp_eq (tgt := 30) dX6_behindBlanks_17 rfl (by decide) (fun c2 => ?_) (fun c2 => ?_)
    · refine ru_iinc (lv1 := [(0, .ref 1), (2, .int (x2 + 1))]) dX6_behindBlanks_30 rfl (.tail _ (.head _)) qic_1 (by decide) rfl ?_
      refine mK_goto (tgt := 2) dX6_behindBlanks_33 (by decide) ?_
      exact ((h.2 c1).1 c2)
    · refine mK_aload_n dX6_behindBlanks_20 rfl rfl (.head _) ?_
      refine mK_iload_n dX6_behindBlanks_21 rfl rfl (.tail _ (.head _)) ?_
      refine mK_invV (J := M_X3_at) (k := 1) (as := [.int x2]) (st := []) (c1 := 0) (s1 := 0) dX6_behindBlanks_22 rfl jw_X3_at jn_X3_at rfl (Nat.le_of_ble_eq_true rfl) (Nat.zero_le _) (Nat.zero_le _) rfl kw_324 kw_325 kw_326 (b := 1) (Nat.le_of_ble_eq_true rfl) (Nat.le_of_ble_eq_true rfl) rfl ?_
      refine S_X3_at_1 x2 ?_
      show mK Γ M_X6_behindBlanks (d + 2) Q n0 bc bs 25 [(0, .ref 1), (2, .int x2)] [.int (f_X3_at_1 σ x2)] 60 mSH σ
      refine mK_bipush dX6_behindBlanks_25 rfl qbi_10 ?_
      refine ru_icmp_ne (tgt := 36) dX6_behindBlanks_27 rfl (by decide) (fun c3 => ?_) (fun c3 => ?_)
      · refine mK_iload_n dX6_behindBlanks_36 rfl rfl (.tail _ (.head _)) ?_
        exact mK_iret dX6_behindBlanks_37 rfl (((h.2 c1).2 c2).2 c3)
      · refine ru_iinc (lv1 := [(0, .ref 1), (2, .int (x2 + 1))]) dX6_behindBlanks_30 rfl (.tail _ (.head _)) qic_1 (by decide) rfl ?_
        refine mK_goto (tgt := 2) dX6_behindBlanks_33 (by decide) ?_
        exact (((h.2 c1).2 c2).1 c3)
set_option maxRecDepth 20000 in
theorem E_X2_withCode {Γ : Nat × (Nat → Int32)} {d : Nat} {Q : mQ} {σ : mS} (a1 : Int64) (a2 : Nat) (ha_a2 : 1000 ≤ a2 ∧ a2 < 1028) (h : mK Γ M_X2_withCode (d + 1) Q 60 0 0 11 [(0, .long a1), (2, .ref a2), (3, .ref 1100), (4, .int 28), (5, .int 0)] [] 60 mSH σ) : mCall Γ M_X2_withCode (d + 1) 0 0 [.long a1, .ref a2] 60 mSH σ Q := by
  refine mCall_of rfl (by decide) (Nat.le_of_ble_eq_true rfl) (mOkC mOk_l (mOkC (mOk_hi (Nat.le_trans (by decide) ha_a2.1)) mOkN)) ?_
  show mK Γ M_X2_withCode (d + 1) Q 60 0 0 0 [(0, .long a1), (2, .ref a2)] [] 60 mSH σ
  refine mK_getA dX2_withCode_0 rfl kw_349 ?_
  refine ru_astore_n (lv1 := [(0, .long a1), (2, .ref a2), (3, .ref 1100)]) dX2_withCode_3 rfl rfl (by decide) rfl ?_
  refine mK_aload_n dX2_withCode_4 rfl rfl (.tail _ (.tail _ (.head _))) ?_
  refine mK_alnA dX2_withCode_5 rfl ?_
  refine ru_istore (lv1 := [(0, .long a1), (2, .ref a2), (3, .ref 1100), (4, .int 28)]) dX2_withCode_6 rfl (by decide) rfl ?_
  refine mK_iconst dX2_withCode_8 rfl qic_0 ?_
  refine ru_istore (lv1 := [(0, .long a1), (2, .ref a2), (3, .ref 1100), (4, .int 28), (5, .int 0)]) dX2_withCode_9 rfl (by decide) rfl ?_
  exact h
set_option maxRecDepth 20000 in
theorem T_X2_withCode_11 {Γ : Nat × (Nat → Int32)} {d n0 bc bs : Nat} {Q : mQ} {σ : mS} (x0 : Int64) (x2 : Nat) (x4 : Int32) (x5 : Int32) (ha_x2 : 1000 ≤ x2 ∧ x2 < 1028) (h : ((x4 ≤ x5 → Q (.inl (some (.ref x2))) 60 mSH σ) ∧ (¬ (x4 ≤ x5) → ((vp_in x5 28) ∧ ((1000 ≤ (1000 + (x5).toNatClampNeg) ∧ (1000 + (x5).toNatClampNeg) < 1028) ∧ (((mKc ((1000 + (x5).toNatClampNeg) - 1000)) = x0 → ((x0 = 0 → mK Γ M_X2_withCode (d + 1) Q n0 bc bs 11 [(0, .long x0), (2, .ref x2), (3, .ref 1100), (4, .int x4), (5, .int (x5 + 1))] [] 60 mSH σ) ∧ (¬ (x0 = 0) → Q (.inl (some (.ref (1000 + (x5).toNatClampNeg)))) 60 mSH σ))) ∧ (¬ ((mKc ((1000 + (x5).toNatClampNeg) - 1000)) = x0) → mK Γ M_X2_withCode (d + 1) Q n0 bc bs 11 [(0, .long x0), (2, .ref x2), (3, .ref 1100), (4, .int x4), (5, .int (x5 + 1))] [] 60 mSH σ))))))) : mK Γ M_X2_withCode (d + 1) Q n0 bc bs 11 [(0, .long x0), (2, .ref x2), (3, .ref 1100), (4, .int x4), (5, .int x5)] [] 60 mSH σ := by
  refine mK_iload dX2_withCode_11 rfl (.tail _ (.tail _ (.tail _ (.tail _ (.head _))))) ?_
  refine mK_iload dX2_withCode_13 rfl (.tail _ (.tail _ (.tail _ (.head _)))) ?_
  refine mK_icmp_ge (tgt := 49) dX2_withCode_15 rfl (by decide) (fun c1 => ?_) (fun c1 => ?_)
  · refine mK_aload_n dX2_withCode_49 rfl rfl (.tail _ (.head _)) ?_
    exact mK_aret dX2_withCode_50 (ty := .object "DebateHall$Kind") rfl (Or.inl ⟨_, rfl⟩) (h.1 c1)
  · refine mK_aload_n dX2_withCode_18 rfl rfl (.tail _ (.tail _ (.head _))) ?_
    refine mK_iload dX2_withCode_19 rfl (.tail _ (.tail _ (.tail _ (.tail _ (.head _))))) ?_
    refine mK_aldA dX2_withCode_21 rfl ((h.2 c1).1) ?_
    refine ru_astore (lv1 := [(0, .long x0), (2, .ref x2), (3, .ref 1100), (4, .int x4), (5, .int x5), (6, .ref (1000 + (x5).toNatClampNeg))]) dX2_withCode_22 rfl (by decide) rfl ?_
    refine mK_aload dX2_withCode_24 rfl (.tail _ (.tail _ (.tail _ (.tail _ (.tail _ (.head _)))))) ?_
    refine ru_code dX2_withCode_26 rfl ((h.2 c1).2.1) kw_1599 ?_
    refine mK_lload_n dX2_withCode_29 rfl rfl (.head _) ?_
    refine ru_lif_ne (tgt := 43) dX2_withCode_30 rfl dX2_withCode_31 rfl (by decide) (fun c2 => ?_) (fun c2 => ?_)
    · refine ru_iinc (lv1 := [(0, .long x0), (2, .ref x2), (3, .ref 1100), (4, .int x4), (5, .int (x5 + 1)), (6, .ref (1000 + (x5).toNatClampNeg))]) dX2_withCode_43 rfl (.tail _ (.tail _ (.tail _ (.tail _ (.head _))))) qic_1 (by decide) rfl ?_
      refine mK_goto (tgt := 11) dX2_withCode_46 (by decide) ?_
      exact ru_pick [0, 1, 2, 3, 4] rfl ((h.2 c1).2.2.2 c2)
    · refine mK_lload_n dX2_withCode_34 rfl rfl (.head _) ?_
      refine mK_lconst dX2_withCode_35 rfl (v := 0) rfl ?_
      refine ru_lif_eq (tgt := 43) dX2_withCode_36 rfl dX2_withCode_37 rfl (by decide) (fun c3 => ?_) (fun c3 => ?_)
      · refine ru_iinc (lv1 := [(0, .long x0), (2, .ref x2), (3, .ref 1100), (4, .int x4), (5, .int (x5 + 1)), (6, .ref (1000 + (x5).toNatClampNeg))]) dX2_withCode_43 rfl (.tail _ (.tail _ (.tail _ (.tail _ (.head _))))) qic_1 (by decide) rfl ?_
        refine mK_goto (tgt := 11) dX2_withCode_46 (by decide) ?_
        exact ru_pick [0, 1, 2, 3, 4] rfl (((h.2 c1).2.2.1 c2).1 c3)
      · refine mK_aload dX2_withCode_40 rfl (.tail _ (.tail _ (.tail _ (.tail _ (.tail _ (.head _)))))) ?_
        exact mK_aret dX2_withCode_42 (ty := .object "DebateHall$Kind") rfl (Or.inl ⟨_, rfl⟩) (((h.2 c1).2.2.1 c2).2 c3)
set_option maxRecDepth 20000 in
theorem E_X6_readWord_20_1 {Γ : Nat × (Nat → Int32)} {d : Nat} {Q : mQ} {σ : mS} (a2 : Int32) (h : mK Γ M_X6_readWord (d + 2) Q 60 0 0 5 [(0, .ref 20), (1, .ref 1), (2, .int a2), (3, .long 0), (5, .int a2)] [] 60 mSH σ) : mCall Γ M_X6_readWord (d + 2) 0 0 [.ref 20, .ref 1, .int a2] 60 mSH σ Q := by
  refine mCall_of rfl (by decide) (Nat.le_of_ble_eq_true rfl) (mOkC (mOk_lo (Nat.le_of_ble_eq_true rfl)) (mOkC (mOk_lo (Nat.le_of_ble_eq_true rfl)) (mOkC mOk_i mOkN))) ?_
  show mK Γ M_X6_readWord (d + 2) Q 60 0 0 0 [(0, .ref 20), (1, .ref 1), (2, .int a2)] [] 60 mSH σ
  refine mK_lconst dX6_readWord_0 rfl (v := 0) rfl ?_
  refine ru_lstore_n (lv1 := [(0, .ref 20), (1, .ref 1), (2, .int a2), (3, .long 0)]) dX6_readWord_1 rfl rfl (by decide) rfl ?_
  refine mK_iload_n dX6_readWord_2 rfl rfl (.tail _ (.tail _ (.head _))) ?_
  refine ru_istore (lv1 := [(0, .ref 20), (1, .ref 1), (2, .int a2), (3, .long 0), (5, .int a2)]) dX6_readWord_3 rfl (by decide) rfl ?_
  exact h
set_option maxRecDepth 20000 in
theorem T_X6_readWord_20_1_5 {Γ : Nat × (Nat → Int32)} {d n0 bc bs : Nat} {Q : mQ} {σ : mS} (x2 : Int32) (x3 : Int64) (x5 : Int32) (h : (((f_X3_length_1 σ) ≤ x5 → (((x5 - x2) ≤ 8 → mCall Γ M_X2_withCode (d + 1) 0 0 [.long x3, .ref 1024] 60 mSH σ (mRt Γ M_X6_readWord (d + 2) Q n0 bc bs 92 [(0, .ref 20), (1, .ref 1), (2, .int x2), (3, .long x3), (5, .int x5), (6, .int 0)] [.ref 20])) ∧ (¬ ((x5 - x2) ≤ 8) → ((¬ ((σ.1 20 3) < 0) → ¬ (400 < (σ.1 20 3)) → vp_in (σ.1 20 3) 401) ∧ Q (.inl (some (.int x5))) 60 mSH (g_X6_put_20 σ 1027 x2 x3))))) ∧ (¬ ((f_X3_length_1 σ) ≤ x5) → (((f_X6_isLetter σ (f_X3_at_1 σ x5)) = 0 → (((f_X6_isDigit σ (f_X3_at_1 σ x5)) = 0 → (((x5 - x2) ≤ 8 → mCall Γ M_X2_withCode (d + 1) 0 0 [.long x3, .ref 1024] 60 mSH σ (mRt Γ M_X6_readWord (d + 2) Q n0 bc bs 92 [(0, .ref 20), (1, .ref 1), (2, .int x2), (3, .long x3), (5, .int x5), (6, .int 0)] [.ref 20])) ∧ (¬ ((x5 - x2) ≤ 8) → ((¬ ((σ.1 20 3) < 0) → ¬ (400 < (σ.1 20 3)) → vp_in (σ.1 20 3) 401) ∧ Q (.inl (some (.int x5))) 60 mSH (g_X6_put_20 σ 1027 x2 x3))))) ∧ (¬ ((f_X6_isDigit σ (f_X3_at_1 σ x5)) = 0) → mK Γ M_X6_readWord (d + 2) Q n0 bc bs 5 [(0, .ref 20), (1, .ref 1), (2, .int x2), (3, .long ((x3 <<< (Int32.toInt64 8 &&& 63)) ||| (Int32.toInt64 (f_X3_at_1 σ x5)))), (5, .int (x5 + 1))] [] 60 mSH σ))) ∧ (¬ ((f_X6_isLetter σ (f_X3_at_1 σ x5)) = 0) → mK Γ M_X6_readWord (d + 2) Q n0 bc bs 5 [(0, .ref 20), (1, .ref 1), (2, .int x2), (3, .long ((x3 <<< (Int32.toInt64 8 &&& 63)) ||| (Int32.toInt64 (f_X3_at_1 σ x5)))), (5, .int (x5 + 1))] [] 60 mSH σ))))) : mK Γ M_X6_readWord (d + 2) Q n0 bc bs 5 [(0, .ref 20), (1, .ref 1), (2, .int x2), (3, .long x3), (5, .int x5)] [] 60 mSH σ := by
  refine mK_iload dX6_readWord_5 rfl (.tail _ (.tail _ (.tail _ (.tail _ (.head _))))) ?_
  refine mK_aload_n dX6_readWord_7 rfl rfl (.tail _ (.head _)) ?_
  refine mK_invV (J := M_X3_length) (k := 0) (as := []) (st := [.int x5]) (c1 := 0) (s1 := 0) dX6_readWord_8 rfl jw_X3_length jn_X3_length rfl (Nat.le_of_ble_eq_true rfl) (Nat.zero_le _) (Nat.zero_le _) rfl kw_320 kw_321 kw_322 (b := 1) (Nat.le_of_ble_eq_true rfl) (Nat.le_of_ble_eq_true rfl) rfl ?_
  refine S_X3_length_1  ?_
  show mK Γ M_X6_readWord (d + 2) Q n0 bc bs 11 [(0, .ref 20), (1, .ref 1), (2, .int x2), (3, .long x3), (5, .int x5)] [.int (f_X3_length_1 σ), .int x5] 60 mSH σ
  refine mK_icmp_ge (tgt := 57) dX6_readWord_11 rfl (by decide) (fun c1 => ?_) (fun c1 => ?_)
  · refine mK_iload dX6_readWord_57 rfl (.tail _ (.tail _ (.tail _ (.tail _ (.head _))))) ?_
    refine mK_iload_n dX6_readWord_59 rfl rfl (.tail _ (.tail _ (.head _))) ?_
    refine mK_isub dX6_readWord_60 rfl ?_
    refine mK_bipush dX6_readWord_61 rfl qbi_8 ?_
    refine mK_icmp_le (tgt := 70) dX6_readWord_63 rfl (by decide) (fun c2 => ?_) (fun c2 => ?_)
    · refine mK_iconst dX6_readWord_70 rfl qic_0 ?_
      refine ru_istore (lv1 := [(0, .ref 20), (1, .ref 1), (2, .int x2), (3, .long x3), (5, .int x5), (6, .int 0)]) dX6_readWord_71 rfl (by decide) rfl ?_
      refine mK_aload_n dX6_readWord_73 rfl rfl (.head _) ?_
      refine mK_iload dX6_readWord_74 rfl (.tail _ (.tail _ (.tail _ (.tail _ (.tail _ (.head _)))))) ?_
      refine mK_if_eq (tgt := 85) dX6_readWord_76 rfl (by decide) (fun c3 => ?_) (fun c3 => ?_)
      · refine mK_lload_n dX6_readWord_85 rfl rfl (.tail _ (.tail _ (.tail _ (.head _)))) ?_
        refine mK_getE (i := 24) dX6_readWord_86 rfl (by decide) kw_344 ?_
        refine mK_invS (J := M_X2_withCode) (k := 2) (as := [.long x3, .ref 1024]) (st := [.ref 20]) (c1 := 0) (s1 := 0) dX6_readWord_89 rfl jw_X2_withCode jn_X2_withCode rfl (Nat.le_of_ble_eq_true rfl) (Nat.zero_le _) (Nat.zero_le _) rfl kw_346 kw_347 ?_
        exact ((h.1 c1).1 c2)
      · exact absurd (by decide) c3
    · refine mK_iconst dX6_readWord_66 rfl qic_1 ?_
      refine mK_goto (tgt := 71) dX6_readWord_67 (by decide) ?_
      refine ru_istore (lv1 := [(0, .ref 20), (1, .ref 1), (2, .int x2), (3, .long x3), (5, .int x5), (6, .int 1)]) dX6_readWord_71 rfl (by decide) rfl ?_
      refine mK_aload_n dX6_readWord_73 rfl rfl (.head _) ?_
      refine mK_iload dX6_readWord_74 rfl (.tail _ (.tail _ (.tail _ (.tail _ (.tail _ (.head _)))))) ?_
      refine mK_if_eq (tgt := 85) dX6_readWord_76 rfl (by decide) (fun c4 => ?_) (fun c4 => ?_)
      · exact absurd c4 (by decide)
      · refine mK_getE (i := 27) dX6_readWord_79 rfl (by decide) kw_342 ?_
        refine mK_goto (tgt := 92) dX6_readWord_82 (by decide) ?_
        refine mK_iload_n dX6_readWord_92 rfl rfl (.tail _ (.tail _ (.head _))) ?_
        refine mK_lload_n dX6_readWord_93 rfl rfl (.tail _ (.tail _ (.tail _ (.head _)))) ?_
        refine mK_invV (J := M_X6_put) (k := 3) (as := [.ref 1027, .int x2, .long x3]) (st := []) (c1 := 0) (s1 := 0) dX6_readWord_94 rfl jw_X6_put jn_X6_put rfl (Nat.le_of_ble_eq_true rfl) (Nat.zero_le _) (Nat.zero_le _) rfl kw_351 kw_353 kw_2 (b := 20) (Nat.le_of_ble_eq_true rfl) (Nat.le_of_ble_eq_true rfl) rfl ?_
        refine S_X6_put_20 1027 x2 x3 (by decide) (((h.1 c1).2 c2).1) ?_
        show mK Γ M_X6_readWord (d + 2) Q n0 bc bs 97 [(0, .ref 20), (1, .ref 1), (2, .int x2), (3, .long x3), (5, .int x5), (6, .int 1)] [] 60 mSH (g_X6_put_20 σ 1027 x2 x3)
        refine mK_iload dX6_readWord_97 rfl (.tail _ (.tail _ (.tail _ (.tail _ (.head _))))) ?_
        exact mK_iret dX6_readWord_99 rfl ((h.1 c1).2 c2).2
  · refine mK_aload_n dX6_readWord_14 rfl rfl (.tail _ (.head _)) ?_
    refine mK_iload dX6_readWord_15 rfl (.tail _ (.tail _ (.tail _ (.tail _ (.head _))))) ?_
    refine mK_invV (J := M_X3_at) (k := 1) (as := [.int x5]) (st := []) (c1 := 0) (s1 := 0) dX6_readWord_17 rfl jw_X3_at jn_X3_at rfl (Nat.le_of_ble_eq_true rfl) (Nat.zero_le _) (Nat.zero_le _) rfl kw_324 kw_325 kw_326 (b := 1) (Nat.le_of_ble_eq_true rfl) (Nat.le_of_ble_eq_true rfl) rfl ?_
    refine S_X3_at_1 x5 ?_
    show mK Γ M_X6_readWord (d + 2) Q n0 bc bs 20 [(0, .ref 20), (1, .ref 1), (2, .int x2), (3, .long x3), (5, .int x5)] [.int (f_X3_at_1 σ x5)] 60 mSH σ
    refine mK_invS (J := M_X6_isLetter) (k := 1) (as := [.int (f_X3_at_1 σ x5)]) (st := []) (c1 := 0) (s1 := 0) dX6_readWord_20 rfl jw_X6_isLetter jn_X6_isLetter rfl (Nat.le_of_ble_eq_true rfl) (Nat.zero_le _) (Nat.zero_le _) rfl kw_332 kw_333 ?_
    refine S_X6_isLetter (f_X3_at_1 σ x5) ?_
    show mK Γ M_X6_readWord (d + 2) Q n0 bc bs 23 [(0, .ref 20), (1, .ref 1), (2, .int x2), (3, .long x3), (5, .int x5)] [.int (f_X6_isLetter σ (f_X3_at_1 σ x5))] 60 mSH σ
    refine ru_if_ne (tgt := 38) dX6_readWord_23 rfl (by decide) (fun c5 => ?_) (fun c5 => ?_)
    · refine mK_lload_n dX6_readWord_38 rfl rfl (.tail _ (.tail _ (.tail _ (.head _)))) ?_
      refine mK_bipush dX6_readWord_39 rfl qbi_8 ?_
      refine mK_lshl dX6_readWord_41 rfl ?_
      refine mK_aload_n dX6_readWord_42 rfl rfl (.tail _ (.head _)) ?_
      refine mK_iload dX6_readWord_43 rfl (.tail _ (.tail _ (.tail _ (.tail _ (.head _))))) ?_
      refine mK_invV (J := M_X3_at) (k := 1) (as := [.int x5]) (st := [.long (x3 <<< (Int32.toInt64 8 &&& 63))]) (c1 := 0) (s1 := 0) dX6_readWord_45 rfl jw_X3_at jn_X3_at rfl (Nat.le_of_ble_eq_true rfl) (Nat.zero_le _) (Nat.zero_le _) rfl kw_324 kw_325 kw_326 (b := 1) (Nat.le_of_ble_eq_true rfl) (Nat.le_of_ble_eq_true rfl) rfl ?_
      refine S_X3_at_1 x5 ?_
      show mK Γ M_X6_readWord (d + 2) Q n0 bc bs 48 [(0, .ref 20), (1, .ref 1), (2, .int x2), (3, .long x3), (5, .int x5)] [.int (f_X3_at_1 σ x5), .long (x3 <<< (Int32.toInt64 8 &&& 63))] 60 mSH σ
      refine mK_i2l dX6_readWord_48 rfl ?_
      refine mK_lor dX6_readWord_49 rfl ?_
      refine ru_lstore_n (lv1 := [(0, .ref 20), (1, .ref 1), (2, .int x2), (3, .long ((x3 <<< (Int32.toInt64 8 &&& 63)) ||| (Int32.toInt64 (f_X3_at_1 σ x5)))), (5, .int x5)]) dX6_readWord_50 rfl rfl (by decide) rfl ?_
      refine ru_iinc (lv1 := [(0, .ref 20), (1, .ref 1), (2, .int x2), (3, .long ((x3 <<< (Int32.toInt64 8 &&& 63)) ||| (Int32.toInt64 (f_X3_at_1 σ x5)))), (5, .int (x5 + 1))]) dX6_readWord_51 rfl (.tail _ (.tail _ (.tail _ (.tail _ (.head _))))) qic_1 (by decide) rfl ?_
      refine mK_goto (tgt := 5) dX6_readWord_54 (by decide) ?_
      exact ((h.2 c1).2 c5)
    · refine mK_aload_n dX6_readWord_26 rfl rfl (.tail _ (.head _)) ?_
      refine mK_iload dX6_readWord_27 rfl (.tail _ (.tail _ (.tail _ (.tail _ (.head _))))) ?_
      refine mK_invV (J := M_X3_at) (k := 1) (as := [.int x5]) (st := []) (c1 := 0) (s1 := 0) dX6_readWord_29 rfl jw_X3_at jn_X3_at rfl (Nat.le_of_ble_eq_true rfl) (Nat.zero_le _) (Nat.zero_le _) rfl kw_324 kw_325 kw_326 (b := 1) (Nat.le_of_ble_eq_true rfl) (Nat.le_of_ble_eq_true rfl) rfl ?_
      refine S_X3_at_1 x5 ?_
      show mK Γ M_X6_readWord (d + 2) Q n0 bc bs 32 [(0, .ref 20), (1, .ref 1), (2, .int x2), (3, .long x3), (5, .int x5)] [.int (f_X3_at_1 σ x5)] 60 mSH σ
      refine mK_invS (J := M_X6_isDigit) (k := 1) (as := [.int (f_X3_at_1 σ x5)]) (st := []) (c1 := 0) (s1 := 0) dX6_readWord_32 rfl jw_X6_isDigit jn_X6_isDigit rfl (Nat.le_of_ble_eq_true rfl) (Nat.zero_le _) (Nat.zero_le _) rfl kw_339 kw_340 ?_
      refine S_X6_isDigit (f_X3_at_1 σ x5) ?_
      show mK Γ M_X6_readWord (d + 2) Q n0 bc bs 35 [(0, .ref 20), (1, .ref 1), (2, .int x2), (3, .long x3), (5, .int x5)] [.int (f_X6_isDigit σ (f_X3_at_1 σ x5))] 60 mSH σ
      refine mK_if_eq (tgt := 57) dX6_readWord_35 rfl (by decide) (fun c6 => ?_) (fun c6 => ?_)
      · refine mK_iload dX6_readWord_57 rfl (.tail _ (.tail _ (.tail _ (.tail _ (.head _))))) ?_
        refine mK_iload_n dX6_readWord_59 rfl rfl (.tail _ (.tail _ (.head _))) ?_
        refine mK_isub dX6_readWord_60 rfl ?_
        refine mK_bipush dX6_readWord_61 rfl qbi_8 ?_
        refine mK_icmp_le (tgt := 70) dX6_readWord_63 rfl (by decide) (fun c7 => ?_) (fun c7 => ?_)
        · refine mK_iconst dX6_readWord_70 rfl qic_0 ?_
          refine ru_istore (lv1 := [(0, .ref 20), (1, .ref 1), (2, .int x2), (3, .long x3), (5, .int x5), (6, .int 0)]) dX6_readWord_71 rfl (by decide) rfl ?_
          refine mK_aload_n dX6_readWord_73 rfl rfl (.head _) ?_
          refine mK_iload dX6_readWord_74 rfl (.tail _ (.tail _ (.tail _ (.tail _ (.tail _ (.head _)))))) ?_
          refine mK_if_eq (tgt := 85) dX6_readWord_76 rfl (by decide) (fun c8 => ?_) (fun c8 => ?_)
          · refine mK_lload_n dX6_readWord_85 rfl rfl (.tail _ (.tail _ (.tail _ (.head _)))) ?_
            refine mK_getE (i := 24) dX6_readWord_86 rfl (by decide) kw_344 ?_
            refine mK_invS (J := M_X2_withCode) (k := 2) (as := [.long x3, .ref 1024]) (st := [.ref 20]) (c1 := 0) (s1 := 0) dX6_readWord_89 rfl jw_X2_withCode jn_X2_withCode rfl (Nat.le_of_ble_eq_true rfl) (Nat.zero_le _) (Nat.zero_le _) rfl kw_346 kw_347 ?_
            exact ((((h.2 c1).1 c5).1 c6).1 c7)
          · exact absurd (by decide) c8
        · refine mK_iconst dX6_readWord_66 rfl qic_1 ?_
          refine mK_goto (tgt := 71) dX6_readWord_67 (by decide) ?_
          refine ru_istore (lv1 := [(0, .ref 20), (1, .ref 1), (2, .int x2), (3, .long x3), (5, .int x5), (6, .int 1)]) dX6_readWord_71 rfl (by decide) rfl ?_
          refine mK_aload_n dX6_readWord_73 rfl rfl (.head _) ?_
          refine mK_iload dX6_readWord_74 rfl (.tail _ (.tail _ (.tail _ (.tail _ (.tail _ (.head _)))))) ?_
          refine mK_if_eq (tgt := 85) dX6_readWord_76 rfl (by decide) (fun c9 => ?_) (fun c9 => ?_)
          · exact absurd c9 (by decide)
          · refine mK_getE (i := 27) dX6_readWord_79 rfl (by decide) kw_342 ?_
            refine mK_goto (tgt := 92) dX6_readWord_82 (by decide) ?_
            refine mK_iload_n dX6_readWord_92 rfl rfl (.tail _ (.tail _ (.head _))) ?_
            refine mK_lload_n dX6_readWord_93 rfl rfl (.tail _ (.tail _ (.tail _ (.head _)))) ?_
            refine mK_invV (J := M_X6_put) (k := 3) (as := [.ref 1027, .int x2, .long x3]) (st := []) (c1 := 0) (s1 := 0) dX6_readWord_94 rfl jw_X6_put jn_X6_put rfl (Nat.le_of_ble_eq_true rfl) (Nat.zero_le _) (Nat.zero_le _) rfl kw_351 kw_353 kw_2 (b := 20) (Nat.le_of_ble_eq_true rfl) (Nat.le_of_ble_eq_true rfl) rfl ?_
            refine S_X6_put_20 1027 x2 x3 (by decide) (((((h.2 c1).1 c5).1 c6).2 c7).1) ?_
            show mK Γ M_X6_readWord (d + 2) Q n0 bc bs 97 [(0, .ref 20), (1, .ref 1), (2, .int x2), (3, .long x3), (5, .int x5), (6, .int 1)] [] 60 mSH (g_X6_put_20 σ 1027 x2 x3)
            refine mK_iload dX6_readWord_97 rfl (.tail _ (.tail _ (.tail _ (.tail _ (.head _))))) ?_
            exact mK_iret dX6_readWord_99 rfl ((((h.2 c1).1 c5).1 c6).2 c7).2
      · refine mK_lload_n dX6_readWord_38 rfl rfl (.tail _ (.tail _ (.tail _ (.head _)))) ?_
        refine mK_bipush dX6_readWord_39 rfl qbi_8 ?_
        refine mK_lshl dX6_readWord_41 rfl ?_
        refine mK_aload_n dX6_readWord_42 rfl rfl (.tail _ (.head _)) ?_
        refine mK_iload dX6_readWord_43 rfl (.tail _ (.tail _ (.tail _ (.tail _ (.head _))))) ?_
        refine mK_invV (J := M_X3_at) (k := 1) (as := [.int x5]) (st := [.long (x3 <<< (Int32.toInt64 8 &&& 63))]) (c1 := 0) (s1 := 0) dX6_readWord_45 rfl jw_X3_at jn_X3_at rfl (Nat.le_of_ble_eq_true rfl) (Nat.zero_le _) (Nat.zero_le _) rfl kw_324 kw_325 kw_326 (b := 1) (Nat.le_of_ble_eq_true rfl) (Nat.le_of_ble_eq_true rfl) rfl ?_
        refine S_X3_at_1 x5 ?_
        show mK Γ M_X6_readWord (d + 2) Q n0 bc bs 48 [(0, .ref 20), (1, .ref 1), (2, .int x2), (3, .long x3), (5, .int x5)] [.int (f_X3_at_1 σ x5), .long (x3 <<< (Int32.toInt64 8 &&& 63))] 60 mSH σ
        refine mK_i2l dX6_readWord_48 rfl ?_
        refine mK_lor dX6_readWord_49 rfl ?_
        refine ru_lstore_n (lv1 := [(0, .ref 20), (1, .ref 1), (2, .int x2), (3, .long ((x3 <<< (Int32.toInt64 8 &&& 63)) ||| (Int32.toInt64 (f_X3_at_1 σ x5)))), (5, .int x5)]) dX6_readWord_50 rfl rfl (by decide) rfl ?_
        refine ru_iinc (lv1 := [(0, .ref 20), (1, .ref 1), (2, .int x2), (3, .long ((x3 <<< (Int32.toInt64 8 &&& 63)) ||| (Int32.toInt64 (f_X3_at_1 σ x5)))), (5, .int (x5 + 1))]) dX6_readWord_51 rfl (.tail _ (.tail _ (.tail _ (.tail _ (.head _))))) qic_1 (by decide) rfl ?_
        refine mK_goto (tgt := 5) dX6_readWord_54 (by decide) ?_
        exact (((h.2 c1).1 c5).2 c6)
set_option maxRecDepth 20000 in
theorem T_X6_readWord_20_1_92a {Γ : Nat × (Nat → Int32)} {d n0 bc bs : Nat} {Q : mQ} {σ : mS} (x2 : Int32) (x3 : Int64) (x5 : Int32) (x6 : Int32) (r : Nat) (ha_r : 1000 ≤ r ∧ r < 1028) (h : ((¬ ((σ.1 20 3) < 0) → ¬ (400 < (σ.1 20 3)) → vp_in (σ.1 20 3) 401) ∧ Q (.inl (some (.int x5))) 60 mSH (g_X6_put_20 σ r x2 x3))) : mRt Γ M_X6_readWord (d + 2) Q n0 bc bs 92 [(0, .ref 20), (1, .ref 1), (2, .int x2), (3, .long x3), (5, .int x5), (6, .int x6)] [.ref 20] (.inl (some (.ref r))) 60 mSH σ := by
  show mK Γ M_X6_readWord (d + 2) Q n0 bc bs 92 [(0, .ref 20), (1, .ref 1), (2, .int x2), (3, .long x3), (5, .int x5), (6, .int x6)] [.ref r, .ref 20] 60 mSH σ
  refine mK_iload_n dX6_readWord_92 rfl rfl (.tail _ (.tail _ (.head _))) ?_
  refine mK_lload_n dX6_readWord_93 rfl rfl (.tail _ (.tail _ (.tail _ (.head _)))) ?_
  refine mK_invV (J := M_X6_put) (k := 3) (as := [.ref r, .int x2, .long x3]) (st := []) (c1 := 0) (s1 := 0) dX6_readWord_94 rfl jw_X6_put jn_X6_put rfl (Nat.le_of_ble_eq_true rfl) (Nat.zero_le _) (Nat.zero_le _) rfl kw_351 kw_353 kw_2 (b := 20) (Nat.le_of_ble_eq_true rfl) (Nat.le_of_ble_eq_true rfl) rfl ?_
  refine S_X6_put_20 r x2 x3 ha_r (h.1) ?_
  show mK Γ M_X6_readWord (d + 2) Q n0 bc bs 97 [(0, .ref 20), (1, .ref 1), (2, .int x2), (3, .long x3), (5, .int x5), (6, .int x6)] [] 60 mSH (g_X6_put_20 σ r x2 x3)
  refine mK_iload dX6_readWord_97 rfl (.tail _ (.tail _ (.tail _ (.tail _ (.head _))))) ?_
  exact mK_iret dX6_readWord_99 rfl h.2
set_option maxRecDepth 20000 in
theorem E_X6_readNumber_20_1 {Γ : Nat × (Nat → Int32)} {d : Nat} {Q : mQ} {σ : mS} (a2 : Int32) (h : mK Γ M_X6_readNumber (d + 2) Q 60 0 0 5 [(0, .ref 20), (1, .ref 1), (2, .int a2), (3, .long 0), (5, .int a2)] [] 60 mSH σ) : mCall Γ M_X6_readNumber (d + 2) 0 0 [.ref 20, .ref 1, .int a2] 60 mSH σ Q := by
  refine mCall_of rfl (by decide) (Nat.le_of_ble_eq_true rfl) (mOkC (mOk_lo (Nat.le_of_ble_eq_true rfl)) (mOkC (mOk_lo (Nat.le_of_ble_eq_true rfl)) (mOkC mOk_i mOkN))) ?_
  show mK Γ M_X6_readNumber (d + 2) Q 60 0 0 0 [(0, .ref 20), (1, .ref 1), (2, .int a2)] [] 60 mSH σ
  refine mK_lconst dX6_readNumber_0 rfl (v := 0) rfl ?_
  refine ru_lstore_n (lv1 := [(0, .ref 20), (1, .ref 1), (2, .int a2), (3, .long 0)]) dX6_readNumber_1 rfl rfl (by decide) rfl ?_
  refine mK_iload_n dX6_readNumber_2 rfl rfl (.tail _ (.tail _ (.head _))) ?_
  refine ru_istore (lv1 := [(0, .ref 20), (1, .ref 1), (2, .int a2), (3, .long 0), (5, .int a2)]) dX6_readNumber_3 rfl (by decide) rfl ?_
  exact h
set_option maxRecDepth 20000 in
theorem T_X6_readNumber_20_1_5 {Γ : Nat × (Nat → Int32)} {d n0 bc bs : Nat} {Q : mQ} {σ : mS} (x2 : Int32) (x3 : Int64) (x5 : Int32) (h : (((f_X3_length_1 σ) ≤ x5 → (((x5 - x2) ≤ 6 → ((¬ ((σ.1 20 3) < 0) → ¬ (400 < (σ.1 20 3)) → vp_in (σ.1 20 3) 401) ∧ Q (.inl (some (.int x5))) 60 mSH (g_X6_put_20 σ 1025 x2 x3))) ∧ (¬ ((x5 - x2) ≤ 6) → ((¬ ((σ.1 20 3) < 0) → ¬ (400 < (σ.1 20 3)) → vp_in (σ.1 20 3) 401) ∧ Q (.inl (some (.int x5))) 60 mSH (g_X6_put_20 σ 1027 x2 x3))))) ∧ (¬ ((f_X3_length_1 σ) ≤ x5) → (((f_X6_isDigit σ (f_X3_at_1 σ x5)) = 0 → (((x5 - x2) ≤ 6 → ((¬ ((σ.1 20 3) < 0) → ¬ (400 < (σ.1 20 3)) → vp_in (σ.1 20 3) 401) ∧ Q (.inl (some (.int x5))) 60 mSH (g_X6_put_20 σ 1025 x2 x3))) ∧ (¬ ((x5 - x2) ≤ 6) → ((¬ ((σ.1 20 3) < 0) → ¬ (400 < (σ.1 20 3)) → vp_in (σ.1 20 3) 401) ∧ Q (.inl (some (.int x5))) 60 mSH (g_X6_put_20 σ 1027 x2 x3))))) ∧ (¬ ((f_X6_isDigit σ (f_X3_at_1 σ x5)) = 0) → mK Γ M_X6_readNumber (d + 2) Q n0 bc bs 5 [(0, .ref 20), (1, .ref 1), (2, .int x2), (3, .long (((x3 * 10) + (Int32.toInt64 (f_X3_at_1 σ x5))) - 48)), (5, .int (x5 + 1))] [] 60 mSH σ))))) : mK Γ M_X6_readNumber (d + 2) Q n0 bc bs 5 [(0, .ref 20), (1, .ref 1), (2, .int x2), (3, .long x3), (5, .int x5)] [] 60 mSH σ := by
  refine mK_iload dX6_readNumber_5 rfl (.tail _ (.tail _ (.tail _ (.tail _ (.head _))))) ?_
  refine mK_aload_n dX6_readNumber_7 rfl rfl (.tail _ (.head _)) ?_
  refine mK_invV (J := M_X3_length) (k := 0) (as := []) (st := [.int x5]) (c1 := 0) (s1 := 0) dX6_readNumber_8 rfl jw_X3_length jn_X3_length rfl (Nat.le_of_ble_eq_true rfl) (Nat.zero_le _) (Nat.zero_le _) rfl kw_320 kw_321 kw_322 (b := 1) (Nat.le_of_ble_eq_true rfl) (Nat.le_of_ble_eq_true rfl) rfl ?_
  refine S_X3_length_1  ?_
  show mK Γ M_X6_readNumber (d + 2) Q n0 bc bs 11 [(0, .ref 20), (1, .ref 1), (2, .int x2), (3, .long x3), (5, .int x5)] [.int (f_X3_length_1 σ), .int x5] 60 mSH σ
  refine mK_icmp_ge (tgt := 50) dX6_readNumber_11 rfl (by decide) (fun c1 => ?_) (fun c1 => ?_)
  · refine mK_aload_n dX6_readNumber_50 rfl rfl (.head _) ?_
    refine mK_iload dX6_readNumber_51 rfl (.tail _ (.tail _ (.tail _ (.tail _ (.head _))))) ?_
    refine mK_iload_n dX6_readNumber_53 rfl rfl (.tail _ (.tail _ (.head _))) ?_
    refine mK_isub dX6_readNumber_54 rfl ?_
    refine mK_bipush dX6_readNumber_55 rfl qbi_6 ?_
    refine mK_icmp_le (tgt := 66) dX6_readNumber_57 rfl (by decide) (fun c2 => ?_) (fun c2 => ?_)
    · refine mK_getE (i := 25) dX6_readNumber_66 rfl (by decide) kw_361 ?_
      refine mK_iload_n dX6_readNumber_69 rfl rfl (.tail _ (.tail _ (.head _))) ?_
      refine mK_lload_n dX6_readNumber_70 rfl rfl (.tail _ (.tail _ (.tail _ (.head _)))) ?_
      refine mK_invV (J := M_X6_put) (k := 3) (as := [.ref 1025, .int x2, .long x3]) (st := []) (c1 := 0) (s1 := 0) dX6_readNumber_71 rfl jw_X6_put jn_X6_put rfl (Nat.le_of_ble_eq_true rfl) (Nat.zero_le _) (Nat.zero_le _) rfl kw_351 kw_353 kw_2 (b := 20) (Nat.le_of_ble_eq_true rfl) (Nat.le_of_ble_eq_true rfl) rfl ?_
      refine S_X6_put_20 1025 x2 x3 (by decide) (((h.1 c1).1 c2).1) ?_
      show mK Γ M_X6_readNumber (d + 2) Q n0 bc bs 74 [(0, .ref 20), (1, .ref 1), (2, .int x2), (3, .long x3), (5, .int x5)] [] 60 mSH (g_X6_put_20 σ 1025 x2 x3)
      refine mK_iload dX6_readNumber_74 rfl (.tail _ (.tail _ (.tail _ (.tail _ (.head _))))) ?_
      exact mK_iret dX6_readNumber_76 rfl ((h.1 c1).1 c2).2
    · refine mK_getE (i := 27) dX6_readNumber_60 rfl (by decide) kw_342 ?_
      refine mK_goto (tgt := 69) dX6_readNumber_63 (by decide) ?_
      refine mK_iload_n dX6_readNumber_69 rfl rfl (.tail _ (.tail _ (.head _))) ?_
      refine mK_lload_n dX6_readNumber_70 rfl rfl (.tail _ (.tail _ (.tail _ (.head _)))) ?_
      refine mK_invV (J := M_X6_put) (k := 3) (as := [.ref 1027, .int x2, .long x3]) (st := []) (c1 := 0) (s1 := 0) dX6_readNumber_71 rfl jw_X6_put jn_X6_put rfl (Nat.le_of_ble_eq_true rfl) (Nat.zero_le _) (Nat.zero_le _) rfl kw_351 kw_353 kw_2 (b := 20) (Nat.le_of_ble_eq_true rfl) (Nat.le_of_ble_eq_true rfl) rfl ?_
      refine S_X6_put_20 1027 x2 x3 (by decide) (((h.1 c1).2 c2).1) ?_
      show mK Γ M_X6_readNumber (d + 2) Q n0 bc bs 74 [(0, .ref 20), (1, .ref 1), (2, .int x2), (3, .long x3), (5, .int x5)] [] 60 mSH (g_X6_put_20 σ 1027 x2 x3)
      refine mK_iload dX6_readNumber_74 rfl (.tail _ (.tail _ (.tail _ (.tail _ (.head _))))) ?_
      exact mK_iret dX6_readNumber_76 rfl ((h.1 c1).2 c2).2
  · refine mK_aload_n dX6_readNumber_14 rfl rfl (.tail _ (.head _)) ?_
    refine mK_iload dX6_readNumber_15 rfl (.tail _ (.tail _ (.tail _ (.tail _ (.head _))))) ?_
    refine mK_invV (J := M_X3_at) (k := 1) (as := [.int x5]) (st := []) (c1 := 0) (s1 := 0) dX6_readNumber_17 rfl jw_X3_at jn_X3_at rfl (Nat.le_of_ble_eq_true rfl) (Nat.zero_le _) (Nat.zero_le _) rfl kw_324 kw_325 kw_326 (b := 1) (Nat.le_of_ble_eq_true rfl) (Nat.le_of_ble_eq_true rfl) rfl ?_
    refine S_X3_at_1 x5 ?_
    show mK Γ M_X6_readNumber (d + 2) Q n0 bc bs 20 [(0, .ref 20), (1, .ref 1), (2, .int x2), (3, .long x3), (5, .int x5)] [.int (f_X3_at_1 σ x5)] 60 mSH σ
    refine mK_invS (J := M_X6_isDigit) (k := 1) (as := [.int (f_X3_at_1 σ x5)]) (st := []) (c1 := 0) (s1 := 0) dX6_readNumber_20 rfl jw_X6_isDigit jn_X6_isDigit rfl (Nat.le_of_ble_eq_true rfl) (Nat.zero_le _) (Nat.zero_le _) rfl kw_339 kw_340 ?_
    refine S_X6_isDigit (f_X3_at_1 σ x5) ?_
    show mK Γ M_X6_readNumber (d + 2) Q n0 bc bs 23 [(0, .ref 20), (1, .ref 1), (2, .int x2), (3, .long x3), (5, .int x5)] [.int (f_X6_isDigit σ (f_X3_at_1 σ x5))] 60 mSH σ
    refine mK_if_eq (tgt := 50) dX6_readNumber_23 rfl (by decide) (fun c3 => ?_) (fun c3 => ?_)
    · refine mK_aload_n dX6_readNumber_50 rfl rfl (.head _) ?_
      refine mK_iload dX6_readNumber_51 rfl (.tail _ (.tail _ (.tail _ (.tail _ (.head _))))) ?_
      refine mK_iload_n dX6_readNumber_53 rfl rfl (.tail _ (.tail _ (.head _))) ?_
      refine mK_isub dX6_readNumber_54 rfl ?_
      refine mK_bipush dX6_readNumber_55 rfl qbi_6 ?_
      refine mK_icmp_le (tgt := 66) dX6_readNumber_57 rfl (by decide) (fun c4 => ?_) (fun c4 => ?_)
      · refine mK_getE (i := 25) dX6_readNumber_66 rfl (by decide) kw_361 ?_
        refine mK_iload_n dX6_readNumber_69 rfl rfl (.tail _ (.tail _ (.head _))) ?_
        refine mK_lload_n dX6_readNumber_70 rfl rfl (.tail _ (.tail _ (.tail _ (.head _)))) ?_
        refine mK_invV (J := M_X6_put) (k := 3) (as := [.ref 1025, .int x2, .long x3]) (st := []) (c1 := 0) (s1 := 0) dX6_readNumber_71 rfl jw_X6_put jn_X6_put rfl (Nat.le_of_ble_eq_true rfl) (Nat.zero_le _) (Nat.zero_le _) rfl kw_351 kw_353 kw_2 (b := 20) (Nat.le_of_ble_eq_true rfl) (Nat.le_of_ble_eq_true rfl) rfl ?_
        refine S_X6_put_20 1025 x2 x3 (by decide) ((((h.2 c1).1 c3).1 c4).1) ?_
        show mK Γ M_X6_readNumber (d + 2) Q n0 bc bs 74 [(0, .ref 20), (1, .ref 1), (2, .int x2), (3, .long x3), (5, .int x5)] [] 60 mSH (g_X6_put_20 σ 1025 x2 x3)
        refine mK_iload dX6_readNumber_74 rfl (.tail _ (.tail _ (.tail _ (.tail _ (.head _))))) ?_
        exact mK_iret dX6_readNumber_76 rfl (((h.2 c1).1 c3).1 c4).2
      · refine mK_getE (i := 27) dX6_readNumber_60 rfl (by decide) kw_342 ?_
        refine mK_goto (tgt := 69) dX6_readNumber_63 (by decide) ?_
        refine mK_iload_n dX6_readNumber_69 rfl rfl (.tail _ (.tail _ (.head _))) ?_
        refine mK_lload_n dX6_readNumber_70 rfl rfl (.tail _ (.tail _ (.tail _ (.head _)))) ?_
        refine mK_invV (J := M_X6_put) (k := 3) (as := [.ref 1027, .int x2, .long x3]) (st := []) (c1 := 0) (s1 := 0) dX6_readNumber_71 rfl jw_X6_put jn_X6_put rfl (Nat.le_of_ble_eq_true rfl) (Nat.zero_le _) (Nat.zero_le _) rfl kw_351 kw_353 kw_2 (b := 20) (Nat.le_of_ble_eq_true rfl) (Nat.le_of_ble_eq_true rfl) rfl ?_
        refine S_X6_put_20 1027 x2 x3 (by decide) ((((h.2 c1).1 c3).2 c4).1) ?_
        show mK Γ M_X6_readNumber (d + 2) Q n0 bc bs 74 [(0, .ref 20), (1, .ref 1), (2, .int x2), (3, .long x3), (5, .int x5)] [] 60 mSH (g_X6_put_20 σ 1027 x2 x3)
        refine mK_iload dX6_readNumber_74 rfl (.tail _ (.tail _ (.tail _ (.tail _ (.head _))))) ?_
        exact mK_iret dX6_readNumber_76 rfl (((h.2 c1).1 c3).2 c4).2
    · refine mK_lload_n dX6_readNumber_26 rfl rfl (.tail _ (.tail _ (.tail _ (.head _)))) ?_
      refine mK_ldc2 dX6_readNumber_27 rfl kw_359 ?_
      refine mK_lmul dX6_readNumber_30 rfl ?_
      refine mK_aload_n dX6_readNumber_31 rfl rfl (.tail _ (.head _)) ?_
      refine mK_iload dX6_readNumber_32 rfl (.tail _ (.tail _ (.tail _ (.tail _ (.head _))))) ?_
      refine mK_invV (J := M_X3_at) (k := 1) (as := [.int x5]) (st := [.long (x3 * 10)]) (c1 := 0) (s1 := 0) dX6_readNumber_34 rfl jw_X3_at jn_X3_at rfl (Nat.le_of_ble_eq_true rfl) (Nat.zero_le _) (Nat.zero_le _) rfl kw_324 kw_325 kw_326 (b := 1) (Nat.le_of_ble_eq_true rfl) (Nat.le_of_ble_eq_true rfl) rfl ?_
      refine S_X3_at_1 x5 ?_
      show mK Γ M_X6_readNumber (d + 2) Q n0 bc bs 37 [(0, .ref 20), (1, .ref 1), (2, .int x2), (3, .long x3), (5, .int x5)] [.int (f_X3_at_1 σ x5), .long (x3 * 10)] 60 mSH σ
      refine mK_i2l dX6_readNumber_37 rfl ?_
      refine mK_ladd dX6_readNumber_38 rfl ?_
      refine mK_ldc2 dX6_readNumber_39 rfl kw_360 ?_
      refine mK_lsub dX6_readNumber_42 rfl ?_
      refine ru_lstore_n (lv1 := [(0, .ref 20), (1, .ref 1), (2, .int x2), (3, .long (((x3 * 10) + (Int32.toInt64 (f_X3_at_1 σ x5))) - 48)), (5, .int x5)]) dX6_readNumber_43 rfl rfl (by decide) rfl ?_
      refine ru_iinc (lv1 := [(0, .ref 20), (1, .ref 1), (2, .int x2), (3, .long (((x3 * 10) + (Int32.toInt64 (f_X3_at_1 σ x5))) - 48)), (5, .int (x5 + 1))]) dX6_readNumber_44 rfl (.tail _ (.tail _ (.tail _ (.tail _ (.head _))))) qic_1 (by decide) rfl ?_
      refine mK_goto (tgt := 5) dX6_readNumber_47 (by decide) ?_
      exact ((h.2 c1).2 c3)
set_option maxRecDepth 20000 in
theorem E_X6_readOne_20_1 {Γ : Nat × (Nat → Int32)} {d : Nat} {Q : mQ} {σ : mS} (a2 : Int32) (h : (((f_X6_isLetter σ (f_X3_at_1 σ a2)) = 0 → (((f_X6_isDigit σ (f_X3_at_1 σ a2)) = 0 → mCall Γ M_X2_withCode (d + 1) 0 0 [.long (Int32.toInt64 (f_X3_at_1 σ a2)), .ref 1027] 60 mSH σ (mRt Γ M_X6_readOne (d + 2) Q 60 0 0 43 [(0, .ref 20), (1, .ref 1), (2, .int a2), (3, .int (f_X3_at_1 σ a2))] [.ref 20])) ∧ (¬ ((f_X6_isDigit σ (f_X3_at_1 σ a2)) = 0) → mCall Γ M_X6_readNumber (d + 1) 0 0 [.ref 20, .ref 1, .int a2] 60 mSH σ (mRt Γ M_X6_readOne (d + 2) Q 60 0 0 33 [(0, .ref 20), (1, .ref 1), (2, .int a2), (3, .int (f_X3_at_1 σ a2))] [])))) ∧ (¬ ((f_X6_isLetter σ (f_X3_at_1 σ a2)) = 0) → mCall Γ M_X6_readWord (d + 1) 0 0 [.ref 20, .ref 1, .int a2] 60 mSH σ (mRt Γ M_X6_readOne (d + 2) Q 60 0 0 19 [(0, .ref 20), (1, .ref 1), (2, .int a2), (3, .int (f_X3_at_1 σ a2))] [])))) : mCall Γ M_X6_readOne (d + 2) 0 0 [.ref 20, .ref 1, .int a2] 60 mSH σ Q := by
  refine mCall_of rfl (by decide) (Nat.le_of_ble_eq_true rfl) (mOkC (mOk_lo (Nat.le_of_ble_eq_true rfl)) (mOkC (mOk_lo (Nat.le_of_ble_eq_true rfl)) (mOkC mOk_i mOkN))) ?_
  show mK Γ M_X6_readOne (d + 2) Q 60 0 0 0 [(0, .ref 20), (1, .ref 1), (2, .int a2)] [] 60 mSH σ
  refine mK_aload_n dX6_readOne_0 rfl rfl (.tail _ (.head _)) ?_
  refine mK_iload_n dX6_readOne_1 rfl rfl (.tail _ (.tail _ (.head _))) ?_
  refine mK_invV (J := M_X3_at) (k := 1) (as := [.int a2]) (st := []) (c1 := 0) (s1 := 0) dX6_readOne_2 rfl jw_X3_at jn_X3_at rfl (Nat.le_of_ble_eq_true rfl) (Nat.zero_le _) (Nat.zero_le _) rfl kw_324 kw_325 kw_326 (b := 1) (Nat.le_of_ble_eq_true rfl) (Nat.le_of_ble_eq_true rfl) rfl ?_
  refine S_X3_at_1 a2 ?_
  show mK Γ M_X6_readOne (d + 2) Q 60 0 0 5 [(0, .ref 20), (1, .ref 1), (2, .int a2)] [.int (f_X3_at_1 σ a2)] 60 mSH σ
  refine ru_istore_n (lv1 := [(0, .ref 20), (1, .ref 1), (2, .int a2), (3, .int (f_X3_at_1 σ a2))]) dX6_readOne_5 rfl rfl (by decide) rfl ?_
  refine mK_iload_n dX6_readOne_6 rfl rfl (.tail _ (.tail _ (.tail _ (.head _)))) ?_
  refine mK_invS (J := M_X6_isLetter) (k := 1) (as := [.int (f_X3_at_1 σ a2)]) (st := []) (c1 := 0) (s1 := 0) dX6_readOne_7 rfl jw_X6_isLetter jn_X6_isLetter rfl (Nat.le_of_ble_eq_true rfl) (Nat.zero_le _) (Nat.zero_le _) rfl kw_332 kw_333 ?_
  refine S_X6_isLetter (f_X3_at_1 σ a2) ?_
  show mK Γ M_X6_readOne (d + 2) Q 60 0 0 10 [(0, .ref 20), (1, .ref 1), (2, .int a2), (3, .int (f_X3_at_1 σ a2))] [.int (f_X6_isLetter σ (f_X3_at_1 σ a2))] 60 mSH σ
  refine mK_if_eq (tgt := 20) dX6_readOne_10 rfl (by decide) (fun c1 => ?_) (fun c1 => ?_)
  · refine mK_iload_n dX6_readOne_20 rfl rfl (.tail _ (.tail _ (.tail _ (.head _)))) ?_
    refine mK_invS (J := M_X6_isDigit) (k := 1) (as := [.int (f_X3_at_1 σ a2)]) (st := []) (c1 := 0) (s1 := 0) dX6_readOne_21 rfl jw_X6_isDigit jn_X6_isDigit rfl (Nat.le_of_ble_eq_true rfl) (Nat.zero_le _) (Nat.zero_le _) rfl kw_339 kw_340 ?_
    refine S_X6_isDigit (f_X3_at_1 σ a2) ?_
    show mK Γ M_X6_readOne (d + 2) Q 60 0 0 24 [(0, .ref 20), (1, .ref 1), (2, .int a2), (3, .int (f_X3_at_1 σ a2))] [.int (f_X6_isDigit σ (f_X3_at_1 σ a2))] 60 mSH σ
    refine mK_if_eq (tgt := 34) dX6_readOne_24 rfl (by decide) (fun c2 => ?_) (fun c2 => ?_)
    · refine mK_aload_n dX6_readOne_34 rfl rfl (.head _) ?_
      refine mK_iload_n dX6_readOne_35 rfl rfl (.tail _ (.tail _ (.tail _ (.head _)))) ?_
      refine mK_i2l dX6_readOne_36 rfl ?_
      refine mK_getE (i := 27) dX6_readOne_37 rfl (by decide) kw_342 ?_
      refine mK_invS (J := M_X2_withCode) (k := 2) (as := [.long (Int32.toInt64 (f_X3_at_1 σ a2)), .ref 1027]) (st := [.ref 20]) (c1 := 0) (s1 := 0) dX6_readOne_40 rfl jw_X2_withCode jn_X2_withCode rfl (Nat.le_of_ble_eq_true rfl) (Nat.zero_le _) (Nat.zero_le _) rfl kw_346 kw_347 ?_
      exact ((h.1 c1).1 c2)
    · refine mK_aload_n dX6_readOne_27 rfl rfl (.head _) ?_
      refine mK_aload_n dX6_readOne_28 rfl rfl (.tail _ (.head _)) ?_
      refine mK_iload_n dX6_readOne_29 rfl rfl (.tail _ (.tail _ (.head _))) ?_
      refine mK_invV (J := M_X6_readNumber) (k := 2) (as := [.ref 1, .int a2]) (st := []) (c1 := 0) (s1 := 0) dX6_readOne_30 rfl jw_X6_readNumber jn_X6_readNumber rfl (Nat.le_of_ble_eq_true rfl) (Nat.zero_le _) (Nat.zero_le _) rfl kw_355 kw_357 kw_3 (b := 20) (Nat.le_of_ble_eq_true rfl) (Nat.le_of_ble_eq_true rfl) rfl ?_
      exact ((h.1 c1).2 c2)
  · refine mK_aload_n dX6_readOne_13 rfl rfl (.head _) ?_
    refine mK_aload_n dX6_readOne_14 rfl rfl (.tail _ (.head _)) ?_
    refine mK_iload_n dX6_readOne_15 rfl rfl (.tail _ (.tail _ (.head _))) ?_
    refine mK_invV (J := M_X6_readWord) (k := 2) (as := [.ref 1, .int a2]) (st := []) (c1 := 0) (s1 := 0) dX6_readOne_16 rfl jw_X6_readWord jn_X6_readWord rfl (Nat.le_of_ble_eq_true rfl) (Nat.zero_le _) (Nat.zero_le _) rfl kw_335 kw_337 kw_1 (b := 20) (Nat.le_of_ble_eq_true rfl) (Nat.le_of_ble_eq_true rfl) rfl ?_
    exact (h.2 c1)
set_option maxRecDepth 20000 in
theorem T_X6_readOne_20_1_43a {Γ : Nat × (Nat → Int32)} {d n0 bc bs : Nat} {Q : mQ} {σ : mS} (x2 : Int32) (x3 : Int32) (r : Nat) (ha_r : 1000 ≤ r ∧ r < 1028) (h : ((¬ ((σ.1 20 3) < 0) → ¬ (400 < (σ.1 20 3)) → vp_in (σ.1 20 3) 401) ∧ Q (.inl (some (.int (x2 + 1)))) 60 mSH (g_X6_put_20 σ r x2 0))) : mRt Γ M_X6_readOne (d + 2) Q n0 bc bs 43 [(0, .ref 20), (1, .ref 1), (2, .int x2), (3, .int x3)] [.ref 20] (.inl (some (.ref r))) 60 mSH σ := by
  show mK Γ M_X6_readOne (d + 2) Q n0 bc bs 43 [(0, .ref 20), (1, .ref 1), (2, .int x2), (3, .int x3)] [.ref r, .ref 20] 60 mSH σ
  refine mK_iload_n dX6_readOne_43 rfl rfl (.tail _ (.tail _ (.head _))) ?_
  refine mK_lconst dX6_readOne_44 rfl (v := 0) rfl ?_
  refine mK_invV (J := M_X6_put) (k := 3) (as := [.ref r, .int x2, .long 0]) (st := []) (c1 := 0) (s1 := 0) dX6_readOne_45 rfl jw_X6_put jn_X6_put rfl (Nat.le_of_ble_eq_true rfl) (Nat.zero_le _) (Nat.zero_le _) rfl kw_351 kw_353 kw_2 (b := 20) (Nat.le_of_ble_eq_true rfl) (Nat.le_of_ble_eq_true rfl) rfl ?_
  refine S_X6_put_20 r x2 0 ha_r (h.1) ?_
  show mK Γ M_X6_readOne (d + 2) Q n0 bc bs 48 [(0, .ref 20), (1, .ref 1), (2, .int x2), (3, .int x3)] [] 60 mSH (g_X6_put_20 σ r x2 0)
  refine mK_iload_n dX6_readOne_48 rfl rfl (.tail _ (.tail _ (.head _))) ?_
  refine mK_iconst dX6_readOne_49 rfl qic_1 ?_
  refine mK_iadd dX6_readOne_50 rfl ?_
  exact mK_iret dX6_readOne_51 rfl h.2
set_option maxRecDepth 20000 in
theorem T_X6_readOne_20_1_33a {Γ : Nat × (Nat → Int32)} {d n0 bc bs : Nat} {Q : mQ} {σ : mS} (x2 : Int32) (x3 : Int32) (r : Int32) (h : Q (.inl (some (.int r))) 60 mSH σ) : mRt Γ M_X6_readOne (d + 2) Q n0 bc bs 33 [(0, .ref 20), (1, .ref 1), (2, .int x2), (3, .int x3)] [] (.inl (some (.int r))) 60 mSH σ := by
  show mK Γ M_X6_readOne (d + 2) Q n0 bc bs 33 [(0, .ref 20), (1, .ref 1), (2, .int x2), (3, .int x3)] [.int r] 60 mSH σ
  exact mK_iret dX6_readOne_33 rfl h
set_option maxRecDepth 20000 in
theorem T_X6_readOne_20_1_19a {Γ : Nat × (Nat → Int32)} {d n0 bc bs : Nat} {Q : mQ} {σ : mS} (x2 : Int32) (x3 : Int32) (r : Int32) (h : Q (.inl (some (.int r))) 60 mSH σ) : mRt Γ M_X6_readOne (d + 2) Q n0 bc bs 19 [(0, .ref 20), (1, .ref 1), (2, .int x2), (3, .int x3)] [] (.inl (some (.int r))) 60 mSH σ := by
  show mK Γ M_X6_readOne (d + 2) Q n0 bc bs 19 [(0, .ref 20), (1, .ref 1), (2, .int x2), (3, .int x3)] [.int r] 60 mSH σ
  exact mK_iret dX6_readOne_19 rfl h
set_option maxRecDepth 20000 in
theorem E_X6_readFrom_20_1 {Γ : Nat × (Nat → Int32)} {d : Nat} {Q : mQ} {σ : mS} (h : mCall Γ M_X6_behindBlanks (d + 1) 0 0 [.ref 1, .int 0] 60 mSH (mPI σ 20 3 0) (mRt Γ M_X6_readFrom (d + 2) Q 60 0 0 10 [(0, .ref 20), (1, .ref 1)] [])) : mCall Γ M_X6_readFrom (d + 2) 0 0 [.ref 20, .ref 1] 60 mSH σ Q := by
  refine mCall_of rfl (by decide) (Nat.le_of_ble_eq_true rfl) (mOkC (mOk_lo (Nat.le_of_ble_eq_true rfl)) (mOkC (mOk_lo (Nat.le_of_ble_eq_true rfl)) mOkN)) ?_
  show mK Γ M_X6_readFrom (d + 2) Q 60 0 0 0 [(0, .ref 20), (1, .ref 1)] [] 60 mSH σ
  refine mK_aload_n dX6_readFrom_0 rfl rfl (.head _) ?_
  refine mK_iconst dX6_readFrom_1 rfl qic_0 ?_
  refine ru_putI (k := 3) (ci := 5) dX6_readFrom_2 rfl rfl rfl kw_230 ?_
  refine mK_aload_n dX6_readFrom_5 rfl rfl (.tail _ (.head _)) ?_
  refine mK_iconst dX6_readFrom_6 rfl qic_0 ?_
  refine mK_invS (J := M_X6_behindBlanks) (k := 2) (as := [.ref 1, .int 0]) (st := []) (c1 := 0) (s1 := 0) dX6_readFrom_7 rfl jw_X6_behindBlanks jn_X6_behindBlanks rfl (Nat.le_of_ble_eq_true rfl) (Nat.zero_le _) (Nat.zero_le _) rfl kw_317 kw_318 ?_
  exact h
set_option maxRecDepth 20000 in
theorem T_X6_readFrom_20_1_10a {Γ : Nat × (Nat → Int32)} {d n0 bc bs : Nat} {Q : mQ} {σ : mS} (r : Int32) (h : mK Γ M_X6_readFrom (d + 2) Q n0 bc bs 13 [(0, .ref 20), (1, .ref 1), (2, .int r), (3, .int 0)] [] 60 mSH σ) : mRt Γ M_X6_readFrom (d + 2) Q n0 bc bs 10 [(0, .ref 20), (1, .ref 1)] [] (.inl (some (.int r))) 60 mSH σ := by
  show mK Γ M_X6_readFrom (d + 2) Q n0 bc bs 10 [(0, .ref 20), (1, .ref 1)] [.int r] 60 mSH σ
  refine ru_istore_n (lv1 := [(0, .ref 20), (1, .ref 1), (2, .int r)]) dX6_readFrom_10 rfl rfl (by decide) rfl ?_
  refine mK_iconst dX6_readFrom_11 rfl qic_0 ?_
  refine ru_istore_n (lv1 := [(0, .ref 20), (1, .ref 1), (2, .int r), (3, .int 0)]) dX6_readFrom_12 rfl rfl (by decide) rfl ?_
  exact h
set_option maxRecDepth 20000 in
theorem T_X6_readFrom_20_1_13 {Γ : Nat × (Nat → Int32)} {d n0 bc bs : Nat} {Q : mQ} {σ : mS} (x2 : Int32) (x3 : Int32) (h : ((400 ≤ x3 → (((f_X3_length_1 σ) ≤ x2 → ((¬ ((σ.1 20 3) < 0) → ¬ (400 < (σ.1 20 3)) → vp_in (σ.1 20 3) 401) ∧ Q (.inl none) 60 mSH (g_X6_put_20 σ 1026 x2 0))) ∧ (¬ ((f_X3_length_1 σ) ≤ x2) → ((¬ ((σ.1 20 3) < 0) → ¬ (400 < (σ.1 20 3)) → vp_in (σ.1 20 3) 401) ∧ Q (.inl none) 60 mSH (g_X6_put_20 σ 1027 x2 0))))) ∧ (¬ (400 ≤ x3) → (((f_X3_length_1 σ) ≤ x2 → ((¬ ((σ.1 20 3) < 0) → ¬ (400 < (σ.1 20 3)) → vp_in (σ.1 20 3) 401) ∧ Q (.inl none) 60 mSH (g_X6_put_20 σ 1026 x2 0))) ∧ (¬ ((f_X3_length_1 σ) ≤ x2) → mCall Γ M_X6_readOne (d + 1) 0 0 [.ref 20, .ref 1, .int x2] 60 mSH σ (mRt Γ M_X6_readFrom (d + 2) Q n0 bc bs 35 [(0, .ref 20), (1, .ref 1), (2, .int x2), (3, .int x3)] [.ref 1])))))) : mK Γ M_X6_readFrom (d + 2) Q n0 bc bs 13 [(0, .ref 20), (1, .ref 1), (2, .int x2), (3, .int x3)] [] 60 mSH σ := by
  refine mK_iload_n dX6_readFrom_13 rfl rfl (.tail _ (.tail _ (.tail _ (.head _)))) ?_
  refine mK_sipush dX6_readFrom_14 rfl qsi_400 ?_
  refine mK_icmp_ge (tgt := 45) dX6_readFrom_17 rfl (by decide) (fun c1 => ?_) (fun c1 => ?_)
  · refine mK_aload_n dX6_readFrom_45 rfl rfl (.head _) ?_
    refine mK_iload_n dX6_readFrom_46 rfl rfl (.tail _ (.tail _ (.head _))) ?_
    refine mK_aload_n dX6_readFrom_47 rfl rfl (.tail _ (.head _)) ?_
    refine mK_invV (J := M_X3_length) (k := 0) (as := []) (st := [.int x2, .ref 20]) (c1 := 0) (s1 := 0) dX6_readFrom_48 rfl jw_X3_length jn_X3_length rfl (Nat.le_of_ble_eq_true rfl) (Nat.zero_le _) (Nat.zero_le _) rfl kw_320 kw_321 kw_322 (b := 1) (Nat.le_of_ble_eq_true rfl) (Nat.le_of_ble_eq_true rfl) rfl ?_
    refine S_X3_length_1  ?_
    show mK Γ M_X6_readFrom (d + 2) Q n0 bc bs 51 [(0, .ref 20), (1, .ref 1), (2, .int x2), (3, .int x3)] [.int (f_X3_length_1 σ), .int x2, .ref 20] 60 mSH σ
    refine mK_icmp_ge (tgt := 60) dX6_readFrom_51 rfl (by decide) (fun c2 => ?_) (fun c2 => ?_)
    · refine mK_getE (i := 26) dX6_readFrom_60 rfl (by decide) kw_363 ?_
      refine mK_iload_n dX6_readFrom_63 rfl rfl (.tail _ (.tail _ (.head _))) ?_
      refine mK_lconst dX6_readFrom_64 rfl (v := 0) rfl ?_
      refine mK_invV (J := M_X6_put) (k := 3) (as := [.ref 1026, .int x2, .long 0]) (st := []) (c1 := 0) (s1 := 0) dX6_readFrom_65 rfl jw_X6_put jn_X6_put rfl (Nat.le_of_ble_eq_true rfl) (Nat.zero_le _) (Nat.zero_le _) rfl kw_351 kw_353 kw_2 (b := 20) (Nat.le_of_ble_eq_true rfl) (Nat.le_of_ble_eq_true rfl) rfl ?_
      refine S_X6_put_20 1026 x2 0 (by decide) (((h.1 c1).1 c2).1) ?_
      show mK Γ M_X6_readFrom (d + 2) Q n0 bc bs 68 [(0, .ref 20), (1, .ref 1), (2, .int x2), (3, .int x3)] [] 60 mSH (g_X6_put_20 σ 1026 x2 0)
      exact mK_vret dX6_readFrom_68 rfl ((h.1 c1).1 c2).2
    · refine mK_getE (i := 27) dX6_readFrom_54 rfl (by decide) kw_342 ?_
      refine mK_goto (tgt := 63) dX6_readFrom_57 (by decide) ?_
      refine mK_iload_n dX6_readFrom_63 rfl rfl (.tail _ (.tail _ (.head _))) ?_
      refine mK_lconst dX6_readFrom_64 rfl (v := 0) rfl ?_
      refine mK_invV (J := M_X6_put) (k := 3) (as := [.ref 1027, .int x2, .long 0]) (st := []) (c1 := 0) (s1 := 0) dX6_readFrom_65 rfl jw_X6_put jn_X6_put rfl (Nat.le_of_ble_eq_true rfl) (Nat.zero_le _) (Nat.zero_le _) rfl kw_351 kw_353 kw_2 (b := 20) (Nat.le_of_ble_eq_true rfl) (Nat.le_of_ble_eq_true rfl) rfl ?_
      refine S_X6_put_20 1027 x2 0 (by decide) (((h.1 c1).2 c2).1) ?_
      show mK Γ M_X6_readFrom (d + 2) Q n0 bc bs 68 [(0, .ref 20), (1, .ref 1), (2, .int x2), (3, .int x3)] [] 60 mSH (g_X6_put_20 σ 1027 x2 0)
      exact mK_vret dX6_readFrom_68 rfl ((h.1 c1).2 c2).2
  · refine mK_iload_n dX6_readFrom_20 rfl rfl (.tail _ (.tail _ (.head _))) ?_
    refine mK_aload_n dX6_readFrom_21 rfl rfl (.tail _ (.head _)) ?_
    refine mK_invV (J := M_X3_length) (k := 0) (as := []) (st := [.int x2]) (c1 := 0) (s1 := 0) dX6_readFrom_22 rfl jw_X3_length jn_X3_length rfl (Nat.le_of_ble_eq_true rfl) (Nat.zero_le _) (Nat.zero_le _) rfl kw_320 kw_321 kw_322 (b := 1) (Nat.le_of_ble_eq_true rfl) (Nat.le_of_ble_eq_true rfl) rfl ?_
    refine S_X3_length_1  ?_
    show mK Γ M_X6_readFrom (d + 2) Q n0 bc bs 25 [(0, .ref 20), (1, .ref 1), (2, .int x2), (3, .int x3)] [.int (f_X3_length_1 σ), .int x2] 60 mSH σ
    refine mK_icmp_ge (tgt := 45) dX6_readFrom_25 rfl (by decide) (fun c3 => ?_) (fun c3 => ?_)
    · refine mK_aload_n dX6_readFrom_45 rfl rfl (.head _) ?_
      refine mK_iload_n dX6_readFrom_46 rfl rfl (.tail _ (.tail _ (.head _))) ?_
      refine mK_aload_n dX6_readFrom_47 rfl rfl (.tail _ (.head _)) ?_
      refine mK_invV (J := M_X3_length) (k := 0) (as := []) (st := [.int x2, .ref 20]) (c1 := 0) (s1 := 0) dX6_readFrom_48 rfl jw_X3_length jn_X3_length rfl (Nat.le_of_ble_eq_true rfl) (Nat.zero_le _) (Nat.zero_le _) rfl kw_320 kw_321 kw_322 (b := 1) (Nat.le_of_ble_eq_true rfl) (Nat.le_of_ble_eq_true rfl) rfl ?_
      refine S_X3_length_1  ?_
      show mK Γ M_X6_readFrom (d + 2) Q n0 bc bs 51 [(0, .ref 20), (1, .ref 1), (2, .int x2), (3, .int x3)] [.int (f_X3_length_1 σ), .int x2, .ref 20] 60 mSH σ
      refine mK_icmp_ge (tgt := 60) dX6_readFrom_51 rfl (by decide) (fun c4 => ?_) (fun c4 => ?_)
      · refine mK_getE (i := 26) dX6_readFrom_60 rfl (by decide) kw_363 ?_
        refine mK_iload_n dX6_readFrom_63 rfl rfl (.tail _ (.tail _ (.head _))) ?_
        refine mK_lconst dX6_readFrom_64 rfl (v := 0) rfl ?_
        refine mK_invV (J := M_X6_put) (k := 3) (as := [.ref 1026, .int x2, .long 0]) (st := []) (c1 := 0) (s1 := 0) dX6_readFrom_65 rfl jw_X6_put jn_X6_put rfl (Nat.le_of_ble_eq_true rfl) (Nat.zero_le _) (Nat.zero_le _) rfl kw_351 kw_353 kw_2 (b := 20) (Nat.le_of_ble_eq_true rfl) (Nat.le_of_ble_eq_true rfl) rfl ?_
        refine S_X6_put_20 1026 x2 0 (by decide) (((h.2 c1).1 c3).1) ?_
        show mK Γ M_X6_readFrom (d + 2) Q n0 bc bs 68 [(0, .ref 20), (1, .ref 1), (2, .int x2), (3, .int x3)] [] 60 mSH (g_X6_put_20 σ 1026 x2 0)
        exact mK_vret dX6_readFrom_68 rfl ((h.2 c1).1 c3).2
      · exact absurd c3 c4
    · refine mK_aload_n dX6_readFrom_28 rfl rfl (.tail _ (.head _)) ?_
      refine mK_aload_n dX6_readFrom_29 rfl rfl (.head _) ?_
      refine mK_aload_n dX6_readFrom_30 rfl rfl (.tail _ (.head _)) ?_
      refine mK_iload_n dX6_readFrom_31 rfl rfl (.tail _ (.tail _ (.head _))) ?_
      refine mK_invV (J := M_X6_readOne) (k := 2) (as := [.ref 1, .int x2]) (st := [.ref 1]) (c1 := 0) (s1 := 0) dX6_readFrom_32 rfl jw_X6_readOne jn_X6_readOne rfl (Nat.le_of_ble_eq_true rfl) (Nat.zero_le _) (Nat.zero_le _) rfl kw_328 kw_330 kw_0 (b := 20) (Nat.le_of_ble_eq_true rfl) (Nat.le_of_ble_eq_true rfl) rfl ?_
      exact ((h.2 c1).2 c3)
set_option maxRecDepth 20000 in
theorem T_X6_readFrom_20_1_35a {Γ : Nat × (Nat → Int32)} {d n0 bc bs : Nat} {Q : mQ} {σ : mS} (x2 : Int32) (x3 : Int32) (r : Int32) (h : mCall Γ M_X6_behindBlanks (d + 1) 0 0 [.ref 1, .int r] 60 mSH σ (mRt Γ M_X6_readFrom (d + 2) Q n0 bc bs 38 [(0, .ref 20), (1, .ref 1), (2, .int x2), (3, .int x3)] [])) : mRt Γ M_X6_readFrom (d + 2) Q n0 bc bs 35 [(0, .ref 20), (1, .ref 1), (2, .int x2), (3, .int x3)] [.ref 1] (.inl (some (.int r))) 60 mSH σ := by
  show mK Γ M_X6_readFrom (d + 2) Q n0 bc bs 35 [(0, .ref 20), (1, .ref 1), (2, .int x2), (3, .int x3)] [.int r, .ref 1] 60 mSH σ
  refine mK_invS (J := M_X6_behindBlanks) (k := 2) (as := [.ref 1, .int r]) (st := []) (c1 := 0) (s1 := 0) dX6_readFrom_35 rfl jw_X6_behindBlanks jn_X6_behindBlanks rfl (Nat.le_of_ble_eq_true rfl) (Nat.zero_le _) (Nat.zero_le _) rfl kw_317 kw_318 ?_
  exact h
set_option maxRecDepth 20000 in
theorem T_X6_readFrom_20_1_38a {Γ : Nat × (Nat → Int32)} {d n0 bc bs : Nat} {Q : mQ} {σ : mS} (x2 : Int32) (x3 : Int32) (r : Int32) (h : mK Γ M_X6_readFrom (d + 2) Q n0 bc bs 13 [(0, .ref 20), (1, .ref 1), (2, .int r), (3, .int (x3 + 1))] [] 60 mSH σ) : mRt Γ M_X6_readFrom (d + 2) Q n0 bc bs 38 [(0, .ref 20), (1, .ref 1), (2, .int x2), (3, .int x3)] [] (.inl (some (.int r))) 60 mSH σ := by
  show mK Γ M_X6_readFrom (d + 2) Q n0 bc bs 38 [(0, .ref 20), (1, .ref 1), (2, .int x2), (3, .int x3)] [.int r] 60 mSH σ
  refine ru_istore_n (lv1 := [(0, .ref 20), (1, .ref 1), (2, .int r), (3, .int x3)]) dX6_readFrom_38 rfl rfl (by decide) rfl ?_
  refine ru_iinc (lv1 := [(0, .ref 20), (1, .ref 1), (2, .int r), (3, .int (x3 + 1))]) dX6_readFrom_39 rfl (.tail _ (.tail _ (.tail _ (.head _)))) qic_1 (by decide) rfl ?_
  refine mK_goto (tgt := 13) dX6_readFrom_42 (by decide) ?_
  exact h

set_option maxRecDepth 20000 in
theorem E_X9_read_26 {Γ : Nat × (Nat → Int32)} {d : Nat} {Q : mQ} {σ : mS} (h : mK Γ M_X9_read (d + 2) Q 60 0 0 7 [(0, .ref 26), (1, .int 0)] [] 60 mSH (mPI σ 26 6 0)) : mCall Γ M_X9_read (d + 2) 0 0 [.ref 26] 60 mSH σ Q := by
  refine mCall_of rfl (by decide) (Nat.le_of_ble_eq_true rfl) (mOkC (mOk_lo (Nat.le_of_ble_eq_true rfl)) mOkN) ?_
  show mK Γ M_X9_read (d + 2) Q 60 0 0 0 [(0, .ref 26)] [] 60 mSH σ
  refine mK_aload_n dX9_read_0 rfl rfl (.head _) ?_
  refine mK_iconst dX9_read_1 rfl qic_0 ?_
  refine ru_putI (k := 6) (ci := 8) dX9_read_2 rfl rfl rfl kw_1133 ?_
  refine mK_iconst dX9_read_5 rfl qic_0 ?_
  refine ru_istore_n (lv1 := [(0, .ref 26), (1, .int 0)]) dX9_read_6 rfl rfl (by decide) rfl ?_
  exact h
set_option maxRecDepth 20000 in
theorem T_X9_read_26_7 {Γ : Nat × (Nat → Int32)} {d n0 bc bs : Nat} {Q : mQ} {σ : mS} (x1 : Int32) (h : ((400 < (σ.1 26 6) → Q (.inl none) 60 mSH σ) ∧ (¬ (400 < (σ.1 26 6)) → mK Γ M_X9_read (d + 2) Q n0 bc bs 17 [(0, .ref 26), (1, .int x1)] [] 60 mSH σ))) : mK Γ M_X9_read (d + 2) Q n0 bc bs 7 [(0, .ref 26), (1, .int x1)] [] 60 mSH σ := by
  refine mK_aload_n dX9_read_7 rfl rfl (.head _) ?_
  refine ru_getI (k := 6) (ci := 8) dX9_read_8 rfl rfl kw_1133 ?_
  refine mK_sipush dX9_read_11 rfl qsi_400 ?_
  refine mK_icmp_gt (tgt := 326) dX9_read_14 rfl (by decide) (fun c1 => ?_) (fun c1 => ?_)
  · exact mK_vret dX9_read_326 rfl (h.1 c1)
  · exact (h.2 c1)
set_option maxRecDepth 20000 in
theorem T_X9_read_26_17 {Γ : Nat × (Nat → Int32)} {d n0 bc bs : Nat} {Q : mQ} {σ : mS} (x1 : Int32) (h : (((σ.1 26 2) ≤ x1 → mK Γ M_X9_read (d + 2) Q n0 bc bs 53 [(0, .ref 26), (1, .int x1)] [] 60 mSH σ) ∧ (¬ ((σ.1 26 2) ≤ x1) → ((vp_in x1 2000) ∧ (((σ.1 27 (x1).toNatClampNeg) = 32 → mK Γ M_X9_read (d + 2) Q n0 bc bs 17 [(0, .ref 26), (1, .int (x1 + 1))] [] 60 mSH σ) ∧ (¬ ((σ.1 27 (x1).toNatClampNeg) = 32) → (((σ.1 27 (x1).toNatClampNeg) = 10 → mK Γ M_X9_read (d + 2) Q n0 bc bs 17 [(0, .ref 26), (1, .int (x1 + 1))] [] 60 mSH σ) ∧ (¬ ((σ.1 27 (x1).toNatClampNeg) = 10) → mK Γ M_X9_read (d + 2) Q n0 bc bs 53 [(0, .ref 26), (1, .int x1)] [] 60 mSH σ)))))))) : mK Γ M_X9_read (d + 2) Q n0 bc bs 17 [(0, .ref 26), (1, .int x1)] [] 60 mSH σ := by
  refine mK_iload_n dX9_read_17 rfl rfl (.tail _ (.head _)) ?_
  refine mK_aload_n dX9_read_18 rfl rfl (.head _) ?_
  refine ru_getI (k := 2) (ci := 8) dX9_read_19 rfl rfl kw_1129 ?_
  refine mK_icmp_ge (tgt := 53) dX9_read_22 rfl (by decide) (fun c1 => ?_) (fun c1 => ?_)
  · exact (h.1 c1)
  · refine mK_aload_n dX9_read_25 rfl rfl (.head _) ?_
    refine ru_getR (k := 3) (ci := 8) (a := 27) dX9_read_26 rfl rfl rfl kw_1130 ?_
    refine mK_iload_n dX9_read_29 rfl rfl (.tail _ (.head _)) ?_
    refine ru_iald (n := 2000) dX9_read_30 rfl rfl ((h.2 c1).1) ?_
    refine mK_bipush dX9_read_31 rfl qbi_32 ?_
    refine mK_icmp_eq (tgt := 47) dX9_read_33 rfl (by decide) (fun c2 => ?_) (fun c2 => ?_)
    · refine ru_iinc (lv1 := [(0, .ref 26), (1, .int (x1 + 1))]) dX9_read_47 rfl (.tail _ (.head _)) qic_1 (by decide) rfl ?_
      refine mK_goto (tgt := 17) dX9_read_50 (by decide) ?_
      exact ((h.2 c1).2.1 c2)
    · refine mK_aload_n dX9_read_36 rfl rfl (.head _) ?_
      refine ru_getR (k := 3) (ci := 8) (a := 27) dX9_read_37 rfl rfl rfl kw_1130 ?_
      refine mK_iload_n dX9_read_40 rfl rfl (.tail _ (.head _)) ?_
      refine ru_iald (n := 2000) dX9_read_41 rfl rfl ((h.2 c1).1) ?_
      refine mK_bipush dX9_read_42 rfl qbi_10 ?_
      refine ru_icmp_ne (tgt := 53) dX9_read_44 rfl (by decide) (fun c3 => ?_) (fun c3 => ?_)
      · exact (((h.2 c1).2.2 c2).2 c3)
      · refine ru_iinc (lv1 := [(0, .ref 26), (1, .int (x1 + 1))]) dX9_read_47 rfl (.tail _ (.head _)) qic_1 (by decide) rfl ?_
        refine mK_goto (tgt := 17) dX9_read_50 (by decide) ?_
        exact (((h.2 c1).2.2 c2).1 c3)
set_option maxRecDepth 20000 in
theorem T_X9_read_26_53 {Γ : Nat × (Nat → Int32)} {d n0 bc bs : Nat} {Q : mQ} {σ : mS} (x1 : Int32) (h : ((x1 = (σ.1 26 2) → ((¬ ((σ.1 26 6) = 400) → vp_in (σ.1 26 6) 402) ∧ ((((σ.1 26 6) = 400) → ((0 : Int32) = 0) → vp_in (σ.1 26 6) 402) ∧ Q (.inl none) 60 mSH (g_X9_token_26 σ 0 (σ.1 26 2) 0)))) ∧ (¬ (x1 = (σ.1 26 2)) → ((vp_in x1 2000) ∧ (((f_X9_isLetter σ (σ.1 27 (x1).toNatClampNeg)) = 0 → (((f_X9_isDigit σ (σ.1 27 (x1).toNatClampNeg)) = 0 → (((Int32.toInt64 (σ.1 27 (x1).toNatClampNeg)) = 91 → ((¬ ((σ.1 26 6) = 400) → vp_in (σ.1 26 6) 402) ∧ ((((σ.1 26 6) = 400) → ¬ ((4 : Int32) = 0) → vp_in (σ.1 26 6) 402) ∧ mK Γ M_X9_read (d + 2) Q n0 bc bs 307 [(0, .ref 26), (1, .int (x1 + 1))] [] 60 mSH (g_X9_token_26 σ 4 x1 (Int32.toInt64 (σ.1 27 (x1).toNatClampNeg)))))) ∧ (¬ ((Int32.toInt64 (σ.1 27 (x1).toNatClampNeg)) = 91) → (((Int32.toInt64 (σ.1 27 (x1).toNatClampNeg)) = 93 → ((¬ ((σ.1 26 6) = 400) → vp_in (σ.1 26 6) 402) ∧ ((((σ.1 26 6) = 400) → ¬ ((4 : Int32) = 0) → vp_in (σ.1 26 6) 402) ∧ mK Γ M_X9_read (d + 2) Q n0 bc bs 307 [(0, .ref 26), (1, .int (x1 + 1))] [] 60 mSH (g_X9_token_26 σ 4 x1 (Int32.toInt64 (σ.1 27 (x1).toNatClampNeg)))))) ∧ (¬ ((Int32.toInt64 (σ.1 27 (x1).toNatClampNeg)) = 93) → (((Int32.toInt64 (σ.1 27 (x1).toNatClampNeg)) = 59 → ((¬ ((σ.1 26 6) = 400) → vp_in (σ.1 26 6) 402) ∧ ((((σ.1 26 6) = 400) → ¬ ((4 : Int32) = 0) → vp_in (σ.1 26 6) 402) ∧ mK Γ M_X9_read (d + 2) Q n0 bc bs 307 [(0, .ref 26), (1, .int (x1 + 1))] [] 60 mSH (g_X9_token_26 σ 4 x1 (Int32.toInt64 (σ.1 27 (x1).toNatClampNeg)))))) ∧ (¬ ((Int32.toInt64 (σ.1 27 (x1).toNatClampNeg)) = 59) → ((¬ ((σ.1 26 6) = 400) → vp_in (σ.1 26 6) 402) ∧ ((((σ.1 26 6) = 400) → ¬ ((1 : Int32) = 0) → vp_in (σ.1 26 6) 402) ∧ mK Γ M_X9_read (d + 2) Q n0 bc bs 307 [(0, .ref 26), (1, .int (x1 + 1))] [] 60 mSH (g_X9_token_26 σ 1 x1 (Int32.toInt64 (σ.1 27 (x1).toNatClampNeg)))))))))))) ∧ (¬ ((f_X9_isDigit σ (σ.1 27 (x1).toNatClampNeg)) = 0) → mK Γ M_X9_read (d + 2) Q n0 bc bs 191 [(0, .ref 26), (1, .int (x1 + 1)), (2, .int x1), (3, .long ((Int32.toInt64 (σ.1 27 (x1).toNatClampNeg)) - 48))] [] 60 mSH σ))) ∧ (¬ ((f_X9_isLetter σ (σ.1 27 (x1).toNatClampNeg)) = 0) → mK Γ M_X9_read (d + 2) Q n0 bc bs 97 [(0, .ref 26), (1, .int (x1 + 1)), (2, .int x1), (3, .long (Int32.toInt64 (σ.1 27 (x1).toNatClampNeg)))] [] 60 mSH σ)))))) : mK Γ M_X9_read (d + 2) Q n0 bc bs 53 [(0, .ref 26), (1, .int x1)] [] 60 mSH σ := by
  refine mK_iload_n dX9_read_53 rfl rfl (.tail _ (.head _)) ?_
  refine mK_aload_n dX9_read_54 rfl rfl (.head _) ?_
  refine ru_getI (k := 2) (ci := 8) dX9_read_55 rfl rfl kw_1129 ?_
  refine ru_icmp_ne (tgt := 72) dX9_read_58 rfl (by decide) (fun c1 => ?_) (fun c1 => ?_)
  · refine mK_iload_n dX9_read_72 rfl rfl (.tail _ (.head _)) ?_
    refine ru_istore_n (lv1 := [(0, .ref 26), (1, .int x1), (2, .int x1)]) dX9_read_73 rfl rfl (by decide) rfl ?_
    refine mK_aload_n dX9_read_74 rfl rfl (.head _) ?_
    refine ru_getR (k := 3) (ci := 8) (a := 27) dX9_read_75 rfl rfl rfl kw_1130 ?_
    refine mK_iload_n dX9_read_78 rfl rfl (.tail _ (.head _)) ?_
    refine ru_iald (n := 2000) dX9_read_79 rfl rfl ((h.2 c1).1) ?_
    refine mK_i2l dX9_read_80 rfl ?_
    refine ru_lstore_n (lv1 := [(0, .ref 26), (1, .int x1), (2, .int x1), (3, .long (Int32.toInt64 (σ.1 27 (x1).toNatClampNeg)))]) dX9_read_81 rfl rfl (by decide) rfl ?_
    refine mK_aload_n dX9_read_82 rfl rfl (.head _) ?_
    refine ru_getR (k := 3) (ci := 8) (a := 27) dX9_read_83 rfl rfl rfl kw_1130 ?_
    refine mK_iload_n dX9_read_86 rfl rfl (.tail _ (.head _)) ?_
    refine ru_iald (n := 2000) dX9_read_87 rfl rfl ((h.2 c1).1) ?_
    refine mK_invS (J := M_X9_isLetter) (k := 1) (as := [.int (σ.1 27 (x1).toNatClampNeg)]) (st := []) (c1 := 0) (s1 := 0) dX9_read_88 rfl jw_X9_isLetter jn_X9_isLetter rfl (Nat.le_of_ble_eq_true rfl) (Nat.zero_le _) (Nat.zero_le _) rfl kw_1231 kw_1232 ?_
    refine S_X9_isLetter (σ.1 27 (x1).toNatClampNeg) ?_
    show mK Γ M_X9_read (d + 2) Q n0 bc bs 91 [(0, .ref 26), (1, .int x1), (2, .int x1), (3, .long (Int32.toInt64 (σ.1 27 (x1).toNatClampNeg)))] [.int (f_X9_isLetter σ (σ.1 27 (x1).toNatClampNeg))] 60 mSH σ
    refine mK_if_eq (tgt := 170) dX9_read_91 rfl (by decide) (fun c2 => ?_) (fun c2 => ?_)
    · refine mK_aload_n dX9_read_170 rfl rfl (.head _) ?_
      refine ru_getR (k := 3) (ci := 8) (a := 27) dX9_read_171 rfl rfl rfl kw_1130 ?_
      refine mK_iload_n dX9_read_174 rfl rfl (.tail _ (.head _)) ?_
      refine ru_iald (n := 2000) dX9_read_175 rfl rfl ((h.2 c1).1) ?_
      refine mK_invS (J := M_X9_isDigit) (k := 1) (as := [.int (σ.1 27 (x1).toNatClampNeg)]) (st := []) (c1 := 0) (s1 := 0) dX9_read_176 rfl jw_X9_isDigit jn_X9_isDigit rfl (Nat.le_of_ble_eq_true rfl) (Nat.zero_le _) (Nat.zero_le _) rfl kw_1234 kw_1235 ?_
      refine S_X9_isDigit (σ.1 27 (x1).toNatClampNeg) ?_
      show mK Γ M_X9_read (d + 2) Q n0 bc bs 179 [(0, .ref 26), (1, .int x1), (2, .int x1), (3, .long (Int32.toInt64 (σ.1 27 (x1).toNatClampNeg)))] [.int (f_X9_isDigit σ (σ.1 27 (x1).toNatClampNeg))] 60 mSH σ
      refine mK_if_eq (tgt := 269) dX9_read_179 rfl (by decide) (fun c3 => ?_) (fun c3 => ?_)
      · refine ru_iinc (lv1 := [(0, .ref 26), (1, .int (x1 + 1)), (2, .int x1), (3, .long (Int32.toInt64 (σ.1 27 (x1).toNatClampNeg)))]) dX9_read_269 rfl (.tail _ (.head _)) qic_1 (by decide) rfl ?_
        refine mK_aload_n dX9_read_272 rfl rfl (.head _) ?_
        refine mK_lload_n dX9_read_273 rfl rfl (.tail _ (.tail _ (.tail _ (.head _)))) ?_
        refine mK_ldc2 dX9_read_274 rfl kw_1239 ?_
        refine ru_lif_eq (tgt := 297) dX9_read_277 rfl dX9_read_278 rfl (by decide) (fun c4 => ?_) (fun c4 => ?_)
        · refine mK_iconst dX9_read_297 rfl qic_4 ?_
          refine mK_goto (tgt := 302) dX9_read_298 (by decide) ?_
          refine mK_iload_n dX9_read_302 rfl rfl (.tail _ (.tail _ (.head _))) ?_
          refine mK_lload_n dX9_read_303 rfl rfl (.tail _ (.tail _ (.tail _ (.head _)))) ?_
          refine mK_invV (J := M_X9_token) (k := 3) (as := [.int 4, .int x1, .long (Int32.toInt64 (σ.1 27 (x1).toNatClampNeg))]) (st := []) (c1 := 0) (s1 := 0) dX9_read_304 rfl jw_X9_token jn_X9_token rfl (Nat.le_of_ble_eq_true rfl) (Nat.zero_le _) (Nat.zero_le _) rfl kw_1227 kw_1229 kw_40 (b := 26) (Nat.le_of_ble_eq_true rfl) (Nat.le_of_ble_eq_true rfl) rfl ?_
          refine S_X9_token_26 4 x1 (Int32.toInt64 (σ.1 27 (x1).toNatClampNeg)) (((((h.2 c1).2.1 c2).1 c3).1 c4).1) (fun z0 z1 => absurd z1 (by decide)) (((((h.2 c1).2.1 c2).1 c3).1 c4).2.1) ?_
          show mK Γ M_X9_read (d + 2) Q n0 bc bs 307 [(0, .ref 26), (1, .int (x1 + 1)), (2, .int x1), (3, .long (Int32.toInt64 (σ.1 27 (x1).toNatClampNeg)))] [] 60 mSH (g_X9_token_26 σ 4 x1 (Int32.toInt64 (σ.1 27 (x1).toNatClampNeg)))
          exact ru_pick [0, 1] rfl ((((h.2 c1).2.1 c2).1 c3).1 c4).2.2
        · refine mK_lload_n dX9_read_281 rfl rfl (.tail _ (.tail _ (.tail _ (.head _)))) ?_
          refine mK_ldc2 dX9_read_282 rfl kw_1240 ?_
          refine ru_lif_eq (tgt := 297) dX9_read_285 rfl dX9_read_286 rfl (by decide) (fun c5 => ?_) (fun c5 => ?_)
          · refine mK_iconst dX9_read_297 rfl qic_4 ?_
            refine mK_goto (tgt := 302) dX9_read_298 (by decide) ?_
            refine mK_iload_n dX9_read_302 rfl rfl (.tail _ (.tail _ (.head _))) ?_
            refine mK_lload_n dX9_read_303 rfl rfl (.tail _ (.tail _ (.tail _ (.head _)))) ?_
            refine mK_invV (J := M_X9_token) (k := 3) (as := [.int 4, .int x1, .long (Int32.toInt64 (σ.1 27 (x1).toNatClampNeg))]) (st := []) (c1 := 0) (s1 := 0) dX9_read_304 rfl jw_X9_token jn_X9_token rfl (Nat.le_of_ble_eq_true rfl) (Nat.zero_le _) (Nat.zero_le _) rfl kw_1227 kw_1229 kw_40 (b := 26) (Nat.le_of_ble_eq_true rfl) (Nat.le_of_ble_eq_true rfl) rfl ?_
            refine S_X9_token_26 4 x1 (Int32.toInt64 (σ.1 27 (x1).toNatClampNeg)) ((((((h.2 c1).2.1 c2).1 c3).2 c4).1 c5).1) (fun z0 z1 => absurd z1 (by decide)) ((((((h.2 c1).2.1 c2).1 c3).2 c4).1 c5).2.1) ?_
            show mK Γ M_X9_read (d + 2) Q n0 bc bs 307 [(0, .ref 26), (1, .int (x1 + 1)), (2, .int x1), (3, .long (Int32.toInt64 (σ.1 27 (x1).toNatClampNeg)))] [] 60 mSH (g_X9_token_26 σ 4 x1 (Int32.toInt64 (σ.1 27 (x1).toNatClampNeg)))
            exact ru_pick [0, 1] rfl (((((h.2 c1).2.1 c2).1 c3).2 c4).1 c5).2.2
          · refine mK_lload_n dX9_read_289 rfl rfl (.tail _ (.tail _ (.tail _ (.head _)))) ?_
            refine mK_ldc2 dX9_read_290 rfl kw_1241 ?_
            refine ru_lif_ne (tgt := 301) dX9_read_293 rfl dX9_read_294 rfl (by decide) (fun c6 => ?_) (fun c6 => ?_)
            · refine mK_iconst dX9_read_301 rfl qic_1 ?_
              refine mK_iload_n dX9_read_302 rfl rfl (.tail _ (.tail _ (.head _))) ?_
              refine mK_lload_n dX9_read_303 rfl rfl (.tail _ (.tail _ (.tail _ (.head _)))) ?_
              refine mK_invV (J := M_X9_token) (k := 3) (as := [.int 1, .int x1, .long (Int32.toInt64 (σ.1 27 (x1).toNatClampNeg))]) (st := []) (c1 := 0) (s1 := 0) dX9_read_304 rfl jw_X9_token jn_X9_token rfl (Nat.le_of_ble_eq_true rfl) (Nat.zero_le _) (Nat.zero_le _) rfl kw_1227 kw_1229 kw_40 (b := 26) (Nat.le_of_ble_eq_true rfl) (Nat.le_of_ble_eq_true rfl) rfl ?_
              refine S_X9_token_26 1 x1 (Int32.toInt64 (σ.1 27 (x1).toNatClampNeg)) (((((((h.2 c1).2.1 c2).1 c3).2 c4).2 c5).2 c6).1) (fun z0 z1 => absurd z1 (by decide)) (((((((h.2 c1).2.1 c2).1 c3).2 c4).2 c5).2 c6).2.1) ?_
              show mK Γ M_X9_read (d + 2) Q n0 bc bs 307 [(0, .ref 26), (1, .int (x1 + 1)), (2, .int x1), (3, .long (Int32.toInt64 (σ.1 27 (x1).toNatClampNeg)))] [] 60 mSH (g_X9_token_26 σ 1 x1 (Int32.toInt64 (σ.1 27 (x1).toNatClampNeg)))
              exact ru_pick [0, 1] rfl ((((((h.2 c1).2.1 c2).1 c3).2 c4).2 c5).2 c6).2.2
            · refine mK_iconst dX9_read_297 rfl qic_4 ?_
              refine mK_goto (tgt := 302) dX9_read_298 (by decide) ?_
              refine mK_iload_n dX9_read_302 rfl rfl (.tail _ (.tail _ (.head _))) ?_
              refine mK_lload_n dX9_read_303 rfl rfl (.tail _ (.tail _ (.tail _ (.head _)))) ?_
              refine mK_invV (J := M_X9_token) (k := 3) (as := [.int 4, .int x1, .long (Int32.toInt64 (σ.1 27 (x1).toNatClampNeg))]) (st := []) (c1 := 0) (s1 := 0) dX9_read_304 rfl jw_X9_token jn_X9_token rfl (Nat.le_of_ble_eq_true rfl) (Nat.zero_le _) (Nat.zero_le _) rfl kw_1227 kw_1229 kw_40 (b := 26) (Nat.le_of_ble_eq_true rfl) (Nat.le_of_ble_eq_true rfl) rfl ?_
              refine S_X9_token_26 4 x1 (Int32.toInt64 (σ.1 27 (x1).toNatClampNeg)) (((((((h.2 c1).2.1 c2).1 c3).2 c4).2 c5).1 c6).1) (fun z0 z1 => absurd z1 (by decide)) (((((((h.2 c1).2.1 c2).1 c3).2 c4).2 c5).1 c6).2.1) ?_
              show mK Γ M_X9_read (d + 2) Q n0 bc bs 307 [(0, .ref 26), (1, .int (x1 + 1)), (2, .int x1), (3, .long (Int32.toInt64 (σ.1 27 (x1).toNatClampNeg)))] [] 60 mSH (g_X9_token_26 σ 4 x1 (Int32.toInt64 (σ.1 27 (x1).toNatClampNeg)))
              exact ru_pick [0, 1] rfl ((((((h.2 c1).2.1 c2).1 c3).2 c4).2 c5).1 c6).2.2
      · refine mK_lload_n dX9_read_182 rfl rfl (.tail _ (.tail _ (.tail _ (.head _)))) ?_
        refine mK_ldc2 dX9_read_183 rfl kw_1237 ?_
        refine mK_lsub dX9_read_186 rfl ?_
        refine ru_lstore_n (lv1 := [(0, .ref 26), (1, .int x1), (2, .int x1), (3, .long ((Int32.toInt64 (σ.1 27 (x1).toNatClampNeg)) - 48))]) dX9_read_187 rfl rfl (by decide) rfl ?_
        refine ru_iinc (lv1 := [(0, .ref 26), (1, .int (x1 + 1)), (2, .int x1), (3, .long ((Int32.toInt64 (σ.1 27 (x1).toNatClampNeg)) - 48))]) dX9_read_188 rfl (.tail _ (.head _)) qic_1 (by decide) rfl ?_
        exact (((h.2 c1).2.1 c2).2 c3)
    · refine ru_iinc (lv1 := [(0, .ref 26), (1, .int (x1 + 1)), (2, .int x1), (3, .long (Int32.toInt64 (σ.1 27 (x1).toNatClampNeg)))]) dX9_read_94 rfl (.tail _ (.head _)) qic_1 (by decide) rfl ?_
      exact ((h.2 c1).2.2 c2)
  · refine mK_aload_n dX9_read_61 rfl rfl (.head _) ?_
    refine mK_iconst dX9_read_62 rfl qic_0 ?_
    refine mK_aload_n dX9_read_63 rfl rfl (.head _) ?_
    refine ru_getI (k := 2) (ci := 8) dX9_read_64 rfl rfl kw_1129 ?_
    refine mK_lconst dX9_read_67 rfl (v := 0) rfl ?_
    refine mK_invV (J := M_X9_token) (k := 3) (as := [.int 0, .int (σ.1 26 2), .long 0]) (st := []) (c1 := 0) (s1 := 0) dX9_read_68 rfl jw_X9_token jn_X9_token rfl (Nat.le_of_ble_eq_true rfl) (Nat.zero_le _) (Nat.zero_le _) rfl kw_1227 kw_1229 kw_40 (b := 26) (Nat.le_of_ble_eq_true rfl) (Nat.le_of_ble_eq_true rfl) rfl ?_
    refine S_X9_token_26 0 (σ.1 26 2) 0 ((h.1 c1).1) ((h.1 c1).2.1) (fun z0 z1 => absurd (by decide) z1) ?_
    show mK Γ M_X9_read (d + 2) Q n0 bc bs 71 [(0, .ref 26), (1, .int x1)] [] 60 mSH (g_X9_token_26 σ 0 (σ.1 26 2) 0)
    exact mK_vret dX9_read_71 rfl (h.1 c1).2.2
set_option maxRecDepth 20000 in
theorem T_X9_read_26_307 {Γ : Nat × (Nat → Int32)} {d n0 bc bs : Nat} {Q : mQ} {σ : mS} (x1 : Int32) (h : ((vp_in ((σ.1 26 6) - 1) 402) ∧ (((σ.1 29 ((σ.1 26 6) - 1).toNatClampNeg) = 1 → Q (.inl none) 60 mSH σ) ∧ (¬ ((σ.1 29 ((σ.1 26 6) - 1).toNatClampNeg) = 1) → mK Γ M_X9_read (d + 2) Q n0 bc bs 7 [(0, .ref 26), (1, .int x1)] [] 60 mSH σ)))) : mK Γ M_X9_read (d + 2) Q n0 bc bs 307 [(0, .ref 26), (1, .int x1)] [] 60 mSH σ := by
  refine mK_aload_n dX9_read_307 rfl rfl (.head _) ?_
  refine ru_getR (k := 7) (ci := 8) (a := 29) dX9_read_308 rfl rfl rfl kw_1134 ?_
  refine mK_aload_n dX9_read_311 rfl rfl (.head _) ?_
  refine ru_getI (k := 6) (ci := 8) dX9_read_312 rfl rfl kw_1133 ?_
  refine mK_iconst dX9_read_315 rfl qic_1 ?_
  refine mK_isub dX9_read_316 rfl ?_
  refine ru_iald (n := 402) dX9_read_317 rfl rfl (h.1) ?_
  refine mK_iconst dX9_read_318 rfl qic_1 ?_
  refine ru_icmp_ne (tgt := 323) dX9_read_319 rfl (by decide) (fun c1 => ?_) (fun c1 => ?_)
  · refine mK_goto (tgt := 7) dX9_read_323 (by decide) ?_
    exact (h.2.2 c1)
  · exact mK_vret dX9_read_322 rfl (h.2.1 c1)
set_option maxRecDepth 20000 in
theorem T_X9_read_26_191 {Γ : Nat × (Nat → Int32)} {d n0 bc bs : Nat} {Q : mQ} {σ : mS} (x1 : Int32) (x2 : Int32) (x3 : Int64) (h : (((σ.1 26 2) ≤ x1 → ((6 < (x1 - x2) → ((¬ ((σ.1 26 6) = 400) → vp_in (σ.1 26 6) 402) ∧ ((((σ.1 26 6) = 400) → ¬ ((1 : Int32) = 0) → vp_in (σ.1 26 6) 402) ∧ mK Γ M_X9_read (d + 2) Q n0 bc bs 307 [(0, .ref 26), (1, .int x1)] [] 60 mSH (g_X9_token_26 σ 1 x2 x3)))) ∧ (¬ (6 < (x1 - x2)) → ((¬ ((σ.1 26 6) = 400) → vp_in (σ.1 26 6) 402) ∧ ((((σ.1 26 6) = 400) → ¬ ((3 : Int32) = 0) → vp_in (σ.1 26 6) 402) ∧ mK Γ M_X9_read (d + 2) Q n0 bc bs 307 [(0, .ref 26), (1, .int x1)] [] 60 mSH (g_X9_token_26 σ 3 x2 x3)))))) ∧ (¬ ((σ.1 26 2) ≤ x1) → ((vp_in x1 2000) ∧ (((f_X9_isDigit σ (σ.1 27 (x1).toNatClampNeg)) = 0 → ((6 < (x1 - x2) → ((¬ ((σ.1 26 6) = 400) → vp_in (σ.1 26 6) 402) ∧ ((((σ.1 26 6) = 400) → ¬ ((1 : Int32) = 0) → vp_in (σ.1 26 6) 402) ∧ mK Γ M_X9_read (d + 2) Q n0 bc bs 307 [(0, .ref 26), (1, .int x1)] [] 60 mSH (g_X9_token_26 σ 1 x2 x3)))) ∧ (¬ (6 < (x1 - x2)) → ((¬ ((σ.1 26 6) = 400) → vp_in (σ.1 26 6) 402) ∧ ((((σ.1 26 6) = 400) → ¬ ((3 : Int32) = 0) → vp_in (σ.1 26 6) 402) ∧ mK Γ M_X9_read (d + 2) Q n0 bc bs 307 [(0, .ref 26), (1, .int x1)] [] 60 mSH (g_X9_token_26 σ 3 x2 x3)))))) ∧ (¬ ((f_X9_isDigit σ (σ.1 27 (x1).toNatClampNeg)) = 0) → ((6 ≤ (x1 - x2) → mK Γ M_X9_read (d + 2) Q n0 bc bs 191 [(0, .ref 26), (1, .int (x1 + 1)), (2, .int x2), (3, .long x3)] [] 60 mSH σ) ∧ (¬ (6 ≤ (x1 - x2)) → mK Γ M_X9_read (d + 2) Q n0 bc bs 191 [(0, .ref 26), (1, .int (x1 + 1)), (2, .int x2), (3, .long (((10 * x3) + (Int32.toInt64 (σ.1 27 (x1).toNatClampNeg))) - 48))] [] 60 mSH σ)))))))) : mK Γ M_X9_read (d + 2) Q n0 bc bs 191 [(0, .ref 26), (1, .int x1), (2, .int x2), (3, .long x3)] [] 60 mSH σ := by
  refine mK_iload_n dX9_read_191 rfl rfl (.tail _ (.head _)) ?_
  refine mK_aload_n dX9_read_192 rfl rfl (.head _) ?_
  refine ru_getI (k := 2) (ci := 8) dX9_read_193 rfl rfl kw_1129 ?_
  refine mK_icmp_ge (tgt := 247) dX9_read_196 rfl (by decide) (fun c1 => ?_) (fun c1 => ?_)
  · refine mK_aload_n dX9_read_247 rfl rfl (.head _) ?_
    refine mK_iload_n dX9_read_248 rfl rfl (.tail _ (.head _)) ?_
    refine mK_iload_n dX9_read_249 rfl rfl (.tail _ (.tail _ (.head _))) ?_
    refine mK_isub dX9_read_250 rfl ?_
    refine mK_bipush dX9_read_251 rfl qbi_6 ?_
    refine mK_icmp_gt (tgt := 260) dX9_read_253 rfl (by decide) (fun c2 => ?_) (fun c2 => ?_)
    · refine mK_iconst dX9_read_260 rfl qic_1 ?_
      refine mK_iload_n dX9_read_261 rfl rfl (.tail _ (.tail _ (.head _))) ?_
      refine mK_lload_n dX9_read_262 rfl rfl (.tail _ (.tail _ (.tail _ (.head _)))) ?_
      refine mK_invV (J := M_X9_token) (k := 3) (as := [.int 1, .int x2, .long x3]) (st := []) (c1 := 0) (s1 := 0) dX9_read_263 rfl jw_X9_token jn_X9_token rfl (Nat.le_of_ble_eq_true rfl) (Nat.zero_le _) (Nat.zero_le _) rfl kw_1227 kw_1229 kw_40 (b := 26) (Nat.le_of_ble_eq_true rfl) (Nat.le_of_ble_eq_true rfl) rfl ?_
      refine S_X9_token_26 1 x2 x3 (((h.1 c1).1 c2).1) (fun z0 z1 => absurd z1 (by decide)) (((h.1 c1).1 c2).2.1) ?_
      show mK Γ M_X9_read (d + 2) Q n0 bc bs 266 [(0, .ref 26), (1, .int x1), (2, .int x2), (3, .long x3)] [] 60 mSH (g_X9_token_26 σ 1 x2 x3)
      refine mK_goto (tgt := 307) dX9_read_266 (by decide) ?_
      exact ru_pick [0, 1] rfl ((h.1 c1).1 c2).2.2
    · refine mK_iconst dX9_read_256 rfl qic_3 ?_
      refine mK_goto (tgt := 261) dX9_read_257 (by decide) ?_
      refine mK_iload_n dX9_read_261 rfl rfl (.tail _ (.tail _ (.head _))) ?_
      refine mK_lload_n dX9_read_262 rfl rfl (.tail _ (.tail _ (.tail _ (.head _)))) ?_
      refine mK_invV (J := M_X9_token) (k := 3) (as := [.int 3, .int x2, .long x3]) (st := []) (c1 := 0) (s1 := 0) dX9_read_263 rfl jw_X9_token jn_X9_token rfl (Nat.le_of_ble_eq_true rfl) (Nat.zero_le _) (Nat.zero_le _) rfl kw_1227 kw_1229 kw_40 (b := 26) (Nat.le_of_ble_eq_true rfl) (Nat.le_of_ble_eq_true rfl) rfl ?_
      refine S_X9_token_26 3 x2 x3 (((h.1 c1).2 c2).1) (fun z0 z1 => absurd z1 (by decide)) (((h.1 c1).2 c2).2.1) ?_
      show mK Γ M_X9_read (d + 2) Q n0 bc bs 266 [(0, .ref 26), (1, .int x1), (2, .int x2), (3, .long x3)] [] 60 mSH (g_X9_token_26 σ 3 x2 x3)
      refine mK_goto (tgt := 307) dX9_read_266 (by decide) ?_
      exact ru_pick [0, 1] rfl ((h.1 c1).2 c2).2.2
  · refine mK_aload_n dX9_read_199 rfl rfl (.head _) ?_
    refine ru_getR (k := 3) (ci := 8) (a := 27) dX9_read_200 rfl rfl rfl kw_1130 ?_
    refine mK_iload_n dX9_read_203 rfl rfl (.tail _ (.head _)) ?_
    refine ru_iald (n := 2000) dX9_read_204 rfl rfl ((h.2 c1).1) ?_
    refine mK_invS (J := M_X9_isDigit) (k := 1) (as := [.int (σ.1 27 (x1).toNatClampNeg)]) (st := []) (c1 := 0) (s1 := 0) dX9_read_205 rfl jw_X9_isDigit jn_X9_isDigit rfl (Nat.le_of_ble_eq_true rfl) (Nat.zero_le _) (Nat.zero_le _) rfl kw_1234 kw_1235 ?_
    refine S_X9_isDigit (σ.1 27 (x1).toNatClampNeg) ?_
    show mK Γ M_X9_read (d + 2) Q n0 bc bs 208 [(0, .ref 26), (1, .int x1), (2, .int x2), (3, .long x3)] [.int (f_X9_isDigit σ (σ.1 27 (x1).toNatClampNeg))] 60 mSH σ
    refine mK_if_eq (tgt := 247) dX9_read_208 rfl (by decide) (fun c3 => ?_) (fun c3 => ?_)
    · refine mK_aload_n dX9_read_247 rfl rfl (.head _) ?_
      refine mK_iload_n dX9_read_248 rfl rfl (.tail _ (.head _)) ?_
      refine mK_iload_n dX9_read_249 rfl rfl (.tail _ (.tail _ (.head _))) ?_
      refine mK_isub dX9_read_250 rfl ?_
      refine mK_bipush dX9_read_251 rfl qbi_6 ?_
      refine mK_icmp_gt (tgt := 260) dX9_read_253 rfl (by decide) (fun c4 => ?_) (fun c4 => ?_)
      · refine mK_iconst dX9_read_260 rfl qic_1 ?_
        refine mK_iload_n dX9_read_261 rfl rfl (.tail _ (.tail _ (.head _))) ?_
        refine mK_lload_n dX9_read_262 rfl rfl (.tail _ (.tail _ (.tail _ (.head _)))) ?_
        refine mK_invV (J := M_X9_token) (k := 3) (as := [.int 1, .int x2, .long x3]) (st := []) (c1 := 0) (s1 := 0) dX9_read_263 rfl jw_X9_token jn_X9_token rfl (Nat.le_of_ble_eq_true rfl) (Nat.zero_le _) (Nat.zero_le _) rfl kw_1227 kw_1229 kw_40 (b := 26) (Nat.le_of_ble_eq_true rfl) (Nat.le_of_ble_eq_true rfl) rfl ?_
        refine S_X9_token_26 1 x2 x3 ((((h.2 c1).2.1 c3).1 c4).1) (fun z0 z1 => absurd z1 (by decide)) ((((h.2 c1).2.1 c3).1 c4).2.1) ?_
        show mK Γ M_X9_read (d + 2) Q n0 bc bs 266 [(0, .ref 26), (1, .int x1), (2, .int x2), (3, .long x3)] [] 60 mSH (g_X9_token_26 σ 1 x2 x3)
        refine mK_goto (tgt := 307) dX9_read_266 (by decide) ?_
        exact ru_pick [0, 1] rfl (((h.2 c1).2.1 c3).1 c4).2.2
      · refine mK_iconst dX9_read_256 rfl qic_3 ?_
        refine mK_goto (tgt := 261) dX9_read_257 (by decide) ?_
        refine mK_iload_n dX9_read_261 rfl rfl (.tail _ (.tail _ (.head _))) ?_
        refine mK_lload_n dX9_read_262 rfl rfl (.tail _ (.tail _ (.tail _ (.head _)))) ?_
        refine mK_invV (J := M_X9_token) (k := 3) (as := [.int 3, .int x2, .long x3]) (st := []) (c1 := 0) (s1 := 0) dX9_read_263 rfl jw_X9_token jn_X9_token rfl (Nat.le_of_ble_eq_true rfl) (Nat.zero_le _) (Nat.zero_le _) rfl kw_1227 kw_1229 kw_40 (b := 26) (Nat.le_of_ble_eq_true rfl) (Nat.le_of_ble_eq_true rfl) rfl ?_
        refine S_X9_token_26 3 x2 x3 ((((h.2 c1).2.1 c3).2 c4).1) (fun z0 z1 => absurd z1 (by decide)) ((((h.2 c1).2.1 c3).2 c4).2.1) ?_
        show mK Γ M_X9_read (d + 2) Q n0 bc bs 266 [(0, .ref 26), (1, .int x1), (2, .int x2), (3, .long x3)] [] 60 mSH (g_X9_token_26 σ 3 x2 x3)
        refine mK_goto (tgt := 307) dX9_read_266 (by decide) ?_
        exact ru_pick [0, 1] rfl (((h.2 c1).2.1 c3).2 c4).2.2
    · refine mK_iload_n dX9_read_211 rfl rfl (.tail _ (.head _)) ?_
      refine mK_iload_n dX9_read_212 rfl rfl (.tail _ (.tail _ (.head _))) ?_
      refine mK_isub dX9_read_213 rfl ?_
      refine mK_bipush dX9_read_214 rfl qbi_6 ?_
      refine mK_icmp_ge (tgt := 239) dX9_read_216 rfl (by decide) (fun c5 => ?_) (fun c5 => ?_)
      · refine mK_lload_n dX9_read_239 rfl rfl (.tail _ (.tail _ (.tail _ (.head _)))) ?_
        refine ru_lstore_n (lv1 := [(0, .ref 26), (1, .int x1), (2, .int x2), (3, .long x3)]) dX9_read_240 rfl rfl (by decide) rfl ?_
        refine ru_iinc (lv1 := [(0, .ref 26), (1, .int (x1 + 1)), (2, .int x2), (3, .long x3)]) dX9_read_241 rfl (.tail _ (.head _)) qic_1 (by decide) rfl ?_
        refine mK_goto (tgt := 191) dX9_read_244 (by decide) ?_
        exact (((h.2 c1).2.2 c3).1 c5)
      · refine mK_ldc2 dX9_read_219 rfl kw_1238 ?_
        refine mK_lload_n dX9_read_222 rfl rfl (.tail _ (.tail _ (.tail _ (.head _)))) ?_
        refine mK_lmul dX9_read_223 rfl ?_
        refine mK_aload_n dX9_read_224 rfl rfl (.head _) ?_
        refine ru_getR (k := 3) (ci := 8) (a := 27) dX9_read_225 rfl rfl rfl kw_1130 ?_
        refine mK_iload_n dX9_read_228 rfl rfl (.tail _ (.head _)) ?_
        refine ru_iald (n := 2000) dX9_read_229 rfl rfl ((h.2 c1).1) ?_
        refine mK_i2l dX9_read_230 rfl ?_
        refine mK_ladd dX9_read_231 rfl ?_
        refine mK_ldc2 dX9_read_232 rfl kw_1237 ?_
        refine mK_lsub dX9_read_235 rfl ?_
        refine mK_goto (tgt := 240) dX9_read_236 (by decide) ?_
        refine ru_lstore_n (lv1 := [(0, .ref 26), (1, .int x1), (2, .int x2), (3, .long (((10 * x3) + (Int32.toInt64 (σ.1 27 (x1).toNatClampNeg))) - 48))]) dX9_read_240 rfl rfl (by decide) rfl ?_
        refine ru_iinc (lv1 := [(0, .ref 26), (1, .int (x1 + 1)), (2, .int x2), (3, .long (((10 * x3) + (Int32.toInt64 (σ.1 27 (x1).toNatClampNeg))) - 48))]) dX9_read_241 rfl (.tail _ (.head _)) qic_1 (by decide) rfl ?_
        refine mK_goto (tgt := 191) dX9_read_244 (by decide) ?_
        exact (((h.2 c1).2.2 c3).2 c5)
set_option maxRecDepth 20000 in
theorem T_X9_read_26_97 {Γ : Nat × (Nat → Int32)} {d n0 bc bs : Nat} {Q : mQ} {σ : mS} (x1 : Int32) (x2 : Int32) (x3 : Int64) (h : (((σ.1 26 2) ≤ x1 → ((8 < (x1 - x2) → ((¬ ((σ.1 26 6) = 400) → vp_in (σ.1 26 6) 402) ∧ ((((σ.1 26 6) = 400) → ¬ ((1 : Int32) = 0) → vp_in (σ.1 26 6) 402) ∧ mK Γ M_X9_read (d + 2) Q n0 bc bs 307 [(0, .ref 26), (1, .int x1)] [] 60 mSH (g_X9_token_26 σ 1 x2 x3)))) ∧ (¬ (8 < (x1 - x2)) → ((¬ ((σ.1 26 6) = 400) → vp_in (σ.1 26 6) 402) ∧ ((((σ.1 26 6) = 400) → ¬ ((2 : Int32) = 0) → vp_in (σ.1 26 6) 402) ∧ mK Γ M_X9_read (d + 2) Q n0 bc bs 307 [(0, .ref 26), (1, .int x1)] [] 60 mSH (g_X9_token_26 σ 2 x2 x3)))))) ∧ (¬ ((σ.1 26 2) ≤ x1) → ((vp_in x1 2000) ∧ (((f_X9_isLetter σ (σ.1 27 (x1).toNatClampNeg)) = 0 → (((f_X9_isDigit σ (σ.1 27 (x1).toNatClampNeg)) = 0 → ((8 < (x1 - x2) → ((¬ ((σ.1 26 6) = 400) → vp_in (σ.1 26 6) 402) ∧ ((((σ.1 26 6) = 400) → ¬ ((1 : Int32) = 0) → vp_in (σ.1 26 6) 402) ∧ mK Γ M_X9_read (d + 2) Q n0 bc bs 307 [(0, .ref 26), (1, .int x1)] [] 60 mSH (g_X9_token_26 σ 1 x2 x3)))) ∧ (¬ (8 < (x1 - x2)) → ((¬ ((σ.1 26 6) = 400) → vp_in (σ.1 26 6) 402) ∧ ((((σ.1 26 6) = 400) → ¬ ((2 : Int32) = 0) → vp_in (σ.1 26 6) 402) ∧ mK Γ M_X9_read (d + 2) Q n0 bc bs 307 [(0, .ref 26), (1, .int x1)] [] 60 mSH (g_X9_token_26 σ 2 x2 x3)))))) ∧ (¬ ((f_X9_isDigit σ (σ.1 27 (x1).toNatClampNeg)) = 0) → mK Γ M_X9_read (d + 2) Q n0 bc bs 97 [(0, .ref 26), (1, .int (x1 + 1)), (2, .int x2), (3, .long ((x3 <<< (Int32.toInt64 8 &&& 63)) ||| (Int32.toInt64 (σ.1 27 (x1).toNatClampNeg))))] [] 60 mSH σ))) ∧ (¬ ((f_X9_isLetter σ (σ.1 27 (x1).toNatClampNeg)) = 0) → mK Γ M_X9_read (d + 2) Q n0 bc bs 97 [(0, .ref 26), (1, .int (x1 + 1)), (2, .int x2), (3, .long ((x3 <<< (Int32.toInt64 8 &&& 63)) ||| (Int32.toInt64 (σ.1 27 (x1).toNatClampNeg))))] [] 60 mSH σ)))))) : mK Γ M_X9_read (d + 2) Q n0 bc bs 97 [(0, .ref 26), (1, .int x1), (2, .int x2), (3, .long x3)] [] 60 mSH σ := by
  refine mK_iload_n dX9_read_97 rfl rfl (.tail _ (.head _)) ?_
  refine mK_aload_n dX9_read_98 rfl rfl (.head _) ?_
  refine ru_getI (k := 2) (ci := 8) dX9_read_99 rfl rfl kw_1129 ?_
  refine mK_icmp_ge (tgt := 148) dX9_read_102 rfl (by decide) (fun c1 => ?_) (fun c1 => ?_)
  · refine mK_aload_n dX9_read_148 rfl rfl (.head _) ?_
    refine mK_iload_n dX9_read_149 rfl rfl (.tail _ (.head _)) ?_
    refine mK_iload_n dX9_read_150 rfl rfl (.tail _ (.tail _ (.head _))) ?_
    refine mK_isub dX9_read_151 rfl ?_
    refine mK_bipush dX9_read_152 rfl qbi_8 ?_
    refine mK_icmp_gt (tgt := 161) dX9_read_154 rfl (by decide) (fun c2 => ?_) (fun c2 => ?_)
    · refine mK_iconst dX9_read_161 rfl qic_1 ?_
      refine mK_iload_n dX9_read_162 rfl rfl (.tail _ (.tail _ (.head _))) ?_
      refine mK_lload_n dX9_read_163 rfl rfl (.tail _ (.tail _ (.tail _ (.head _)))) ?_
      refine mK_invV (J := M_X9_token) (k := 3) (as := [.int 1, .int x2, .long x3]) (st := []) (c1 := 0) (s1 := 0) dX9_read_164 rfl jw_X9_token jn_X9_token rfl (Nat.le_of_ble_eq_true rfl) (Nat.zero_le _) (Nat.zero_le _) rfl kw_1227 kw_1229 kw_40 (b := 26) (Nat.le_of_ble_eq_true rfl) (Nat.le_of_ble_eq_true rfl) rfl ?_
      refine S_X9_token_26 1 x2 x3 (((h.1 c1).1 c2).1) (fun z0 z1 => absurd z1 (by decide)) (((h.1 c1).1 c2).2.1) ?_
      show mK Γ M_X9_read (d + 2) Q n0 bc bs 167 [(0, .ref 26), (1, .int x1), (2, .int x2), (3, .long x3)] [] 60 mSH (g_X9_token_26 σ 1 x2 x3)
      refine mK_goto (tgt := 307) dX9_read_167 (by decide) ?_
      exact ru_pick [0, 1] rfl ((h.1 c1).1 c2).2.2
    · refine mK_iconst dX9_read_157 rfl qic_2 ?_
      refine mK_goto (tgt := 162) dX9_read_158 (by decide) ?_
      refine mK_iload_n dX9_read_162 rfl rfl (.tail _ (.tail _ (.head _))) ?_
      refine mK_lload_n dX9_read_163 rfl rfl (.tail _ (.tail _ (.tail _ (.head _)))) ?_
      refine mK_invV (J := M_X9_token) (k := 3) (as := [.int 2, .int x2, .long x3]) (st := []) (c1 := 0) (s1 := 0) dX9_read_164 rfl jw_X9_token jn_X9_token rfl (Nat.le_of_ble_eq_true rfl) (Nat.zero_le _) (Nat.zero_le _) rfl kw_1227 kw_1229 kw_40 (b := 26) (Nat.le_of_ble_eq_true rfl) (Nat.le_of_ble_eq_true rfl) rfl ?_
      refine S_X9_token_26 2 x2 x3 (((h.1 c1).2 c2).1) (fun z0 z1 => absurd z1 (by decide)) (((h.1 c1).2 c2).2.1) ?_
      show mK Γ M_X9_read (d + 2) Q n0 bc bs 167 [(0, .ref 26), (1, .int x1), (2, .int x2), (3, .long x3)] [] 60 mSH (g_X9_token_26 σ 2 x2 x3)
      refine mK_goto (tgt := 307) dX9_read_167 (by decide) ?_
      exact ru_pick [0, 1] rfl ((h.1 c1).2 c2).2.2
  · refine mK_aload_n dX9_read_105 rfl rfl (.head _) ?_
    refine ru_getR (k := 3) (ci := 8) (a := 27) dX9_read_106 rfl rfl rfl kw_1130 ?_
    refine mK_iload_n dX9_read_109 rfl rfl (.tail _ (.head _)) ?_
    refine ru_iald (n := 2000) dX9_read_110 rfl rfl ((h.2 c1).1) ?_
    refine mK_invS (J := M_X9_isLetter) (k := 1) (as := [.int (σ.1 27 (x1).toNatClampNeg)]) (st := []) (c1 := 0) (s1 := 0) dX9_read_111 rfl jw_X9_isLetter jn_X9_isLetter rfl (Nat.le_of_ble_eq_true rfl) (Nat.zero_le _) (Nat.zero_le _) rfl kw_1231 kw_1232 ?_
    refine S_X9_isLetter (σ.1 27 (x1).toNatClampNeg) ?_
    show mK Γ M_X9_read (d + 2) Q n0 bc bs 114 [(0, .ref 26), (1, .int x1), (2, .int x2), (3, .long x3)] [.int (f_X9_isLetter σ (σ.1 27 (x1).toNatClampNeg))] 60 mSH σ
    refine ru_if_ne (tgt := 129) dX9_read_114 rfl (by decide) (fun c3 => ?_) (fun c3 => ?_)
    · refine mK_lload_n dX9_read_129 rfl rfl (.tail _ (.tail _ (.tail _ (.head _)))) ?_
      refine mK_bipush dX9_read_130 rfl qbi_8 ?_
      refine mK_lshl dX9_read_132 rfl ?_
      refine mK_aload_n dX9_read_133 rfl rfl (.head _) ?_
      refine ru_getR (k := 3) (ci := 8) (a := 27) dX9_read_134 rfl rfl rfl kw_1130 ?_
      refine mK_iload_n dX9_read_137 rfl rfl (.tail _ (.head _)) ?_
      refine ru_iald (n := 2000) dX9_read_138 rfl rfl ((h.2 c1).1) ?_
      refine mK_i2l dX9_read_139 rfl ?_
      refine mK_lor dX9_read_140 rfl ?_
      refine ru_lstore_n (lv1 := [(0, .ref 26), (1, .int x1), (2, .int x2), (3, .long ((x3 <<< (Int32.toInt64 8 &&& 63)) ||| (Int32.toInt64 (σ.1 27 (x1).toNatClampNeg))))]) dX9_read_141 rfl rfl (by decide) rfl ?_
      refine ru_iinc (lv1 := [(0, .ref 26), (1, .int (x1 + 1)), (2, .int x2), (3, .long ((x3 <<< (Int32.toInt64 8 &&& 63)) ||| (Int32.toInt64 (σ.1 27 (x1).toNatClampNeg))))]) dX9_read_142 rfl (.tail _ (.head _)) qic_1 (by decide) rfl ?_
      refine mK_goto (tgt := 97) dX9_read_145 (by decide) ?_
      exact ((h.2 c1).2.2 c3)
    · refine mK_aload_n dX9_read_117 rfl rfl (.head _) ?_
      refine ru_getR (k := 3) (ci := 8) (a := 27) dX9_read_118 rfl rfl rfl kw_1130 ?_
      refine mK_iload_n dX9_read_121 rfl rfl (.tail _ (.head _)) ?_
      refine ru_iald (n := 2000) dX9_read_122 rfl rfl ((h.2 c1).1) ?_
      refine mK_invS (J := M_X9_isDigit) (k := 1) (as := [.int (σ.1 27 (x1).toNatClampNeg)]) (st := []) (c1 := 0) (s1 := 0) dX9_read_123 rfl jw_X9_isDigit jn_X9_isDigit rfl (Nat.le_of_ble_eq_true rfl) (Nat.zero_le _) (Nat.zero_le _) rfl kw_1234 kw_1235 ?_
      refine S_X9_isDigit (σ.1 27 (x1).toNatClampNeg) ?_
      show mK Γ M_X9_read (d + 2) Q n0 bc bs 126 [(0, .ref 26), (1, .int x1), (2, .int x2), (3, .long x3)] [.int (f_X9_isDigit σ (σ.1 27 (x1).toNatClampNeg))] 60 mSH σ
      refine mK_if_eq (tgt := 148) dX9_read_126 rfl (by decide) (fun c4 => ?_) (fun c4 => ?_)
      · refine mK_aload_n dX9_read_148 rfl rfl (.head _) ?_
        refine mK_iload_n dX9_read_149 rfl rfl (.tail _ (.head _)) ?_
        refine mK_iload_n dX9_read_150 rfl rfl (.tail _ (.tail _ (.head _))) ?_
        refine mK_isub dX9_read_151 rfl ?_
        refine mK_bipush dX9_read_152 rfl qbi_8 ?_
        refine mK_icmp_gt (tgt := 161) dX9_read_154 rfl (by decide) (fun c5 => ?_) (fun c5 => ?_)
        · refine mK_iconst dX9_read_161 rfl qic_1 ?_
          refine mK_iload_n dX9_read_162 rfl rfl (.tail _ (.tail _ (.head _))) ?_
          refine mK_lload_n dX9_read_163 rfl rfl (.tail _ (.tail _ (.tail _ (.head _)))) ?_
          refine mK_invV (J := M_X9_token) (k := 3) (as := [.int 1, .int x2, .long x3]) (st := []) (c1 := 0) (s1 := 0) dX9_read_164 rfl jw_X9_token jn_X9_token rfl (Nat.le_of_ble_eq_true rfl) (Nat.zero_le _) (Nat.zero_le _) rfl kw_1227 kw_1229 kw_40 (b := 26) (Nat.le_of_ble_eq_true rfl) (Nat.le_of_ble_eq_true rfl) rfl ?_
          refine S_X9_token_26 1 x2 x3 (((((h.2 c1).2.1 c3).1 c4).1 c5).1) (fun z0 z1 => absurd z1 (by decide)) (((((h.2 c1).2.1 c3).1 c4).1 c5).2.1) ?_
          show mK Γ M_X9_read (d + 2) Q n0 bc bs 167 [(0, .ref 26), (1, .int x1), (2, .int x2), (3, .long x3)] [] 60 mSH (g_X9_token_26 σ 1 x2 x3)
          refine mK_goto (tgt := 307) dX9_read_167 (by decide) ?_
          exact ru_pick [0, 1] rfl ((((h.2 c1).2.1 c3).1 c4).1 c5).2.2
        · refine mK_iconst dX9_read_157 rfl qic_2 ?_
          refine mK_goto (tgt := 162) dX9_read_158 (by decide) ?_
          refine mK_iload_n dX9_read_162 rfl rfl (.tail _ (.tail _ (.head _))) ?_
          refine mK_lload_n dX9_read_163 rfl rfl (.tail _ (.tail _ (.tail _ (.head _)))) ?_
          refine mK_invV (J := M_X9_token) (k := 3) (as := [.int 2, .int x2, .long x3]) (st := []) (c1 := 0) (s1 := 0) dX9_read_164 rfl jw_X9_token jn_X9_token rfl (Nat.le_of_ble_eq_true rfl) (Nat.zero_le _) (Nat.zero_le _) rfl kw_1227 kw_1229 kw_40 (b := 26) (Nat.le_of_ble_eq_true rfl) (Nat.le_of_ble_eq_true rfl) rfl ?_
          refine S_X9_token_26 2 x2 x3 (((((h.2 c1).2.1 c3).1 c4).2 c5).1) (fun z0 z1 => absurd z1 (by decide)) (((((h.2 c1).2.1 c3).1 c4).2 c5).2.1) ?_
          show mK Γ M_X9_read (d + 2) Q n0 bc bs 167 [(0, .ref 26), (1, .int x1), (2, .int x2), (3, .long x3)] [] 60 mSH (g_X9_token_26 σ 2 x2 x3)
          refine mK_goto (tgt := 307) dX9_read_167 (by decide) ?_
          exact ru_pick [0, 1] rfl ((((h.2 c1).2.1 c3).1 c4).2 c5).2.2
      · refine mK_lload_n dX9_read_129 rfl rfl (.tail _ (.tail _ (.tail _ (.head _)))) ?_
        refine mK_bipush dX9_read_130 rfl qbi_8 ?_
        refine mK_lshl dX9_read_132 rfl ?_
        refine mK_aload_n dX9_read_133 rfl rfl (.head _) ?_
        refine ru_getR (k := 3) (ci := 8) (a := 27) dX9_read_134 rfl rfl rfl kw_1130 ?_
        refine mK_iload_n dX9_read_137 rfl rfl (.tail _ (.head _)) ?_
        refine ru_iald (n := 2000) dX9_read_138 rfl rfl ((h.2 c1).1) ?_
        refine mK_i2l dX9_read_139 rfl ?_
        refine mK_lor dX9_read_140 rfl ?_
        refine ru_lstore_n (lv1 := [(0, .ref 26), (1, .int x1), (2, .int x2), (3, .long ((x3 <<< (Int32.toInt64 8 &&& 63)) ||| (Int32.toInt64 (σ.1 27 (x1).toNatClampNeg))))]) dX9_read_141 rfl rfl (by decide) rfl ?_
        refine ru_iinc (lv1 := [(0, .ref 26), (1, .int (x1 + 1)), (2, .int x2), (3, .long ((x3 <<< (Int32.toInt64 8 &&& 63)) ||| (Int32.toInt64 (σ.1 27 (x1).toNatClampNeg))))]) dX9_read_142 rfl (.tail _ (.head _)) qic_1 (by decide) rfl ?_
        refine mK_goto (tgt := 97) dX9_read_145 (by decide) ?_
        exact (((h.2 c1).2.1 c3).2 c4)
