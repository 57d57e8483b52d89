set_option maxRecDepth 20000 in
theorem E_X4_leadOf_16 {Γ : Nat × (Nat → Int32)} {d : Nat} {Q : mQ} {σ : mS} (a1 : Int32) (h : mCall Γ M_X4_scoreOf (d + 1) 0 0 [.ref 16, .int a1] 60 mSH σ (mRt Γ M_X4_leadOf (d + 2) Q 60 0 0 5 [(0, .ref 16), (1, .int a1)] [])) : mCall Γ M_X4_leadOf (d + 2) 0 0 [.ref 16, .int a1] 60 mSH σ Q := by
  refine mCall_of rfl (by decide) (Nat.le_of_ble_eq_true rfl) (mOkC (mOk_lo (Nat.le_of_ble_eq_true rfl)) (mOkC mOk_i mOkN)) ?_
  show mK Γ M_X4_leadOf (d + 2) Q 60 0 0 0 [(0, .ref 16), (1, .int a1)] [] 60 mSH σ
  refine mK_aload_n dX4_leadOf_0 rfl rfl (.head _) ?_
  refine mK_iload_n dX4_leadOf_1 rfl rfl (.tail _ (.head _)) ?_
  refine mK_invV (J := M_X4_scoreOf) (k := 1) (as := [.int a1]) (st := []) (c1 := 0) (s1 := 0) dX4_leadOf_2 rfl jw_X4_scoreOf jn_X4_scoreOf rfl (Nat.le_of_ble_eq_true rfl) (Nat.zero_le _) (Nat.zero_le _) rfl kw_875 kw_703 kw_704 (b := 16) (Nat.le_of_ble_eq_true rfl) (Nat.le_of_ble_eq_true rfl) rfl ?_
  exact h
set_option maxRecDepth 20000 in
theorem T_X4_leadOf_16_5a {Γ : Nat × (Nat → Int32)} {d n0 bc bs : Nat} {Q : mQ} {σ : mS} (x1 : Int32) (r : Int32) (h : mK Γ M_X4_leadOf (d + 2) Q n0 bc bs 14 [(0, .ref 16), (1, .int x1), (2, .int r), (3, .int 1), (4, .int 0), (5, .int 0)] [] 60 mSH σ) : mRt Γ M_X4_leadOf (d + 2) Q n0 bc bs 5 [(0, .ref 16), (1, .int x1)] [] (.inl (some (.int r))) 60 mSH σ := by
  show mK Γ M_X4_leadOf (d + 2) Q n0 bc bs 5 [(0, .ref 16), (1, .int x1)] [.int r] 60 mSH σ
  refine ru_istore_n (lv1 := [(0, .ref 16), (1, .int x1), (2, .int r)]) dX4_leadOf_5 rfl rfl (by decide) rfl ?_
  refine mK_iconst dX4_leadOf_6 rfl qic_1 ?_
  refine ru_istore_n (lv1 := [(0, .ref 16), (1, .int x1), (2, .int r), (3, .int 1)]) dX4_leadOf_7 rfl rfl (by decide) rfl ?_
  refine mK_iconst dX4_leadOf_8 rfl qic_0 ?_
  refine ru_istore (lv1 := [(0, .ref 16), (1, .int x1), (2, .int r), (3, .int 1), (4, .int 0)]) dX4_leadOf_9 rfl (by decide) rfl ?_
  refine mK_iconst dX4_leadOf_11 rfl qic_0 ?_
  refine ru_istore (lv1 := [(0, .ref 16), (1, .int x1), (2, .int r), (3, .int 1), (4, .int 0), (5, .int 0)]) dX4_leadOf_12 rfl (by decide) rfl ?_
  exact h
set_option maxRecDepth 20000 in
theorem T_X4_leadOf_16_14 {Γ : Nat × (Nat → Int32)} {d n0 bc bs : Nat} {Q : mQ} {σ : mS} (x1 : Int32) (x2 : Int32) (x3 : Int32) (x4 : Int32) (x5 : Int32) (h : (((f_X0_speakers_5 σ) ≤ x5 → Q (.inl (some (.int (x2 - x4)))) 60 mSH σ) ∧ (¬ ((f_X0_speakers_5 σ) ≤ x5) → ((x5 = x1 → mK Γ M_X4_leadOf (d + 2) Q n0 bc bs 14 [(0, .ref 16), (1, .int x1), (2, .int x2), (3, .int x3), (4, .int x4), (5, .int (x5 + 1))] [] 60 mSH σ) ∧ (¬ (x5 = x1) → mCall Γ M_X4_scoreOf (d + 1) 0 0 [.ref 16, .int x5] 60 mSH σ (mRt Γ M_X4_leadOf (d + 2) Q n0 bc bs 38 [(0, .ref 16), (1, .int x1), (2, .int x2), (3, .int x3), (4, .int x4), (5, .int x5)] [])))))) : mK Γ M_X4_leadOf (d + 2) Q n0 bc bs 14 [(0, .ref 16), (1, .int x1), (2, .int x2), (3, .int x3), (4, .int x4), (5, .int x5)] [] 60 mSH σ := by
  refine mK_iload dX4_leadOf_14 rfl (.tail _ (.tail _ (.tail _ (.tail _ (.tail _ (.head _)))))) ?_
  refine mK_aload_n dX4_leadOf_16 rfl rfl (.head _) ?_
  refine ru_getR (k := 0) (ci := 3) (a := 5) dX4_leadOf_17 rfl rfl rfl kw_200 ?_
  refine mK_invV (J := M_X0_speakers) (k := 0) (as := []) (st := [.int x5]) (c1 := 0) (s1 := 0) dX4_leadOf_20 rfl jw_X0_speakers jn_X0_speakers rfl (Nat.le_of_ble_eq_true rfl) (Nat.zero_le _) (Nat.zero_le _) rfl kw_876 kw_503 kw_504 (b := 5) (Nat.le_of_ble_eq_true rfl) (Nat.le_of_ble_eq_true rfl) rfl ?_
  refine S_X0_speakers_5  ?_
  show mK Γ M_X4_leadOf (d + 2) Q n0 bc bs 23 [(0, .ref 16), (1, .int x1), (2, .int x2), (3, .int x3), (4, .int x4), (5, .int x5)] [.int (f_X0_speakers_5 σ), .int x5] 60 mSH σ
  refine mK_icmp_ge (tgt := 68) dX4_leadOf_23 rfl (by decide) (fun c1 => ?_) (fun c1 => ?_)
  · refine mK_iload_n dX4_leadOf_68 rfl rfl (.tail _ (.tail _ (.head _))) ?_
    refine mK_iload dX4_leadOf_69 rfl (.tail _ (.tail _ (.tail _ (.tail _ (.head _))))) ?_
    refine mK_isub dX4_leadOf_71 rfl ?_
    exact mK_iret dX4_leadOf_72 rfl (h.1 c1)
  · refine mK_iload dX4_leadOf_26 rfl (.tail _ (.tail _ (.tail _ (.tail _ (.tail _ (.head _)))))) ?_
    refine mK_iload_n dX4_leadOf_28 rfl rfl (.tail _ (.head _)) ?_
    refine mK_icmp_eq (tgt := 62) dX4_leadOf_29 rfl (by decide) (fun c2 => ?_) (fun c2 => ?_)
    · refine ru_iinc (lv1 := [(0, .ref 16), (1, .int x1), (2, .int x2), (3, .int x3), (4, .int x4), (5, .int (x5 + 1))]) dX4_leadOf_62 rfl (.tail _ (.tail _ (.tail _ (.tail _ (.tail _ (.head _)))))) qic_1 (by decide) rfl ?_
      refine mK_goto (tgt := 14) dX4_leadOf_65 (by decide) ?_
      exact ((h.2 c1).1 c2)
    · refine mK_aload_n dX4_leadOf_32 rfl rfl (.head _) ?_
      refine mK_iload dX4_leadOf_33 rfl (.tail _ (.tail _ (.tail _ (.tail _ (.tail _ (.head _)))))) ?_
      refine mK_invV (J := M_X4_scoreOf) (k := 1) (as := [.int x5]) (st := []) (c1 := 0) (s1 := 0) dX4_leadOf_35 rfl jw_X4_scoreOf jn_X4_scoreOf rfl (Nat.le_of_ble_eq_true rfl) (Nat.zero_le _) (Nat.zero_le _) rfl kw_875 kw_703 kw_704 (b := 16) (Nat.le_of_ble_eq_true rfl) (Nat.le_of_ble_eq_true rfl) rfl ?_
      exact ((h.2 c1).2 c2)
set_option maxRecDepth 20000 in
theorem T_X4_leadOf_16_38a {Γ : Nat × (Nat → Int32)} {d n0 bc bs : Nat} {Q : mQ} {σ : mS} (x1 : Int32) (x2 : Int32) (x3 : Int32) (x4 : Int32) (x5 : Int32) (r : Int32) (h : ((x3 = 0 → ((r ≤ x4 → mK Γ M_X4_leadOf (d + 2) Q n0 bc bs 14 [(0, .ref 16), (1, .int x1), (2, .int x2), (3, .int 0), (4, .int x4), (5, .int (x5 + 1))] [] 60 mSH σ) ∧ (¬ (r ≤ x4) → mK Γ M_X4_leadOf (d + 2) Q n0 bc bs 14 [(0, .ref 16), (1, .int x1), (2, .int x2), (3, .int 0), (4, .int r), (5, .int (x5 + 1))] [] 60 mSH σ))) ∧ (¬ (x3 = 0) → mK Γ M_X4_leadOf (d + 2) Q n0 bc bs 14 [(0, .ref 16), (1, .int x1), (2, .int x2), (3, .int 0), (4, .int r), (5, .int (x5 + 1))] [] 60 mSH σ))) : mRt Γ M_X4_leadOf (d + 2) Q n0 bc bs 38 [(0, .ref 16), (1, .int x1), (2, .int x2), (3, .int x3), (4, .int x4), (5, .int x5)] [] (.inl (some (.int r))) 60 mSH σ := by
  show mK Γ M_X4_leadOf (d + 2) Q n0 bc bs 38 [(0, .ref 16), (1, .int x1), (2, .int x2), (3, .int x3), (4, .int x4), (5, .int x5)] [.int r] 60 mSH σ
  refine ru_istore (lv1 := [(0, .ref 16), (1, .int x1), (2, .int x2), (3, .int x3), (4, .int x4), (5, .int x5), (6, .int r)]) dX4_leadOf_38 rfl (by decide) rfl ?_
  refine mK_iload_n dX4_leadOf_40 rfl rfl (.tail _ (.tail _ (.tail _ (.head _)))) ?_
  refine ru_if_ne (tgt := 51) dX4_leadOf_41 rfl (by decide) (fun c1 => ?_) (fun c1 => ?_)
  · refine mK_iload dX4_leadOf_51 rfl (.tail _ (.tail _ (.tail _ (.tail _ (.tail _ (.tail _ (.head _))))))) ?_
    refine mK_goto (tgt := 58) dX4_leadOf_53 (by decide) ?_
    refine ru_istore (lv1 := [(0, .ref 16), (1, .int x1), (2, .int x2), (3, .int x3), (4, .int r), (5, .int x5), (6, .int r)]) dX4_leadOf_58 rfl (by decide) rfl ?_
    refine mK_iconst dX4_leadOf_60 rfl qic_0 ?_
    refine ru_istore_n (lv1 := [(0, .ref 16), (1, .int x1), (2, .int x2), (3, .int 0), (4, .int r), (5, .int x5), (6, .int r)]) dX4_leadOf_61 rfl rfl (by decide) rfl ?_
    refine ru_iinc (lv1 := [(0, .ref 16), (1, .int x1), (2, .int x2), (3, .int 0), (4, .int r), (5, .int (x5 + 1)), (6, .int r)]) dX4_leadOf_62 rfl (.tail _ (.tail _ (.tail _ (.tail _ (.tail _ (.head _)))))) qic_1 (by decide) rfl ?_
    refine mK_goto (tgt := 14) dX4_leadOf_65 (by decide) ?_
    exact ru_pick [0, 1, 2, 3, 4, 5] rfl (h.2 c1)
  · refine mK_iload dX4_leadOf_44 rfl (.tail _ (.tail _ (.tail _ (.tail _ (.tail _ (.tail _ (.head _))))))) ?_
    refine mK_iload dX4_leadOf_46 rfl (.tail _ (.tail _ (.tail _ (.tail _ (.head _))))) ?_
    refine mK_icmp_le (tgt := 56) dX4_leadOf_48 rfl (by decide) (fun c2 => ?_) (fun c2 => ?_)
    · refine mK_iload dX4_leadOf_56 rfl (.tail _ (.tail _ (.tail _ (.tail _ (.head _))))) ?_
      refine ru_istore (lv1 := [(0, .ref 16), (1, .int x1), (2, .int x2), (3, .int x3), (4, .int x4), (5, .int x5), (6, .int r)]) dX4_leadOf_58 rfl (by decide) rfl ?_
      refine mK_iconst dX4_leadOf_60 rfl qic_0 ?_
      refine ru_istore_n (lv1 := [(0, .ref 16), (1, .int x1), (2, .int x2), (3, .int 0), (4, .int x4), (5, .int x5), (6, .int r)]) dX4_leadOf_61 rfl rfl (by decide) rfl ?_
      refine ru_iinc (lv1 := [(0, .ref 16), (1, .int x1), (2, .int x2), (3, .int 0), (4, .int x4), (5, .int (x5 + 1)), (6, .int r)]) dX4_leadOf_62 rfl (.tail _ (.tail _ (.tail _ (.tail _ (.tail _ (.head _)))))) qic_1 (by decide) rfl ?_
      refine mK_goto (tgt := 14) dX4_leadOf_65 (by decide) ?_
      exact ru_pick [0, 1, 2, 3, 4, 5] rfl ((h.1 c1).1 c2)
    · refine mK_iload dX4_leadOf_51 rfl (.tail _ (.tail _ (.tail _ (.tail _ (.tail _ (.tail _ (.head _))))))) ?_
      refine mK_goto (tgt := 58) dX4_leadOf_53 (by decide) ?_
      refine ru_istore (lv1 := [(0, .ref 16), (1, .int x1), (2, .int x2), (3, .int x3), (4, .int r), (5, .int x5), (6, .int r)]) dX4_leadOf_58 rfl (by decide) rfl ?_
      refine mK_iconst dX4_leadOf_60 rfl qic_0 ?_
      refine ru_istore_n (lv1 := [(0, .ref 16), (1, .int x1), (2, .int x2), (3, .int 0), (4, .int r), (5, .int x5), (6, .int r)]) dX4_leadOf_61 rfl rfl (by decide) rfl ?_
      refine ru_iinc (lv1 := [(0, .ref 16), (1, .int x1), (2, .int x2), (3, .int 0), (4, .int r), (5, .int (x5 + 1)), (6, .int r)]) dX4_leadOf_62 rfl (.tail _ (.tail _ (.tail _ (.tail _ (.tail _ (.head _)))))) qic_1 (by decide) rfl ?_
      refine mK_goto (tgt := 14) dX4_leadOf_65 (by decide) ?_
      exact ru_pick [0, 1, 2, 3, 4, 5] rfl ((h.1 c1).2 c2)
set_option maxRecDepth 20000 in
theorem E_X4_leadOf_18 {Γ : Nat × (Nat → Int32)} {d : Nat} {Q : mQ} {σ : mS} (a1 : Int32) (h : mCall Γ M_X4_scoreOf (d + 1) 0 0 [.ref 18, .int a1] 60 mSH σ (mRt Γ M_X4_leadOf (d + 2) Q 60 0 0 5 [(0, .ref 18), (1, .int a1)] [])) : mCall Γ M_X4_leadOf (d + 2) 0 0 [.ref 18, .int a1] 60 mSH σ Q := by
  refine mCall_of rfl (by decide) (Nat.le_of_ble_eq_true rfl) (mOkC (mOk_lo (Nat.le_of_ble_eq_true rfl)) (mOkC mOk_i mOkN)) ?_
  show mK Γ M_X4_leadOf (d + 2) Q 60 0 0 0 [(0, .ref 18), (1, .int a1)] [] 60 mSH σ
  refine mK_aload_n dX4_leadOf_0 rfl rfl (.head _) ?_
  refine mK_iload_n dX4_leadOf_1 rfl rfl (.tail _ (.head _)) ?_
  refine mK_invV (J := M_X4_scoreOf) (k := 1) (as := [.int a1]) (st := []) (c1 := 0) (s1 := 0) dX4_leadOf_2 rfl jw_X4_scoreOf jn_X4_scoreOf rfl (Nat.le_of_ble_eq_true rfl) (Nat.zero_le _) (Nat.zero_le _) rfl kw_875 kw_703 kw_704 (b := 18) (Nat.le_of_ble_eq_true rfl) (Nat.le_of_ble_eq_true rfl) rfl ?_
  exact h
set_option maxRecDepth 20000 in
theorem T_X4_leadOf_18_5a {Γ : Nat × (Nat → Int32)} {d n0 bc bs : Nat} {Q : mQ} {σ : mS} (x1 : Int32) (r : Int32) (h : mK Γ M_X4_leadOf (d + 2) Q n0 bc bs 14 [(0, .ref 18), (1, .int x1), (2, .int r), (3, .int 1), (4, .int 0), (5, .int 0)] [] 60 mSH σ) : mRt Γ M_X4_leadOf (d + 2) Q n0 bc bs 5 [(0, .ref 18), (1, .int x1)] [] (.inl (some (.int r))) 60 mSH σ := by
  show mK Γ M_X4_leadOf (d + 2) Q n0 bc bs 5 [(0, .ref 18), (1, .int x1)] [.int r] 60 mSH σ
  refine ru_istore_n (lv1 := [(0, .ref 18), (1, .int x1), (2, .int r)]) dX4_leadOf_5 rfl rfl (by decide) rfl ?_
  refine mK_iconst dX4_leadOf_6 rfl qic_1 ?_
  refine ru_istore_n (lv1 := [(0, .ref 18), (1, .int x1), (2, .int r), (3, .int 1)]) dX4_leadOf_7 rfl rfl (by decide) rfl ?_
  refine mK_iconst dX4_leadOf_8 rfl qic_0 ?_
  refine ru_istore (lv1 := [(0, .ref 18), (1, .int x1), (2, .int r), (3, .int 1), (4, .int 0)]) dX4_leadOf_9 rfl (by decide) rfl ?_
  refine mK_iconst dX4_leadOf_11 rfl qic_0 ?_
  refine ru_istore (lv1 := [(0, .ref 18), (1, .int x1), (2, .int r), (3, .int 1), (4, .int 0), (5, .int 0)]) dX4_leadOf_12 rfl (by decide) rfl ?_
  exact h
set_option maxRecDepth 20000 in
theorem T_X4_leadOf_18_14 {Γ : Nat × (Nat → Int32)} {d n0 bc bs : Nat} {Q : mQ} {σ : mS} (x1 : Int32) (x2 : Int32) (x3 : Int32) (x4 : Int32) (x5 : Int32) (h : (((f_X0_speakers_5 σ) ≤ x5 → Q (.inl (some (.int (x2 - x4)))) 60 mSH σ) ∧ (¬ ((f_X0_speakers_5 σ) ≤ x5) → ((x5 = x1 → mK Γ M_X4_leadOf (d + 2) Q n0 bc bs 14 [(0, .ref 18), (1, .int x1), (2, .int x2), (3, .int x3), (4, .int x4), (5, .int (x5 + 1))] [] 60 mSH σ) ∧ (¬ (x5 = x1) → mCall Γ M_X4_scoreOf (d + 1) 0 0 [.ref 18, .int x5] 60 mSH σ (mRt Γ M_X4_leadOf (d + 2) Q n0 bc bs 38 [(0, .ref 18), (1, .int x1), (2, .int x2), (3, .int x3), (4, .int x4), (5, .int x5)] [])))))) : mK Γ M_X4_leadOf (d + 2) Q n0 bc bs 14 [(0, .ref 18), (1, .int x1), (2, .int x2), (3, .int x3), (4, .int x4), (5, .int x5)] [] 60 mSH σ := by
  refine mK_iload dX4_leadOf_14 rfl (.tail _ (.tail _ (.tail _ (.tail _ (.tail _ (.head _)))))) ?_
  refine mK_aload_n dX4_leadOf_16 rfl rfl (.head _) ?_
  refine ru_getR (k := 0) (ci := 3) (a := 5) dX4_leadOf_17 rfl rfl rfl kw_200 ?_
  refine mK_invV (J := M_X0_speakers) (k := 0) (as := []) (st := [.int x5]) (c1 := 0) (s1 := 0) dX4_leadOf_20 rfl jw_X0_speakers jn_X0_speakers rfl (Nat.le_of_ble_eq_true rfl) (Nat.zero_le _) (Nat.zero_le _) rfl kw_876 kw_503 kw_504 (b := 5) (Nat.le_of_ble_eq_true rfl) (Nat.le_of_ble_eq_true rfl) rfl ?_
  refine S_X0_speakers_5  ?_
  show mK Γ M_X4_leadOf (d + 2) Q n0 bc bs 23 [(0, .ref 18), (1, .int x1), (2, .int x2), (3, .int x3), (4, .int x4), (5, .int x5)] [.int (f_X0_speakers_5 σ), .int x5] 60 mSH σ
  refine mK_icmp_ge (tgt := 68) dX4_leadOf_23 rfl (by decide) (fun c1 => ?_) (fun c1 => ?_)
  · refine mK_iload_n dX4_leadOf_68 rfl rfl (.tail _ (.tail _ (.head _))) ?_
    refine mK_iload dX4_leadOf_69 rfl (.tail _ (.tail _ (.tail _ (.tail _ (.head _))))) ?_
    refine mK_isub dX4_leadOf_71 rfl ?_
    exact mK_iret dX4_leadOf_72 rfl (h.1 c1)
  · refine mK_iload dX4_leadOf_26 rfl (.tail _ (.tail _ (.tail _ (.tail _ (.tail _ (.head _)))))) ?_
    refine mK_iload_n dX4_leadOf_28 rfl rfl (.tail _ (.head _)) ?_
    refine mK_icmp_eq (tgt := 62) dX4_leadOf_29 rfl (by decide) (fun c2 => ?_) (fun c2 => ?_)
    · refine ru_iinc (lv1 := [(0, .ref 18), (1, .int x1), (2, .int x2), (3, .int x3), (4, .int x4), (5, .int (x5 + 1))]) dX4_leadOf_62 rfl (.tail _ (.tail _ (.tail _ (.tail _ (.tail _ (.head _)))))) qic_1 (by decide) rfl ?_
      refine mK_goto (tgt := 14) dX4_leadOf_65 (by decide) ?_
      exact ((h.2 c1).1 c2)
    · refine mK_aload_n dX4_leadOf_32 rfl rfl (.head _) ?_
      refine mK_iload dX4_leadOf_33 rfl (.tail _ (.tail _ (.tail _ (.tail _ (.tail _ (.head _)))))) ?_
      refine mK_invV (J := M_X4_scoreOf) (k := 1) (as := [.int x5]) (st := []) (c1 := 0) (s1 := 0) dX4_leadOf_35 rfl jw_X4_scoreOf jn_X4_scoreOf rfl (Nat.le_of_ble_eq_true rfl) (Nat.zero_le _) (Nat.zero_le _) rfl kw_875 kw_703 kw_704 (b := 18) (Nat.le_of_ble_eq_true rfl) (Nat.le_of_ble_eq_true rfl) rfl ?_
      exact ((h.2 c1).2 c2)
set_option maxRecDepth 20000 in
theorem T_X4_leadOf_18_38a {Γ : Nat × (Nat → Int32)} {d n0 bc bs : Nat} {Q : mQ} {σ : mS} (x1 : Int32) (x2 : Int32) (x3 : Int32) (x4 : Int32) (x5 : Int32) (r : Int32) (h : ((x3 = 0 → ((r ≤ x4 → mK Γ M_X4_leadOf (d + 2) Q n0 bc bs 14 [(0, .ref 18), (1, .int x1), (2, .int x2), (3, .int 0), (4, .int x4), (5, .int (x5 + 1))] [] 60 mSH σ) ∧ (¬ (r ≤ x4) → mK Γ M_X4_leadOf (d + 2) Q n0 bc bs 14 [(0, .ref 18), (1, .int x1), (2, .int x2), (3, .int 0), (4, .int r), (5, .int (x5 + 1))] [] 60 mSH σ))) ∧ (¬ (x3 = 0) → mK Γ M_X4_leadOf (d + 2) Q n0 bc bs 14 [(0, .ref 18), (1, .int x1), (2, .int x2), (3, .int 0), (4, .int r), (5, .int (x5 + 1))] [] 60 mSH σ))) : mRt Γ M_X4_leadOf (d + 2) Q n0 bc bs 38 [(0, .ref 18), (1, .int x1), (2, .int x2), (3, .int x3), (4, .int x4), (5, .int x5)] [] (.inl (some (.int r))) 60 mSH σ := by
  show mK Γ M_X4_leadOf (d + 2) Q n0 bc bs 38 [(0, .ref 18), (1, .int x1), (2, .int x2), (3, .int x3), (4, .int x4), (5, .int x5)] [.int r] 60 mSH σ
  refine ru_istore (lv1 := [(0, .ref 18), (1, .int x1), (2, .int x2), (3, .int x3), (4, .int x4), (5, .int x5), (6, .int r)]) dX4_leadOf_38 rfl (by decide) rfl ?_
  refine mK_iload_n dX4_leadOf_40 rfl rfl (.tail _ (.tail _ (.tail _ (.head _)))) ?_
  refine ru_if_ne (tgt := 51) dX4_leadOf_41 rfl (by decide) (fun c1 => ?_) (fun c1 => ?_)
  · refine mK_iload dX4_leadOf_51 rfl (.tail _ (.tail _ (.tail _ (.tail _ (.tail _ (.tail _ (.head _))))))) ?_
    refine mK_goto (tgt := 58) dX4_leadOf_53 (by decide) ?_
    refine ru_istore (lv1 := [(0, .ref 18), (1, .int x1), (2, .int x2), (3, .int x3), (4, .int r), (5, .int x5), (6, .int r)]) dX4_leadOf_58 rfl (by decide) rfl ?_
    refine mK_iconst dX4_leadOf_60 rfl qic_0 ?_
    refine ru_istore_n (lv1 := [(0, .ref 18), (1, .int x1), (2, .int x2), (3, .int 0), (4, .int r), (5, .int x5), (6, .int r)]) dX4_leadOf_61 rfl rfl (by decide) rfl ?_
    refine ru_iinc (lv1 := [(0, .ref 18), (1, .int x1), (2, .int x2), (3, .int 0), (4, .int r), (5, .int (x5 + 1)), (6, .int r)]) dX4_leadOf_62 rfl (.tail _ (.tail _ (.tail _ (.tail _ (.tail _ (.head _)))))) qic_1 (by decide) rfl ?_
    refine mK_goto (tgt := 14) dX4_leadOf_65 (by decide) ?_
    exact ru_pick [0, 1, 2, 3, 4, 5] rfl (h.2 c1)
  · refine mK_iload dX4_leadOf_44 rfl (.tail _ (.tail _ (.tail _ (.tail _ (.tail _ (.tail _ (.head _))))))) ?_
    refine mK_iload dX4_leadOf_46 rfl (.tail _ (.tail _ (.tail _ (.tail _ (.head _))))) ?_
    refine mK_icmp_le (tgt := 56) dX4_leadOf_48 rfl (by decide) (fun c2 => ?_) (fun c2 => ?_)
    · refine mK_iload dX4_leadOf_56 rfl (.tail _ (.tail _ (.tail _ (.tail _ (.head _))))) ?_
      refine ru_istore (lv1 := [(0, .ref 18), (1, .int x1), (2, .int x2), (3, .int x3), (4, .int x4), (5, .int x5), (6, .int r)]) dX4_leadOf_58 rfl (by decide) rfl ?_
      refine mK_iconst dX4_leadOf_60 rfl qic_0 ?_
      refine ru_istore_n (lv1 := [(0, .ref 18), (1, .int x1), (2, .int x2), (3, .int 0), (4, .int x4), (5, .int x5), (6, .int r)]) dX4_leadOf_61 rfl rfl (by decide) rfl ?_
      refine ru_iinc (lv1 := [(0, .ref 18), (1, .int x1), (2, .int x2), (3, .int 0), (4, .int x4), (5, .int (x5 + 1)), (6, .int r)]) dX4_leadOf_62 rfl (.tail _ (.tail _ (.tail _ (.tail _ (.tail _ (.head _)))))) qic_1 (by decide) rfl ?_
      refine mK_goto (tgt := 14) dX4_leadOf_65 (by decide) ?_
      exact ru_pick [0, 1, 2, 3, 4, 5] rfl ((h.1 c1).1 c2)
    · refine mK_iload dX4_leadOf_51 rfl (.tail _ (.tail _ (.tail _ (.tail _ (.tail _ (.tail _ (.head _))))))) ?_
      refine mK_goto (tgt := 58) dX4_leadOf_53 (by decide) ?_
      refine ru_istore (lv1 := [(0, .ref 18), (1, .int x1), (2, .int x2), (3, .int x3), (4, .int r), (5, .int x5), (6, .int r)]) dX4_leadOf_58 rfl (by decide) rfl ?_
      refine mK_iconst dX4_leadOf_60 rfl qic_0 ?_
      refine ru_istore_n (lv1 := [(0, .ref 18), (1, .int x1), (2, .int x2), (3, .int 0), (4, .int r), (5, .int x5), (6, .int r)]) dX4_leadOf_61 rfl rfl (by decide) rfl ?_
      refine ru_iinc (lv1 := [(0, .ref 18), (1, .int x1), (2, .int x2), (3, .int 0), (4, .int r), (5, .int (x5 + 1)), (6, .int r)]) dX4_leadOf_62 rfl (.tail _ (.tail _ (.tail _ (.tail _ (.tail _ (.head _)))))) qic_1 (by decide) rfl ?_
      refine mK_goto (tgt := 14) dX4_leadOf_65 (by decide) ?_
      exact ru_pick [0, 1, 2, 3, 4, 5] rfl ((h.1 c1).2 c2)
set_option maxRecDepth 20000 in
theorem E_X7_leader_0 {Γ : Nat × (Nat → Int32)} {d : Nat} {Q : mQ} {σ : mS} (h : mK Γ M_X7_leader (d + 2) Q 60 0 0 4 [(0, .ref 0), (1, .int (-1)), (2, .int 0)] [] 60 mSH σ) : mCall Γ M_X7_leader (d + 2) 0 0 [.ref 0] 60 mSH σ Q := by
  refine mCall_of rfl (by decide) (Nat.le_of_ble_eq_true rfl) (mOkC (mOk_lo (Nat.le_of_ble_eq_true rfl)) mOkN) ?_
  show mK Γ M_X7_leader (d + 2) Q 60 0 0 0 [(0, .ref 0)] [] 60 mSH σ
  refine mK_iconst dX7_leader_0 rfl qic_m1 ?_
  refine ru_istore_n (lv1 := [(0, .ref 0), (1, .int (-1))]) dX7_leader_1 rfl rfl (by decide) rfl ?_
  refine mK_iconst dX7_leader_2 rfl qic_0 ?_
  refine ru_istore_n (lv1 := [(0, .ref 0), (1, .int (-1)), (2, .int 0)]) dX7_leader_3 rfl rfl (by decide) rfl ?_
  exact h
set_option maxRecDepth 20000 in
theorem T_X7_leader_0_4 {Γ : Nat × (Nat → Int32)} {d n0 bc bs : Nat} {Q : mQ} {σ : mS} (x1 : Int32) (x2 : Int32) (h : (((f_X0_speakers_5 σ) ≤ x2 → Q (.inl (some (.int x1))) 60 mSH σ) ∧ (¬ ((f_X0_speakers_5 σ) ≤ x2) → ((x1 = (-1) → mK Γ M_X7_leader (d + 2) Q n0 bc bs 4 [(0, .ref 0), (1, .int x2), (2, .int (x2 + 1))] [] 60 mSH σ) ∧ (¬ (x1 = (-1)) → mCall Γ M_X4_scoreOf (d + 1) 0 0 [.ref 16, .int x2] 60 mSH σ (mRt Γ M_X7_leader (d + 2) Q n0 bc bs 28 [(0, .ref 0), (1, .int x1), (2, .int x2)] [])))))) : mK Γ M_X7_leader (d + 2) Q n0 bc bs 4 [(0, .ref 0), (1, .int x1), (2, .int x2)] [] 60 mSH σ := by
  refine mK_iload_n dX7_leader_4 rfl rfl (.tail _ (.tail _ (.head _))) ?_
  refine mK_aload_n dX7_leader_5 rfl rfl (.head _) ?_
  refine ru_getR (k := 2) (ci := 6) (a := 5) dX7_leader_6 rfl rfl rfl kw_283 ?_
  refine mK_invV (J := M_X0_speakers) (k := 0) (as := []) (st := [.int x2]) (c1 := 0) (s1 := 0) dX7_leader_9 rfl jw_X0_speakers jn_X0_speakers rfl (Nat.le_of_ble_eq_true rfl) (Nat.zero_le _) (Nat.zero_le _) rfl kw_701 kw_503 kw_504 (b := 5) (Nat.le_of_ble_eq_true rfl) (Nat.le_of_ble_eq_true rfl) rfl ?_
  refine S_X0_speakers_5  ?_
  show mK Γ M_X7_leader (d + 2) Q n0 bc bs 12 [(0, .ref 0), (1, .int x1), (2, .int x2)] [.int (f_X0_speakers_5 σ), .int x2] 60 mSH σ
  refine mK_icmp_ge (tgt := 47) dX7_leader_12 rfl (by decide) (fun c1 => ?_) (fun c1 => ?_)
  · refine mK_iload_n dX7_leader_47 rfl rfl (.tail _ (.head _)) ?_
    exact mK_iret dX7_leader_48 rfl (h.1 c1)
  · refine mK_iload_n dX7_leader_15 rfl rfl (.tail _ (.head _)) ?_
    refine mK_iconst dX7_leader_16 rfl qic_m1 ?_
    refine mK_icmp_eq (tgt := 39) dX7_leader_17 rfl (by decide) (fun c2 => ?_) (fun c2 => ?_)
    · refine mK_iload_n dX7_leader_39 rfl rfl (.tail _ (.tail _ (.head _))) ?_
      refine ru_istore_n (lv1 := [(0, .ref 0), (1, .int x2), (2, .int x2)]) dX7_leader_40 rfl rfl (by decide) rfl ?_
      refine ru_iinc (lv1 := [(0, .ref 0), (1, .int x2), (2, .int (x2 + 1))]) dX7_leader_41 rfl (.tail _ (.tail _ (.head _))) qic_1 (by decide) rfl ?_
      refine mK_goto (tgt := 4) dX7_leader_44 (by decide) ?_
      exact ((h.2 c1).1 c2)
    · refine mK_aload_n dX7_leader_20 rfl rfl (.head _) ?_
      refine ru_getR (k := 3) (ci := 6) (a := 16) dX7_leader_21 rfl rfl rfl kw_284 ?_
      refine mK_iload_n dX7_leader_24 rfl rfl (.tail _ (.tail _ (.head _))) ?_
      refine mK_invV (J := M_X4_scoreOf) (k := 1) (as := [.int x2]) (st := []) (c1 := 0) (s1 := 0) dX7_leader_25 rfl jw_X4_scoreOf jn_X4_scoreOf rfl (Nat.le_of_ble_eq_true rfl) (Nat.zero_le _) (Nat.zero_le _) rfl kw_702 kw_703 kw_704 (b := 16) (Nat.le_of_ble_eq_true rfl) (Nat.le_of_ble_eq_true rfl) rfl ?_
      exact ((h.2 c1).2 c2)
set_option maxRecDepth 20000 in
theorem T_X7_leader_0_28a {Γ : Nat × (Nat → Int32)} {d n0 bc bs : Nat} {Q : mQ} {σ : mS} (x1 : Int32) (x2 : Int32) (r : Int32) (h : mCall Γ M_X4_scoreOf (d + 1) 0 0 [.ref 16, .int x1] 60 mSH σ (mRt Γ M_X7_leader (d + 2) Q n0 bc bs 36 [(0, .ref 0), (1, .int x1), (2, .int x2)] [.int r])) : mRt Γ M_X7_leader (d + 2) Q n0 bc bs 28 [(0, .ref 0), (1, .int x1), (2, .int x2)] [] (.inl (some (.int r))) 60 mSH σ := by
  show mK Γ M_X7_leader (d + 2) Q n0 bc bs 28 [(0, .ref 0), (1, .int x1), (2, .int x2)] [.int r] 60 mSH σ
  refine mK_aload_n dX7_leader_28 rfl rfl (.head _) ?_
  refine ru_getR (k := 3) (ci := 6) (a := 16) dX7_leader_29 rfl rfl rfl kw_284 ?_
  refine mK_iload_n dX7_leader_32 rfl rfl (.tail _ (.head _)) ?_
  refine mK_invV (J := M_X4_scoreOf) (k := 1) (as := [.int x1]) (st := [.int r]) (c1 := 0) (s1 := 0) dX7_leader_33 rfl jw_X4_scoreOf jn_X4_scoreOf rfl (Nat.le_of_ble_eq_true rfl) (Nat.zero_le _) (Nat.zero_le _) rfl kw_702 kw_703 kw_704 (b := 16) (Nat.le_of_ble_eq_true rfl) (Nat.le_of_ble_eq_true rfl) rfl ?_
  exact h
set_option maxRecDepth 20000 in
theorem T_X7_leader_0_36a {Γ : Nat × (Nat → Int32)} {d n0 bc bs : Nat} {Q : mQ} {σ : mS} (x1 : Int32) (x2 : Int32) (y0 : Int32) (r : Int32) (h : ((y0 ≤ r → mK Γ M_X7_leader (d + 2) Q n0 bc bs 4 [(0, .ref 0), (1, .int x1), (2, .int (x2 + 1))] [] 60 mSH σ) ∧ (¬ (y0 ≤ r) → mK Γ M_X7_leader (d + 2) Q n0 bc bs 4 [(0, .ref 0), (1, .int x2), (2, .int (x2 + 1))] [] 60 mSH σ))) : mRt Γ M_X7_leader (d + 2) Q n0 bc bs 36 [(0, .ref 0), (1, .int x1), (2, .int x2)] [.int y0] (.inl (some (.int r))) 60 mSH σ := by
  show mK Γ M_X7_leader (d + 2) Q n0 bc bs 36 [(0, .ref 0), (1, .int x1), (2, .int x2)] [.int r, .int y0] 60 mSH σ
  refine mK_icmp_le (tgt := 41) dX7_leader_36 rfl (by decide) (fun c1 => ?_) (fun c1 => ?_)
  · refine ru_iinc (lv1 := [(0, .ref 0), (1, .int x1), (2, .int (x2 + 1))]) dX7_leader_41 rfl (.tail _ (.tail _ (.head _))) qic_1 (by decide) rfl ?_
    refine mK_goto (tgt := 4) dX7_leader_44 (by decide) ?_
    exact (h.1 c1)
  · refine mK_iload_n dX7_leader_39 rfl rfl (.tail _ (.tail _ (.head _))) ?_
    refine ru_istore_n (lv1 := [(0, .ref 0), (1, .int x2), (2, .int x2)]) dX7_leader_40 rfl rfl (by decide) rfl ?_
    refine ru_iinc (lv1 := [(0, .ref 0), (1, .int x2), (2, .int (x2 + 1))]) dX7_leader_41 rfl (.tail _ (.tail _ (.head _))) qic_1 (by decide) rfl ?_
    refine mK_goto (tgt := 4) dX7_leader_44 (by decide) ?_
    exact (h.2 c1)
set_option maxRecDepth 20000 in
theorem E_X7_why_0 {Γ : Nat × (Nat → Int32)} {d : Nat} {Q : mQ} {σ : mS} (a1 : Int32) (h : (((f_X0_hasItem_5 σ a1) = 0 → Q (.inr "java/lang/IndexOutOfBoundsException") 60 mSH σ) ∧ (¬ ((f_X0_hasItem_5 σ a1) = 0) → (((f_X4_isOut_16 σ a1) = 0 → Q (.inl (some (.int (-1)))) 60 mSH σ) ∧ (¬ ((f_X4_isOut_16 σ a1) = 0) → mK Γ M_X7_why (d + 3) Q 60 0 0 20 [(0, .ref 0), (1, .int a1), (2, .int 0)] [] 60 mSH σ))))) : mCall Γ M_X7_why (d + 3) 1 6 [.ref 0, .int a1] 60 mSH σ Q := by
  refine mCall_of rfl (by decide) (Nat.le_of_ble_eq_true rfl) (mOkC (mOk_lo (Nat.le_of_ble_eq_true rfl)) (mOkC mOk_i mOkN)) ?_
  show mK Γ M_X7_why (d + 3) Q 60 1 6 0 [(0, .ref 0), (1, .int a1)] [] 60 mSH σ
  refine mK_aload_n dX7_why_0 rfl rfl (.head _) ?_
  refine mK_iload_n dX7_why_1 rfl rfl (.tail _ (.head _)) ?_
  refine mK_invV (J := M_X7_needItem) (k := 1) (as := [.int a1]) (st := []) (c1 := 1) (s1 := 6) dX7_why_2 rfl jw_X7_needItem jn_X7_needItem rfl (Nat.le_of_ble_eq_true rfl) (Nat.le_of_ble_eq_true rfl) (Nat.le_of_ble_eq_true rfl) rfl kw_882 kw_884 kw_34 (b := 0) (Nat.le_of_ble_eq_true rfl) (Nat.le_of_ble_eq_true rfl) rfl ?_
  refine C_X7_needItem_0 a1 ?_
  refine ⟨fun c1 => ?_, fun c1 => ?_⟩
  · exact (h.1 c1)
  · show mK Γ M_X7_why (d + 3) Q 60 0 0 5 [(0, .ref 0), (1, .int a1)] [] 60 mSH σ
    refine mK_aload_n dX7_why_5 rfl rfl (.head _) ?_
    refine ru_getR (k := 3) (ci := 6) (a := 16) dX7_why_6 rfl rfl rfl kw_284 ?_
    refine mK_iload_n dX7_why_9 rfl rfl (.tail _ (.head _)) ?_
    refine mK_invV (J := M_X4_isOut) (k := 1) (as := [.int a1]) (st := []) (c1 := 0) (s1 := 0) dX7_why_10 rfl jw_X4_isOut jn_X4_isOut rfl (Nat.le_of_ble_eq_true rfl) (Nat.zero_le _) (Nat.zero_le _) rfl kw_893 kw_619 kw_620 (b := 16) (Nat.le_of_ble_eq_true rfl) (Nat.le_of_ble_eq_true rfl) rfl ?_
    refine S_X4_isOut_16 a1 ?_
    show mK Γ M_X7_why (d + 3) Q 60 0 0 13 [(0, .ref 0), (1, .int a1)] [.int (f_X4_isOut_16 σ a1)] 60 mSH σ
    refine ru_if_ne (tgt := 18) dX7_why_13 rfl (by decide) (fun c2 => ?_) (fun c2 => ?_)
    · refine mK_iconst dX7_why_18 rfl qic_0 ?_
      refine ru_istore_n (lv1 := [(0, .ref 0), (1, .int a1), (2, .int 0)]) dX7_why_19 rfl rfl (by decide) rfl ?_
      exact ((h.2 c1).2 c2)
    · refine mK_iconst dX7_why_16 rfl qic_m1 ?_
      exact mK_iret dX7_why_17 rfl ((h.2 c1).1 c2)
set_option maxRecDepth 20000 in
theorem T_X7_why_0_20 {Γ : Nat × (Nat → Int32)} {d n0 bc bs : Nat} {Q : mQ} {σ : mS} (x1 : Int32) (x2 : Int32) (h : (((f_X0_items_5 σ) ≤ x2 → (((f_X0_isConceded_5 σ x1) = 0 → Q (.inl (some (.int (-3)))) 60 mSH σ) ∧ (¬ ((f_X0_isConceded_5 σ x1) = 0) → Q (.inl (some (.int (-2)))) 60 mSH σ))) ∧ (¬ ((f_X0_items_5 σ) ≤ x2) → (((f_X0_targetOf_5 σ x2) = x1 → (((f_X0_isStrongAttack_5 σ x2) = 0 → mK Γ M_X7_why (d + 3) Q n0 bc bs 20 [(0, .ref 0), (1, .int x1), (2, .int (x2 + 1))] [] 60 mSH σ) ∧ (¬ ((f_X0_isStrongAttack_5 σ x2) = 0) → (((f_X4_isIn_16 σ x2) = 0 → mK Γ M_X7_why (d + 3) Q n0 bc bs 20 [(0, .ref 0), (1, .int x1), (2, .int (x2 + 1))] [] 60 mSH σ) ∧ (¬ ((f_X4_isIn_16 σ x2) = 0) → Q (.inl (some (.int x2))) 60 mSH σ))))) ∧ (¬ ((f_X0_targetOf_5 σ x2) = x1) → mK Γ M_X7_why (d + 3) Q n0 bc bs 20 [(0, .ref 0), (1, .int x1), (2, .int (x2 + 1))] [] 60 mSH σ))))) : mK Γ M_X7_why (d + 3) Q n0 bc bs 20 [(0, .ref 0), (1, .int x1), (2, .int x2)] [] 60 mSH σ := by
  refine mK_iload_n dX7_why_20 rfl rfl (.tail _ (.tail _ (.head _))) ?_
  refine mK_aload_n dX7_why_21 rfl rfl (.head _) ?_
  refine ru_getR (k := 2) (ci := 6) (a := 5) dX7_why_22 rfl rfl rfl kw_283 ?_
  refine mK_invV (J := M_X0_items) (k := 0) (as := []) (st := [.int x2]) (c1 := 0) (s1 := 0) dX7_why_25 rfl jw_X0_items jn_X0_items rfl (Nat.le_of_ble_eq_true rfl) (Nat.zero_le _) (Nat.zero_le _) rfl kw_722 kw_529 kw_530 (b := 5) (Nat.le_of_ble_eq_true rfl) (Nat.le_of_ble_eq_true rfl) rfl ?_
  refine S_X0_items_5  ?_
  show mK Γ M_X7_why (d + 3) Q n0 bc bs 28 [(0, .ref 0), (1, .int x1), (2, .int x2)] [.int (f_X0_items_5 σ), .int x2] 60 mSH σ
  refine mK_icmp_ge (tgt := 73) dX7_why_28 rfl (by decide) (fun c1 => ?_) (fun c1 => ?_)
  · refine mK_aload_n dX7_why_73 rfl rfl (.head _) ?_
    refine ru_getR (k := 2) (ci := 6) (a := 5) dX7_why_74 rfl rfl rfl kw_283 ?_
    refine mK_iload_n dX7_why_77 rfl rfl (.tail _ (.head _)) ?_
    refine mK_invV (J := M_X0_isConceded) (k := 1) (as := [.int x1]) (st := []) (c1 := 0) (s1 := 0) dX7_why_78 rfl jw_X0_isConceded jn_X0_isConceded rfl (Nat.le_of_ble_eq_true rfl) (Nat.zero_le _) (Nat.zero_le _) rfl kw_898 kw_656 kw_657 (b := 5) (Nat.le_of_ble_eq_true rfl) (Nat.le_of_ble_eq_true rfl) rfl ?_
    refine S_X0_isConceded_5 x1 ?_
    show mK Γ M_X7_why (d + 3) Q n0 bc bs 81 [(0, .ref 0), (1, .int x1), (2, .int x2)] [.int (f_X0_isConceded_5 σ x1)] 60 mSH σ
    refine mK_if_eq (tgt := 89) dX7_why_81 rfl (by decide) (fun c2 => ?_) (fun c2 => ?_)
    · refine mK_bipush dX7_why_89 rfl qbi_m3 ?_
      exact mK_iret dX7_why_91 rfl ((h.1 c1).1 c2)
    · refine mK_bipush dX7_why_84 rfl qbi_m2 ?_
      refine mK_goto (tgt := 91) dX7_why_86 (by decide) ?_
      exact mK_iret dX7_why_91 rfl ((h.1 c1).2 c2)
  · refine mK_aload_n dX7_why_31 rfl rfl (.head _) ?_
    refine ru_getR (k := 2) (ci := 6) (a := 5) dX7_why_32 rfl rfl rfl kw_283 ?_
    refine mK_iload_n dX7_why_35 rfl rfl (.tail _ (.tail _ (.head _))) ?_
    refine mK_invV (J := M_X0_targetOf) (k := 1) (as := [.int x2]) (st := []) (c1 := 0) (s1 := 0) dX7_why_36 rfl jw_X0_targetOf jn_X0_targetOf rfl (Nat.le_of_ble_eq_true rfl) (Nat.zero_le _) (Nat.zero_le _) rfl kw_891 kw_608 kw_609 (b := 5) (Nat.le_of_ble_eq_true rfl) (Nat.le_of_ble_eq_true rfl) rfl ?_
    refine S_X0_targetOf_5 x2 ?_
    show mK Γ M_X7_why (d + 3) Q n0 bc bs 39 [(0, .ref 0), (1, .int x1), (2, .int x2)] [.int (f_X0_targetOf_5 σ x2)] 60 mSH σ
    refine mK_iload_n dX7_why_39 rfl rfl (.tail _ (.head _)) ?_
    refine ru_icmp_ne (tgt := 67) dX7_why_40 rfl (by decide) (fun c3 => ?_) (fun c3 => ?_)
    · refine ru_iinc (lv1 := [(0, .ref 0), (1, .int x1), (2, .int (x2 + 1))]) dX7_why_67 rfl (.tail _ (.tail _ (.head _))) qic_1 (by decide) rfl ?_
      refine mK_goto (tgt := 20) dX7_why_70 (by decide) ?_
      exact ((h.2 c1).2 c3)
    · refine mK_aload_n dX7_why_43 rfl rfl (.head _) ?_
      refine ru_getR (k := 2) (ci := 6) (a := 5) dX7_why_44 rfl rfl rfl kw_283 ?_
      refine mK_iload_n dX7_why_47 rfl rfl (.tail _ (.tail _ (.head _))) ?_
      refine mK_invV (J := M_X0_isStrongAttack) (k := 1) (as := [.int x2]) (st := []) (c1 := 0) (s1 := 0) dX7_why_48 rfl jw_X0_isStrongAttack jn_X0_isStrongAttack rfl (Nat.le_of_ble_eq_true rfl) (Nat.zero_le _) (Nat.zero_le _) rfl kw_899 kw_604 kw_605 (b := 5) (Nat.le_of_ble_eq_true rfl) (Nat.le_of_ble_eq_true rfl) rfl ?_
      refine S_X0_isStrongAttack_5 x2 ?_
      show mK Γ M_X7_why (d + 3) Q n0 bc bs 51 [(0, .ref 0), (1, .int x1), (2, .int x2)] [.int (f_X0_isStrongAttack_5 σ x2)] 60 mSH σ
      refine mK_if_eq (tgt := 67) dX7_why_51 rfl (by decide) (fun c4 => ?_) (fun c4 => ?_)
      · refine ru_iinc (lv1 := [(0, .ref 0), (1, .int x1), (2, .int (x2 + 1))]) dX7_why_67 rfl (.tail _ (.tail _ (.head _))) qic_1 (by decide) rfl ?_
        refine mK_goto (tgt := 20) dX7_why_70 (by decide) ?_
        exact (((h.2 c1).1 c3).1 c4)
      · refine mK_aload_n dX7_why_54 rfl rfl (.head _) ?_
        refine ru_getR (k := 3) (ci := 6) (a := 16) dX7_why_55 rfl rfl rfl kw_284 ?_
        refine mK_iload_n dX7_why_58 rfl rfl (.tail _ (.tail _ (.head _))) ?_
        refine mK_invV (J := M_X4_isIn) (k := 1) (as := [.int x2]) (st := []) (c1 := 0) (s1 := 0) dX7_why_59 rfl jw_X4_isIn jn_X4_isIn rfl (Nat.le_of_ble_eq_true rfl) (Nat.zero_le _) (Nat.zero_le _) rfl kw_892 kw_615 kw_616 (b := 16) (Nat.le_of_ble_eq_true rfl) (Nat.le_of_ble_eq_true rfl) rfl ?_
        refine S_X4_isIn_16 x2 ?_
        show mK Γ M_X7_why (d + 3) Q n0 bc bs 62 [(0, .ref 0), (1, .int x1), (2, .int x2)] [.int (f_X4_isIn_16 σ x2)] 60 mSH σ
        refine mK_if_eq (tgt := 67) dX7_why_62 rfl (by decide) (fun c5 => ?_) (fun c5 => ?_)
        · refine ru_iinc (lv1 := [(0, .ref 0), (1, .int x1), (2, .int (x2 + 1))]) dX7_why_67 rfl (.tail _ (.tail _ (.head _))) qic_1 (by decide) rfl ?_
          refine mK_goto (tgt := 20) dX7_why_70 (by decide) ?_
          exact ((((h.2 c1).1 c3).2 c4).1 c5)
        · refine mK_iload_n dX7_why_65 rfl rfl (.tail _ (.tail _ (.head _))) ?_
          exact mK_iret dX7_why_66 rfl ((((h.2 c1).1 c3).2 c4).2 c5)
set_option maxRecDepth 20000 in
theorem E_X7_far_0 {Γ : Nat × (Nat → Int32)} {d : Nat} {Q : mQ} {σ : mS} (a1 : Int32) (h : (((f_X0_hasItem_5 σ a1) = 0 → Q (.inr "java/lang/IndexOutOfBoundsException") 60 mSH σ) ∧ (¬ ((f_X0_hasItem_5 σ a1) = 0) → mK Γ M_X7_far (d + 3) Q 60 0 0 16 [(0, .ref 0), (2, .int 0), (3, .int (f_X0_targetOf_5 σ a1))] [] 60 mSH σ))) : mCall Γ M_X7_far (d + 3) 1 6 [.ref 0, .int a1] 60 mSH σ Q := by
  refine mCall_of rfl (by decide) (Nat.le_of_ble_eq_true rfl) (mOkC (mOk_lo (Nat.le_of_ble_eq_true rfl)) (mOkC mOk_i mOkN)) ?_
  show mK Γ M_X7_far (d + 3) Q 60 1 6 0 [(0, .ref 0), (1, .int a1)] [] 60 mSH σ
  refine mK_aload_n dX7_far_0 rfl rfl (.head _) ?_
  refine mK_iload_n dX7_far_1 rfl rfl (.tail _ (.head _)) ?_
  refine mK_invV (J := M_X7_needItem) (k := 1) (as := [.int a1]) (st := []) (c1 := 1) (s1 := 6) dX7_far_2 rfl jw_X7_needItem jn_X7_needItem rfl (Nat.le_of_ble_eq_true rfl) (Nat.le_of_ble_eq_true rfl) (Nat.le_of_ble_eq_true rfl) rfl kw_882 kw_884 kw_34 (b := 0) (Nat.le_of_ble_eq_true rfl) (Nat.le_of_ble_eq_true rfl) rfl ?_
  refine C_X7_needItem_0 a1 ?_
  refine ⟨fun c1 => ?_, fun c1 => ?_⟩
  · exact (h.1 c1)
  · show mK Γ M_X7_far (d + 3) Q 60 0 0 5 [(0, .ref 0), (1, .int a1)] [] 60 mSH σ
    refine mK_iconst dX7_far_5 rfl qic_0 ?_
    refine ru_istore_n (lv1 := [(0, .ref 0), (1, .int a1), (2, .int 0)]) dX7_far_6 rfl rfl (by decide) rfl ?_
    refine mK_aload_n dX7_far_7 rfl rfl (.head _) ?_
    refine ru_getR (k := 2) (ci := 6) (a := 5) dX7_far_8 rfl rfl rfl kw_283 ?_
    refine mK_iload_n dX7_far_11 rfl rfl (.tail _ (.head _)) ?_
    refine mK_invV (J := M_X0_targetOf) (k := 1) (as := [.int a1]) (st := []) (c1 := 0) (s1 := 0) dX7_far_12 rfl jw_X0_targetOf jn_X0_targetOf rfl (Nat.le_of_ble_eq_true rfl) (Nat.zero_le _) (Nat.zero_le _) rfl kw_891 kw_608 kw_609 (b := 5) (Nat.le_of_ble_eq_true rfl) (Nat.le_of_ble_eq_true rfl) rfl ?_
    refine S_X0_targetOf_5 a1 ?_
    show mK Γ M_X7_far (d + 3) Q 60 0 0 15 [(0, .ref 0), (1, .int a1), (2, .int 0)] [.int (f_X0_targetOf_5 σ a1)] 60 mSH σ
    refine ru_istore_n (lv1 := [(0, .ref 0), (1, .int a1), (2, .int 0), (3, .int (f_X0_targetOf_5 σ a1))]) dX7_far_15 rfl rfl (by decide) rfl ?_
    exact ru_pick [0, 2, 3] rfl (h.2 c1)
set_option maxRecDepth 20000 in
theorem T_X7_far_0_16 {Γ : Nat × (Nat → Int32)} {d n0 bc bs : Nat} {Q : mQ} {σ : mS} (x2 : Int32) (x3 : Int32) (h : ((x3 = (-1) → Q (.inl (some (.int x2))) 60 mSH σ) ∧ (¬ (x3 = (-1)) → ((40 ≤ x2 → Q (.inl (some (.int x2))) 60 mSH σ) ∧ (¬ (40 ≤ x2) → mK Γ M_X7_far (d + 3) Q n0 bc bs 16 [(0, .ref 0), (2, .int (x2 + 1)), (3, .int (f_X0_targetOf_5 σ x3))] [] 60 mSH σ))))) : mK Γ M_X7_far (d + 3) Q n0 bc bs 16 [(0, .ref 0), (2, .int x2), (3, .int x3)] [] 60 mSH σ := by
  refine mK_iload_n dX7_far_16 rfl rfl (.tail _ (.tail _ (.head _))) ?_
  refine mK_iconst dX7_far_17 rfl qic_m1 ?_
  refine mK_icmp_eq (tgt := 42) dX7_far_18 rfl (by decide) (fun c1 => ?_) (fun c1 => ?_)
  · refine mK_iload_n dX7_far_42 rfl rfl (.tail _ (.head _)) ?_
    exact mK_iret dX7_far_43 rfl (h.1 c1)
  · refine mK_iload_n dX7_far_21 rfl rfl (.tail _ (.head _)) ?_
    refine mK_bipush dX7_far_22 rfl qbi_40 ?_
    refine mK_icmp_ge (tgt := 42) dX7_far_24 rfl (by decide) (fun c2 => ?_) (fun c2 => ?_)
    · refine mK_iload_n dX7_far_42 rfl rfl (.tail _ (.head _)) ?_
      exact mK_iret dX7_far_43 rfl ((h.2 c1).1 c2)
    · refine ru_iinc (lv1 := [(0, .ref 0), (2, .int (x2 + 1)), (3, .int x3)]) dX7_far_27 rfl (.tail _ (.head _)) qic_1 (by decide) rfl ?_
      refine mK_aload_n dX7_far_30 rfl rfl (.head _) ?_
      refine ru_getR (k := 2) (ci := 6) (a := 5) dX7_far_31 rfl rfl rfl kw_283 ?_
      refine mK_iload_n dX7_far_34 rfl rfl (.tail _ (.tail _ (.head _))) ?_
      refine mK_invV (J := M_X0_targetOf) (k := 1) (as := [.int x3]) (st := []) (c1 := 0) (s1 := 0) dX7_far_35 rfl jw_X0_targetOf jn_X0_targetOf rfl (Nat.le_of_ble_eq_true rfl) (Nat.zero_le _) (Nat.zero_le _) rfl kw_891 kw_608 kw_609 (b := 5) (Nat.le_of_ble_eq_true rfl) (Nat.le_of_ble_eq_true rfl) rfl ?_
      refine S_X0_targetOf_5 x3 ?_
      show mK Γ M_X7_far (d + 3) Q n0 bc bs 38 [(0, .ref 0), (2, .int (x2 + 1)), (3, .int x3)] [.int (f_X0_targetOf_5 σ x3)] 60 mSH σ
      refine ru_istore_n (lv1 := [(0, .ref 0), (2, .int (x2 + 1)), (3, .int (f_X0_targetOf_5 σ x3))]) dX7_far_38 rfl rfl (by decide) rfl ?_
      refine mK_goto (tgt := 16) dX7_far_39 (by decide) ?_
      exact ((h.2 c1).2 c2)
set_option maxRecDepth 20000 in
theorem E_X7_oneThatFrees_0 {Γ : Nat × (Nat → Int32)} {d : Nat} {Q : mQ} {σ : mS} (a1 : Int32) (h : mK Γ M_X7_oneThatFrees (d + 6) Q 60 0 0 2 [(0, .ref 0), (1, .int a1), (2, .int 0)] [] 60 mSH σ) : mCall Γ M_X7_oneThatFrees (d + 6) 0 0 [.ref 0, .int a1] 60 mSH σ Q := by
  refine mCall_of rfl (by decide) (Nat.le_of_ble_eq_true rfl) (mOkC (mOk_lo (Nat.le_of_ble_eq_true rfl)) (mOkC mOk_i mOkN)) ?_
  show mK Γ M_X7_oneThatFrees (d + 6) Q 60 0 0 0 [(0, .ref 0), (1, .int a1)] [] 60 mSH σ
  refine mK_iconst dX7_oneThatFrees_0 rfl qic_0 ?_
  refine ru_istore_n (lv1 := [(0, .ref 0), (1, .int a1), (2, .int 0)]) dX7_oneThatFrees_1 rfl rfl (by decide) rfl ?_
  exact h
set_option maxRecDepth 20000 in
theorem T_X7_oneThatFrees_0_2 {Γ : Nat × (Nat → Int32)} {d n0 bc bs : Nat} {Q : mQ} {σ : mS} (x1 : Int32) (x2 : Int32) (h : (((f_X0_items_5 σ) ≤ x2 → Q (.inl (some (.int (-1)))) 60 mSH σ) ∧ (¬ ((f_X0_items_5 σ) ≤ x2) → ((x2 = x1 → mK Γ M_X7_oneThatFrees (d + 6) Q n0 bc bs 2 [(0, .ref 0), (1, .int x1), (2, .int (x2 + 1))] [] 60 mSH σ) ∧ (¬ (x2 = x1) → ((cV σ) ∧ (((f_X4_isIn_18 (sT_18 σ ((σ.2.1 5 11) ||| (f_X7_bit σ x2)) 0 (stR (DC σ) (bB ((σ.2.1 5 11) ||| (f_X7_bit σ x2))) (bB 0))) x1) = 0 → mK Γ M_X7_oneThatFrees (d + 6) Q n0 bc bs 2 [(0, .ref 0), (1, .int x1), (2, .int (x2 + 1))] [] 60 mSH (sT_18 σ ((σ.2.1 5 11) ||| (f_X7_bit σ x2)) 0 (stR (DC σ) (bB ((σ.2.1 5 11) ||| (f_X7_bit σ x2))) (bB 0)))) ∧ (¬ ((f_X4_isIn_18 (sT_18 σ ((σ.2.1 5 11) ||| (f_X7_bit σ x2)) 0 (stR (DC σ) (bB ((σ.2.1 5 11) ||| (f_X7_bit σ x2))) (bB 0))) x1) = 0) → Q (.inl (some (.int x2))) 60 mSH (sT_18 σ ((σ.2.1 5 11) ||| (f_X7_bit σ x2)) 0 (stR (DC σ) (bB ((σ.2.1 5 11) ||| (f_X7_bit σ x2))) (bB 0))))))))))) : mK Γ M_X7_oneThatFrees (d + 6) Q n0 bc bs 2 [(0, .ref 0), (1, .int x1), (2, .int x2)] [] 60 mSH σ := by
  refine mK_iload_n dX7_oneThatFrees_2 rfl rfl (.tail _ (.tail _ (.head _))) ?_
  refine mK_aload_n dX7_oneThatFrees_3 rfl rfl (.head _) ?_
  refine ru_getR (k := 2) (ci := 6) (a := 5) dX7_oneThatFrees_4 rfl rfl rfl kw_283 ?_
  refine mK_invV (J := M_X0_items) (k := 0) (as := []) (st := [.int x2]) (c1 := 0) (s1 := 0) dX7_oneThatFrees_7 rfl jw_X0_items jn_X0_items rfl (Nat.le_of_ble_eq_true rfl) (Nat.zero_le _) (Nat.zero_le _) rfl kw_722 kw_529 kw_530 (b := 5) (Nat.le_of_ble_eq_true rfl) (Nat.le_of_ble_eq_true rfl) rfl ?_
  refine S_X0_items_5  ?_
  show mK Γ M_X7_oneThatFrees (d + 6) Q n0 bc bs 10 [(0, .ref 0), (1, .int x1), (2, .int x2)] [.int (f_X0_items_5 σ), .int x2] 60 mSH σ
  refine mK_icmp_ge (tgt := 49) dX7_oneThatFrees_10 rfl (by decide) (fun c1 => ?_) (fun c1 => ?_)
  · refine mK_iconst dX7_oneThatFrees_49 rfl qic_m1 ?_
    exact mK_iret dX7_oneThatFrees_50 rfl (h.1 c1)
  · refine mK_iload_n dX7_oneThatFrees_13 rfl rfl (.tail _ (.tail _ (.head _))) ?_
    refine mK_iload_n dX7_oneThatFrees_14 rfl rfl (.tail _ (.head _)) ?_
    refine mK_icmp_eq (tgt := 43) dX7_oneThatFrees_15 rfl (by decide) (fun c2 => ?_) (fun c2 => ?_)
    · refine ru_iinc (lv1 := [(0, .ref 0), (1, .int x1), (2, .int (x2 + 1))]) dX7_oneThatFrees_43 rfl (.tail _ (.tail _ (.head _))) qic_1 (by decide) rfl ?_
      refine mK_goto (tgt := 2) dX7_oneThatFrees_46 (by decide) ?_
      exact ((h.2 c1).1 c2)
    · refine mK_aload_n dX7_oneThatFrees_18 rfl rfl (.head _) ?_
      refine ru_getR (k := 4) (ci := 6) (a := 18) dX7_oneThatFrees_19 rfl rfl rfl kw_285 ?_
      refine mK_iload_n dX7_oneThatFrees_22 rfl rfl (.tail _ (.tail _ (.head _))) ?_
      refine mK_invS (J := M_X7_bit) (k := 1) (as := [.int x2]) (st := [.ref 18]) (c1 := 0) (s1 := 0) dX7_oneThatFrees_23 rfl jw_X7_bit jn_X7_bit rfl (Nat.le_of_ble_eq_true rfl) (Nat.zero_le _) (Nat.zero_le _) rfl kw_1010 kw_612 ?_
      refine S_X7_bit x2 ?_
      show mK Γ M_X7_oneThatFrees (d + 6) Q n0 bc bs 26 [(0, .ref 0), (1, .int x1), (2, .int x2)] [.long (f_X7_bit σ x2), .ref 18] 60 mSH σ
      refine mK_lconst dX7_oneThatFrees_26 rfl (v := 0) rfl ?_
      refine mK_invV (J := M_X4_settle) (k := 2) (as := [.long (f_X7_bit σ x2), .long 0]) (st := []) (c1 := 0) (s1 := 0) dX7_oneThatFrees_27 rfl jw_X4_settle jn_X4_settle rfl (Nat.le_of_ble_eq_true rfl) (Nat.zero_le _) (Nat.zero_le _) rfl kw_692 kw_591 kw_592 (b := 18) (Nat.le_of_ble_eq_true rfl) (Nat.le_of_ble_eq_true rfl) rfl ?_
      refine S_settle_18 (f_X7_bit σ x2) 0 (((h.2 c1).2 c2).1) ?_
      show mK Γ M_X7_oneThatFrees (d + 6) Q n0 bc bs 30 [(0, .ref 0), (1, .int x1), (2, .int x2)] [] 60 mSH (sT_18 σ ((σ.2.1 5 11) ||| (f_X7_bit σ x2)) 0 (stR (DC σ) (bB ((σ.2.1 5 11) ||| (f_X7_bit σ x2))) (bB 0)))
      refine mK_aload_n dX7_oneThatFrees_30 rfl rfl (.head _) ?_
      refine ru_getR (k := 4) (ci := 6) (a := 18) dX7_oneThatFrees_31 rfl rfl rfl kw_285 ?_
      refine mK_iload_n dX7_oneThatFrees_34 rfl rfl (.tail _ (.head _)) ?_
      refine mK_invV (J := M_X4_isIn) (k := 1) (as := [.int x1]) (st := []) (c1 := 0) (s1 := 0) dX7_oneThatFrees_35 rfl jw_X4_isIn jn_X4_isIn rfl (Nat.le_of_ble_eq_true rfl) (Nat.zero_le _) (Nat.zero_le _) rfl kw_892 kw_615 kw_616 (b := 18) (Nat.le_of_ble_eq_true rfl) (Nat.le_of_ble_eq_true rfl) rfl ?_
      refine S_X4_isIn_18 x1 ?_
      show mK Γ M_X7_oneThatFrees (d + 6) Q n0 bc bs 38 [(0, .ref 0), (1, .int x1), (2, .int x2)] [.int (f_X4_isIn_18 (sT_18 σ ((σ.2.1 5 11) ||| (f_X7_bit σ x2)) 0 (stR (DC σ) (bB ((σ.2.1 5 11) ||| (f_X7_bit σ x2))) (bB 0))) x1)] 60 mSH (sT_18 σ ((σ.2.1 5 11) ||| (f_X7_bit σ x2)) 0 (stR (DC σ) (bB ((σ.2.1 5 11) ||| (f_X7_bit σ x2))) (bB 0)))
      refine mK_if_eq (tgt := 43) dX7_oneThatFrees_38 rfl (by decide) (fun c3 => ?_) (fun c3 => ?_)
      · refine ru_iinc (lv1 := [(0, .ref 0), (1, .int x1), (2, .int (x2 + 1))]) dX7_oneThatFrees_43 rfl (.tail _ (.tail _ (.head _))) qic_1 (by decide) rfl ?_
        refine mK_goto (tgt := 2) dX7_oneThatFrees_46 (by decide) ?_
        exact (((h.2 c1).2 c2).2.1 c3)
      · refine mK_iload_n dX7_oneThatFrees_41 rfl rfl (.tail _ (.tail _ (.head _))) ?_
        exact mK_iret dX7_oneThatFrees_42 rfl (((h.2 c1).2 c2).2.2 c3)
set_option maxRecDepth 20000 in
theorem E_X7_pairThatFrees_0 {Γ : Nat × (Nat → Int32)} {d : Nat} {Q : mQ} {σ : mS} (a1 : Int32) (h : mK Γ M_X7_pairThatFrees (d + 6) Q 60 0 0 2 [(0, .ref 0), (1, .int a1), (2, .int 0)] [] 60 mSH σ) : mCall Γ M_X7_pairThatFrees (d + 6) 0 0 [.ref 0, .int a1] 60 mSH σ Q := by
  refine mCall_of rfl (by decide) (Nat.le_of_ble_eq_true rfl) (mOkC (mOk_lo (Nat.le_of_ble_eq_true rfl)) (mOkC mOk_i mOkN)) ?_
  show mK Γ M_X7_pairThatFrees (d + 6) Q 60 0 0 0 [(0, .ref 0), (1, .int a1)] [] 60 mSH σ
  refine mK_iconst dX7_pairThatFrees_0 rfl qic_0 ?_
  refine ru_istore_n (lv1 := [(0, .ref 0), (1, .int a1), (2, .int 0)]) dX7_pairThatFrees_1 rfl rfl (by decide) rfl ?_
  exact h
set_option maxRecDepth 20000 in
theorem T_X7_pairThatFrees_0_2 {Γ : Nat × (Nat → Int32)} {d n0 bc bs : Nat} {Q : mQ} {σ : mS} (x1 : Int32) (x2 : Int32) (h : (((f_X0_items_5 σ) ≤ x2 → Q (.inl (some (.int (-1)))) 60 mSH σ) ∧ (¬ ((f_X0_items_5 σ) ≤ x2) → mK Γ M_X7_pairThatFrees (d + 6) Q n0 bc bs 17 [(0, .ref 0), (1, .int x1), (2, .int x2), (3, .int (x2 + 1))] [] 60 mSH σ))) : mK Γ M_X7_pairThatFrees (d + 6) Q n0 bc bs 2 [(0, .ref 0), (1, .int x1), (2, .int x2)] [] 60 mSH σ := by
  refine mK_iload_n dX7_pairThatFrees_2 rfl rfl (.tail _ (.tail _ (.head _))) ?_
  refine mK_aload_n dX7_pairThatFrees_3 rfl rfl (.head _) ?_
  refine ru_getR (k := 2) (ci := 6) (a := 5) dX7_pairThatFrees_4 rfl rfl rfl kw_283 ?_
  refine mK_invV (J := M_X0_items) (k := 0) (as := []) (st := [.int x2]) (c1 := 0) (s1 := 0) dX7_pairThatFrees_7 rfl jw_X0_items jn_X0_items rfl (Nat.le_of_ble_eq_true rfl) (Nat.zero_le _) (Nat.zero_le _) rfl kw_722 kw_529 kw_530 (b := 5) (Nat.le_of_ble_eq_true rfl) (Nat.le_of_ble_eq_true rfl) rfl ?_
  refine S_X0_items_5  ?_
  show mK Γ M_X7_pairThatFrees (d + 6) Q n0 bc bs 10 [(0, .ref 0), (1, .int x1), (2, .int x2)] [.int (f_X0_items_5 σ), .int x2] 60 mSH σ
  refine mK_icmp_ge (tgt := 89) dX7_pairThatFrees_10 rfl (by decide) (fun c1 => ?_) (fun c1 => ?_)
  · refine mK_iconst dX7_pairThatFrees_89 rfl qic_m1 ?_
    exact mK_iret dX7_pairThatFrees_90 rfl (h.1 c1)
  · refine mK_iload_n dX7_pairThatFrees_13 rfl rfl (.tail _ (.tail _ (.head _))) ?_
    refine mK_iconst dX7_pairThatFrees_14 rfl qic_1 ?_
    refine mK_iadd dX7_pairThatFrees_15 rfl ?_
    refine ru_istore_n (lv1 := [(0, .ref 0), (1, .int x1), (2, .int x2), (3, .int (x2 + 1))]) dX7_pairThatFrees_16 rfl rfl (by decide) rfl ?_
    exact (h.2 c1)
set_option maxRecDepth 20000 in
theorem T_X7_pairThatFrees_0_17 {Γ : Nat × (Nat → Int32)} {d n0 bc bs : Nat} {Q : mQ} {σ : mS} (x1 : Int32) (x2 : Int32) (x3 : Int32) (h : (((f_X0_items_5 σ) ≤ x3 → mK Γ M_X7_pairThatFrees (d + 6) Q n0 bc bs 2 [(0, .ref 0), (1, .int x1), (2, .int (x2 + 1))] [] 60 mSH σ) ∧ (¬ ((f_X0_items_5 σ) ≤ x3) → ((x2 = x1 → mK Γ M_X7_pairThatFrees (d + 6) Q n0 bc bs 17 [(0, .ref 0), (1, .int x1), (2, .int x2), (3, .int (x3 + 1))] [] 60 mSH σ) ∧ (¬ (x2 = x1) → ((x3 = x1 → mK Γ M_X7_pairThatFrees (d + 6) Q n0 bc bs 17 [(0, .ref 0), (1, .int x1), (2, .int x2), (3, .int (x3 + 1))] [] 60 mSH σ) ∧ (¬ (x3 = x1) → ((cV σ) ∧ (((f_X4_isIn_18 (sT_18 σ ((σ.2.1 5 11) ||| ((f_X7_bit σ x2) ||| (f_X7_bit σ x3))) 0 (stR (DC σ) (bB ((σ.2.1 5 11) ||| ((f_X7_bit σ x2) ||| (f_X7_bit σ x3)))) (bB 0))) x1) = 0 → mK Γ M_X7_pairThatFrees (d + 6) Q n0 bc bs 17 [(0, .ref 0), (1, .int x1), (2, .int x2), (3, .int (x3 + 1))] [] 60 mSH (sT_18 σ ((σ.2.1 5 11) ||| ((f_X7_bit σ x2) ||| (f_X7_bit σ x3))) 0 (stR (DC σ) (bB ((σ.2.1 5 11) ||| ((f_X7_bit σ x2) ||| (f_X7_bit σ x3)))) (bB 0)))) ∧ (¬ ((f_X4_isIn_18 (sT_18 σ ((σ.2.1 5 11) ||| ((f_X7_bit σ x2) ||| (f_X7_bit σ x3))) 0 (stR (DC σ) (bB ((σ.2.1 5 11) ||| ((f_X7_bit σ x2) ||| (f_X7_bit σ x3)))) (bB 0))) x1) = 0) → Q (.inl (some (.int (((100 * (1 + x2)) + 1) + x3)))) 60 mSH (sT_18 σ ((σ.2.1 5 11) ||| ((f_X7_bit σ x2) ||| (f_X7_bit σ x3))) 0 (stR (DC σ) (bB ((σ.2.1 5 11) ||| ((f_X7_bit σ x2) ||| (f_X7_bit σ x3)))) (bB 0))))))))))))) : mK Γ M_X7_pairThatFrees (d + 6) Q n0 bc bs 17 [(0, .ref 0), (1, .int x1), (2, .int x2), (3, .int x3)] [] 60 mSH σ := by
  refine mK_iload_n dX7_pairThatFrees_17 rfl rfl (.tail _ (.tail _ (.tail _ (.head _)))) ?_
  refine mK_aload_n dX7_pairThatFrees_18 rfl rfl (.head _) ?_
  refine ru_getR (k := 2) (ci := 6) (a := 5) dX7_pairThatFrees_19 rfl rfl rfl kw_283 ?_
  refine mK_invV (J := M_X0_items) (k := 0) (as := []) (st := [.int x3]) (c1 := 0) (s1 := 0) dX7_pairThatFrees_22 rfl jw_X0_items jn_X0_items rfl (Nat.le_of_ble_eq_true rfl) (Nat.zero_le _) (Nat.zero_le _) rfl kw_722 kw_529 kw_530 (b := 5) (Nat.le_of_ble_eq_true rfl) (Nat.le_of_ble_eq_true rfl) rfl ?_
  refine S_X0_items_5  ?_
  show mK Γ M_X7_pairThatFrees (d + 6) Q n0 bc bs 25 [(0, .ref 0), (1, .int x1), (2, .int x2), (3, .int x3)] [.int (f_X0_items_5 σ), .int x3] 60 mSH σ
  refine mK_icmp_ge (tgt := 83) dX7_pairThatFrees_25 rfl (by decide) (fun c1 => ?_) (fun c1 => ?_)
  · refine ru_iinc (lv1 := [(0, .ref 0), (1, .int x1), (2, .int (x2 + 1)), (3, .int x3)]) dX7_pairThatFrees_83 rfl (.tail _ (.tail _ (.head _))) qic_1 (by decide) rfl ?_
    refine mK_goto (tgt := 2) dX7_pairThatFrees_86 (by decide) ?_
    exact ru_pick [0, 1, 2] rfl (h.1 c1)
  · refine mK_iload_n dX7_pairThatFrees_28 rfl rfl (.tail _ (.tail _ (.head _))) ?_
    refine mK_iload_n dX7_pairThatFrees_29 rfl rfl (.tail _ (.head _)) ?_
    refine mK_icmp_eq (tgt := 77) dX7_pairThatFrees_30 rfl (by decide) (fun c2 => ?_) (fun c2 => ?_)
    · refine ru_iinc (lv1 := [(0, .ref 0), (1, .int x1), (2, .int x2), (3, .int (x3 + 1))]) dX7_pairThatFrees_77 rfl (.tail _ (.tail _ (.tail _ (.head _)))) qic_1 (by decide) rfl ?_
      refine mK_goto (tgt := 17) dX7_pairThatFrees_80 (by decide) ?_
      exact ((h.2 c1).1 c2)
    · refine mK_iload_n dX7_pairThatFrees_33 rfl rfl (.tail _ (.tail _ (.tail _ (.head _)))) ?_
      refine mK_iload_n dX7_pairThatFrees_34 rfl rfl (.tail _ (.head _)) ?_
      refine mK_icmp_eq (tgt := 77) dX7_pairThatFrees_35 rfl (by decide) (fun c3 => ?_) (fun c3 => ?_)
      · refine ru_iinc (lv1 := [(0, .ref 0), (1, .int x1), (2, .int x2), (3, .int (x3 + 1))]) dX7_pairThatFrees_77 rfl (.tail _ (.tail _ (.tail _ (.head _)))) qic_1 (by decide) rfl ?_
        refine mK_goto (tgt := 17) dX7_pairThatFrees_80 (by decide) ?_
        exact (((h.2 c1).2 c2).1 c3)
      · refine mK_aload_n dX7_pairThatFrees_38 rfl rfl (.head _) ?_
        refine ru_getR (k := 4) (ci := 6) (a := 18) dX7_pairThatFrees_39 rfl rfl rfl kw_285 ?_
        refine mK_iload_n dX7_pairThatFrees_42 rfl rfl (.tail _ (.tail _ (.head _))) ?_
        refine mK_invS (J := M_X7_bit) (k := 1) (as := [.int x2]) (st := [.ref 18]) (c1 := 0) (s1 := 0) dX7_pairThatFrees_43 rfl jw_X7_bit jn_X7_bit rfl (Nat.le_of_ble_eq_true rfl) (Nat.zero_le _) (Nat.zero_le _) rfl kw_1010 kw_612 ?_
        refine S_X7_bit x2 ?_
        show mK Γ M_X7_pairThatFrees (d + 6) Q n0 bc bs 46 [(0, .ref 0), (1, .int x1), (2, .int x2), (3, .int x3)] [.long (f_X7_bit σ x2), .ref 18] 60 mSH σ
        refine mK_iload_n dX7_pairThatFrees_46 rfl rfl (.tail _ (.tail _ (.tail _ (.head _)))) ?_
        refine mK_invS (J := M_X7_bit) (k := 1) (as := [.int x3]) (st := [.long (f_X7_bit σ x2), .ref 18]) (c1 := 0) (s1 := 0) dX7_pairThatFrees_47 rfl jw_X7_bit jn_X7_bit rfl (Nat.le_of_ble_eq_true rfl) (Nat.zero_le _) (Nat.zero_le _) rfl kw_1010 kw_612 ?_
        refine S_X7_bit x3 ?_
        show mK Γ M_X7_pairThatFrees (d + 6) Q n0 bc bs 50 [(0, .ref 0), (1, .int x1), (2, .int x2), (3, .int x3)] [.long (f_X7_bit σ x3), .long (f_X7_bit σ x2), .ref 18] 60 mSH σ
        refine mK_lor dX7_pairThatFrees_50 rfl ?_
        refine mK_lconst dX7_pairThatFrees_51 rfl (v := 0) rfl ?_
        refine mK_invV (J := M_X4_settle) (k := 2) (as := [.long ((f_X7_bit σ x2) ||| (f_X7_bit σ x3)), .long 0]) (st := []) (c1 := 0) (s1 := 0) dX7_pairThatFrees_52 rfl jw_X4_settle jn_X4_settle rfl (Nat.le_of_ble_eq_true rfl) (Nat.zero_le _) (Nat.zero_le _) rfl kw_692 kw_591 kw_592 (b := 18) (Nat.le_of_ble_eq_true rfl) (Nat.le_of_ble_eq_true rfl) rfl ?_
        refine S_settle_18 ((f_X7_bit σ x2) ||| (f_X7_bit σ x3)) 0 ((((h.2 c1).2 c2).2 c3).1) ?_
        show mK Γ M_X7_pairThatFrees (d + 6) Q n0 bc bs 55 [(0, .ref 0), (1, .int x1), (2, .int x2), (3, .int x3)] [] 60 mSH (sT_18 σ ((σ.2.1 5 11) ||| ((f_X7_bit σ x2) ||| (f_X7_bit σ x3))) 0 (stR (DC σ) (bB ((σ.2.1 5 11) ||| ((f_X7_bit σ x2) ||| (f_X7_bit σ x3)))) (bB 0)))
        refine mK_aload_n dX7_pairThatFrees_55 rfl rfl (.head _) ?_
        refine ru_getR (k := 4) (ci := 6) (a := 18) dX7_pairThatFrees_56 rfl rfl rfl kw_285 ?_
        refine mK_iload_n dX7_pairThatFrees_59 rfl rfl (.tail _ (.head _)) ?_
        refine mK_invV (J := M_X4_isIn) (k := 1) (as := [.int x1]) (st := []) (c1 := 0) (s1 := 0) dX7_pairThatFrees_60 rfl jw_X4_isIn jn_X4_isIn rfl (Nat.le_of_ble_eq_true rfl) (Nat.zero_le _) (Nat.zero_le _) rfl kw_892 kw_615 kw_616 (b := 18) (Nat.le_of_ble_eq_true rfl) (Nat.le_of_ble_eq_true rfl) rfl ?_
        refine S_X4_isIn_18 x1 ?_
        show mK Γ M_X7_pairThatFrees (d + 6) Q n0 bc bs 63 [(0, .ref 0), (1, .int x1), (2, .int x2), (3, .int x3)] [.int (f_X4_isIn_18 (sT_18 σ ((σ.2.1 5 11) ||| ((f_X7_bit σ x2) ||| (f_X7_bit σ x3))) 0 (stR (DC σ) (bB ((σ.2.1 5 11) ||| ((f_X7_bit σ x2) ||| (f_X7_bit σ x3)))) (bB 0))) x1)] 60 mSH (sT_18 σ ((σ.2.1 5 11) ||| ((f_X7_bit σ x2) ||| (f_X7_bit σ x3))) 0 (stR (DC σ) (bB ((σ.2.1 5 11) ||| ((f_X7_bit σ x2) ||| (f_X7_bit σ x3)))) (bB 0)))
        refine mK_if_eq (tgt := 77) dX7_pairThatFrees_63 rfl (by decide) (fun c4 => ?_) (fun c4 => ?_)
        · refine ru_iinc (lv1 := [(0, .ref 0), (1, .int x1), (2, .int x2), (3, .int (x3 + 1))]) dX7_pairThatFrees_77 rfl (.tail _ (.tail _ (.tail _ (.head _)))) qic_1 (by decide) rfl ?_
          refine mK_goto (tgt := 17) dX7_pairThatFrees_80 (by decide) ?_
          exact ((((h.2 c1).2 c2).2 c3).2.1 c4)
        · refine mK_bipush dX7_pairThatFrees_66 rfl qbi_100 ?_
          refine mK_iconst dX7_pairThatFrees_68 rfl qic_1 ?_
          refine mK_iload_n dX7_pairThatFrees_69 rfl rfl (.tail _ (.tail _ (.head _))) ?_
          refine mK_iadd dX7_pairThatFrees_70 rfl ?_
          refine mK_imul dX7_pairThatFrees_71 rfl ?_
          refine mK_iconst dX7_pairThatFrees_72 rfl qic_1 ?_
          refine mK_iadd dX7_pairThatFrees_73 rfl ?_
          refine mK_iload_n dX7_pairThatFrees_74 rfl rfl (.tail _ (.tail _ (.tail _ (.head _)))) ?_
          refine mK_iadd dX7_pairThatFrees_75 rfl ?_
          exact mK_iret dX7_pairThatFrees_76 rfl ((((h.2 c1).2 c2).2 c3).2.2 c4)
set_option maxRecDepth 20000 in
theorem E_X7_bestFor_0 {Γ : Nat × (Nat → Int32)} {d : Nat} {Q : mQ} {σ : mS} (a1 : Int32) (a2 : Int64) (a3 : Int32) (h : mCall Γ M_X4_leadOf (d + 5) 0 0 [.ref 16, .int a1] 60 mSH σ (mRt Γ M_X7_bestFor (d + 6) Q 60 0 0 11 [(0, .ref 0), (1, .int a1), (2, .long a2), (4, .int a3), (5, .int (-1))] [])) : mCall Γ M_X7_bestFor (d + 6) 0 0 [.ref 0, .int a1, .long a2, .int a3] 60 mSH σ Q := by
  refine mCall_of rfl (by decide) (Nat.le_of_ble_eq_true rfl) (mOkC (mOk_lo (Nat.le_of_ble_eq_true rfl)) (mOkC mOk_i (mOkC mOk_l (mOkC mOk_i mOkN)))) ?_
  show mK Γ M_X7_bestFor (d + 6) Q 60 0 0 0 [(0, .ref 0), (1, .int a1), (2, .long a2), (4, .int a3)] [] 60 mSH σ
  refine mK_iconst dX7_bestFor_0 rfl qic_m1 ?_
  refine ru_istore (lv1 := [(0, .ref 0), (1, .int a1), (2, .long a2), (4, .int a3), (5, .int (-1))]) dX7_bestFor_1 rfl (by decide) rfl ?_
  refine mK_aload_n dX7_bestFor_3 rfl rfl (.head _) ?_
  refine ru_getR (k := 3) (ci := 6) (a := 16) dX7_bestFor_4 rfl rfl rfl kw_284 ?_
  refine mK_iload_n dX7_bestFor_7 rfl rfl (.tail _ (.head _)) ?_
  refine mK_invV (J := M_X4_leadOf) (k := 1) (as := [.int a1]) (st := []) (c1 := 0) (s1 := 0) dX7_bestFor_8 rfl jw_X4_leadOf jn_X4_leadOf rfl (Nat.le_of_ble_eq_true rfl) (Nat.zero_le _) (Nat.zero_le _) rfl kw_871 kw_872 kw_873 (b := 16) (Nat.le_of_ble_eq_true rfl) (Nat.le_of_ble_eq_true rfl) rfl ?_
  exact h
set_option maxRecDepth 20000 in
theorem T_X7_bestFor_0_11a {Γ : Nat × (Nat → Int32)} {d n0 bc bs : Nat} {Q : mQ} {σ : mS} (x1 : Int32) (x2 : Int64) (x4 : Int32) (x5 : Int32) (r : Int32) (h : mK Γ M_X7_bestFor (d + 6) Q n0 bc bs 16 [(0, .ref 0), (1, .int x1), (2, .long x2), (4, .int x4), (5, .int x5), (6, .int r), (7, .int 0)] [] 60 mSH σ) : mRt Γ M_X7_bestFor (d + 6) Q n0 bc bs 11 [(0, .ref 0), (1, .int x1), (2, .long x2), (4, .int x4), (5, .int x5)] [] (.inl (some (.int r))) 60 mSH σ := by
  show mK Γ M_X7_bestFor (d + 6) Q n0 bc bs 11 [(0, .ref 0), (1, .int x1), (2, .long x2), (4, .int x4), (5, .int x5)] [.int r] 60 mSH σ
  refine ru_istore (lv1 := [(0, .ref 0), (1, .int x1), (2, .long x2), (4, .int x4), (5, .int x5), (6, .int r)]) dX7_bestFor_11 rfl (by decide) rfl ?_
  refine mK_iconst dX7_bestFor_13 rfl qic_0 ?_
  refine ru_istore (lv1 := [(0, .ref 0), (1, .int x1), (2, .long x2), (4, .int x4), (5, .int x5), (6, .int r), (7, .int 0)]) dX7_bestFor_14 rfl (by decide) rfl ?_
  exact h
set_option maxRecDepth 20000 in
theorem T_X7_bestFor_0_16 {Γ : Nat × (Nat → Int32)} {d n0 bc bs : Nat} {Q : mQ} {σ : mS} (x1 : Int32) (x2 : Int64) (x4 : Int32) (x5 : Int32) (x6 : Int32) (x7 : Int32) (h : (((f_X0_items_5 σ) ≤ x7 → Q (.inl (some (.int x5))) 60 mSH σ) ∧ (¬ ((f_X0_items_5 σ) ≤ x7) → (((x2 &&& (f_X7_bit σ x7)) = 0 → mK Γ M_X7_bestFor (d + 6) Q n0 bc bs 16 [(0, .ref 0), (1, .int x1), (2, .long x2), (4, .int x4), (5, .int x5), (6, .int x6), (7, .int (x7 + 1))] [] 60 mSH σ) ∧ (¬ ((x2 &&& (f_X7_bit σ x7)) = 0) → ((x4 = 0 → ((cV σ) ∧ mCall Γ M_X4_leadOf (d + 5) 0 0 [.ref 18, .int x1] 60 mSH (sT_18 σ ((σ.2.1 5 11) ||| 0) (f_X7_bit σ x7) (stR (DC σ) (bB ((σ.2.1 5 11) ||| 0)) (bB (f_X7_bit σ x7)))) (mRt Γ M_X7_bestFor (d + 6) Q n0 bc bs 83 [(0, .ref 0), (1, .int x1), (2, .long x2), (4, .int x4), (5, .int x5), (6, .int x6), (7, .int x7)] []))) ∧ (¬ (x4 = 0) → ((cV σ) ∧ mCall Γ M_X4_leadOf (d + 5) 0 0 [.ref 18, .int x1] 60 mSH (sT_18 σ ((σ.2.1 5 11) ||| (f_X7_bit σ x7)) 0 (stR (DC σ) (bB ((σ.2.1 5 11) ||| (f_X7_bit σ x7))) (bB 0))) (mRt Γ M_X7_bestFor (d + 6) Q n0 bc bs 83 [(0, .ref 0), (1, .int x1), (2, .long x2), (4, .int x4), (5, .int x5), (6, .int x6), (7, .int x7)] []))))))))) : mK Γ M_X7_bestFor (d + 6) Q n0 bc bs 16 [(0, .ref 0), (1, .int x1), (2, .long x2), (4, .int x4), (5, .int x5), (6, .int x6), (7, .int x7)] [] 60 mSH σ := by
  refine mK_iload dX7_bestFor_16 rfl (.tail _ (.tail _ (.tail _ (.tail _ (.tail _ (.tail _ (.head _))))))) ?_
  refine mK_aload_n dX7_bestFor_18 rfl rfl (.head _) ?_
  refine ru_getR (k := 2) (ci := 6) (a := 5) dX7_bestFor_19 rfl rfl rfl kw_283 ?_
  refine mK_invV (J := M_X0_items) (k := 0) (as := []) (st := [.int x7]) (c1 := 0) (s1 := 0) dX7_bestFor_22 rfl jw_X0_items jn_X0_items rfl (Nat.le_of_ble_eq_true rfl) (Nat.zero_le _) (Nat.zero_le _) rfl kw_722 kw_529 kw_530 (b := 5) (Nat.le_of_ble_eq_true rfl) (Nat.le_of_ble_eq_true rfl) rfl ?_
  refine S_X0_items_5  ?_
  show mK Γ M_X7_bestFor (d + 6) Q n0 bc bs 25 [(0, .ref 0), (1, .int x1), (2, .long x2), (4, .int x4), (5, .int x5), (6, .int x6), (7, .int x7)] [.int (f_X0_items_5 σ), .int x7] 60 mSH σ
  refine mK_icmp_ge (tgt := 106) dX7_bestFor_25 rfl (by decide) (fun c1 => ?_) (fun c1 => ?_)
  · refine mK_iload dX7_bestFor_106 rfl (.tail _ (.tail _ (.tail _ (.tail _ (.head _))))) ?_
    exact mK_iret dX7_bestFor_108 rfl (h.1 c1)
  · refine mK_lload_n dX7_bestFor_28 rfl rfl (.tail _ (.tail _ (.head _))) ?_
    refine mK_iload dX7_bestFor_29 rfl (.tail _ (.tail _ (.tail _ (.tail _ (.tail _ (.tail _ (.head _))))))) ?_
    refine mK_invS (J := M_X7_bit) (k := 1) (as := [.int x7]) (st := [.long x2]) (c1 := 0) (s1 := 0) dX7_bestFor_31 rfl jw_X7_bit jn_X7_bit rfl (Nat.le_of_ble_eq_true rfl) (Nat.zero_le _) (Nat.zero_le _) rfl kw_1010 kw_612 ?_
    refine S_X7_bit x7 ?_
    show mK Γ M_X7_bestFor (d + 6) Q n0 bc bs 34 [(0, .ref 0), (1, .int x1), (2, .long x2), (4, .int x4), (5, .int x5), (6, .int x6), (7, .int x7)] [.long (f_X7_bit σ x7), .long x2] 60 mSH σ
    refine mK_land dX7_bestFor_34 rfl ?_
    refine mK_lconst dX7_bestFor_35 rfl (v := 0) rfl ?_
    refine ru_lif_eq (tgt := 100) dX7_bestFor_36 rfl dX7_bestFor_37 rfl (by decide) (fun c2 => ?_) (fun c2 => ?_)
    · refine ru_iinc (lv1 := [(0, .ref 0), (1, .int x1), (2, .long x2), (4, .int x4), (5, .int x5), (6, .int x6), (7, .int (x7 + 1))]) dX7_bestFor_100 rfl (.tail _ (.tail _ (.tail _ (.tail _ (.tail _ (.tail _ (.head _))))))) qic_1 (by decide) rfl ?_
      refine mK_goto (tgt := 16) dX7_bestFor_103 (by decide) ?_
      exact ((h.2 c1).1 c2)
    · refine mK_aload_n dX7_bestFor_40 rfl rfl (.head _) ?_
      refine ru_getR (k := 4) (ci := 6) (a := 18) dX7_bestFor_41 rfl rfl rfl kw_285 ?_
      refine mK_iload dX7_bestFor_44 rfl (.tail _ (.tail _ (.tail _ (.head _)))) ?_
      refine mK_if_eq (tgt := 57) dX7_bestFor_46 rfl (by decide) (fun c3 => ?_) (fun c3 => ?_)
      · refine mK_lconst dX7_bestFor_57 rfl (v := 0) rfl ?_
        refine mK_iload dX7_bestFor_58 rfl (.tail _ (.tail _ (.tail _ (.head _)))) ?_
        refine mK_if_eq (tgt := 67) dX7_bestFor_60 rfl (by decide) (fun c4 => ?_) (fun c4 => ?_)
        · refine mK_iload dX7_bestFor_67 rfl (.tail _ (.tail _ (.tail _ (.tail _ (.tail _ (.tail _ (.head _))))))) ?_
          refine mK_invS (J := M_X7_bit) (k := 1) (as := [.int x7]) (st := [.long 0, .ref 18]) (c1 := 0) (s1 := 0) dX7_bestFor_69 rfl jw_X7_bit jn_X7_bit rfl (Nat.le_of_ble_eq_true rfl) (Nat.zero_le _) (Nat.zero_le _) rfl kw_1010 kw_612 ?_
          refine S_X7_bit x7 ?_
          show mK Γ M_X7_bestFor (d + 6) Q n0 bc bs 72 [(0, .ref 0), (1, .int x1), (2, .long x2), (4, .int x4), (5, .int x5), (6, .int x6), (7, .int x7)] [.long (f_X7_bit σ x7), .long 0, .ref 18] 60 mSH σ
          refine mK_invV (J := M_X4_settle) (k := 2) (as := [.long 0, .long (f_X7_bit σ x7)]) (st := []) (c1 := 0) (s1 := 0) dX7_bestFor_72 rfl jw_X4_settle jn_X4_settle rfl (Nat.le_of_ble_eq_true rfl) (Nat.zero_le _) (Nat.zero_le _) rfl kw_692 kw_591 kw_592 (b := 18) (Nat.le_of_ble_eq_true rfl) (Nat.le_of_ble_eq_true rfl) rfl ?_
          refine S_settle_18 0 (f_X7_bit σ x7) ((((h.2 c1).2 c2).1 c3).1) ?_
          show mK Γ M_X7_bestFor (d + 6) Q n0 bc bs 75 [(0, .ref 0), (1, .int x1), (2, .long x2), (4, .int x4), (5, .int x5), (6, .int x6), (7, .int x7)] [] 60 mSH (sT_18 σ ((σ.2.1 5 11) ||| 0) (f_X7_bit σ x7) (stR (DC σ) (bB ((σ.2.1 5 11) ||| 0)) (bB (f_X7_bit σ x7))))
          refine mK_aload_n dX7_bestFor_75 rfl rfl (.head _) ?_
          refine ru_getR (k := 4) (ci := 6) (a := 18) dX7_bestFor_76 rfl rfl rfl kw_285 ?_
          refine mK_iload_n dX7_bestFor_79 rfl rfl (.tail _ (.head _)) ?_
          refine mK_invV (J := M_X4_leadOf) (k := 1) (as := [.int x1]) (st := []) (c1 := 0) (s1 := 0) dX7_bestFor_80 rfl jw_X4_leadOf jn_X4_leadOf rfl (Nat.le_of_ble_eq_true rfl) (Nat.zero_le _) (Nat.zero_le _) rfl kw_871 kw_872 kw_873 (b := 18) (Nat.le_of_ble_eq_true rfl) (Nat.le_of_ble_eq_true rfl) rfl ?_
          exact (((h.2 c1).2 c2).1 c3).2
        · exact absurd c3 c4
      · refine mK_iload dX7_bestFor_49 rfl (.tail _ (.tail _ (.tail _ (.tail _ (.tail _ (.tail _ (.head _))))))) ?_
        refine mK_invS (J := M_X7_bit) (k := 1) (as := [.int x7]) (st := [.ref 18]) (c1 := 0) (s1 := 0) dX7_bestFor_51 rfl jw_X7_bit jn_X7_bit rfl (Nat.le_of_ble_eq_true rfl) (Nat.zero_le _) (Nat.zero_le _) rfl kw_1010 kw_612 ?_
        refine S_X7_bit x7 ?_
        show mK Γ M_X7_bestFor (d + 6) Q n0 bc bs 54 [(0, .ref 0), (1, .int x1), (2, .long x2), (4, .int x4), (5, .int x5), (6, .int x6), (7, .int x7)] [.long (f_X7_bit σ x7), .ref 18] 60 mSH σ
        refine mK_goto (tgt := 58) dX7_bestFor_54 (by decide) ?_
        refine mK_iload dX7_bestFor_58 rfl (.tail _ (.tail _ (.tail _ (.head _)))) ?_
        refine mK_if_eq (tgt := 67) dX7_bestFor_60 rfl (by decide) (fun c5 => ?_) (fun c5 => ?_)
        · exact absurd c5 c3
        · refine mK_lconst dX7_bestFor_63 rfl (v := 0) rfl ?_
          refine mK_goto (tgt := 72) dX7_bestFor_64 (by decide) ?_
          refine mK_invV (J := M_X4_settle) (k := 2) (as := [.long (f_X7_bit σ x7), .long 0]) (st := []) (c1 := 0) (s1 := 0) dX7_bestFor_72 rfl jw_X4_settle jn_X4_settle rfl (Nat.le_of_ble_eq_true rfl) (Nat.zero_le _) (Nat.zero_le _) rfl kw_692 kw_591 kw_592 (b := 18) (Nat.le_of_ble_eq_true rfl) (Nat.le_of_ble_eq_true rfl) rfl ?_
          refine S_settle_18 (f_X7_bit σ x7) 0 ((((h.2 c1).2 c2).2 c3).1) ?_
          show mK Γ M_X7_bestFor (d + 6) Q n0 bc bs 75 [(0, .ref 0), (1, .int x1), (2, .long x2), (4, .int x4), (5, .int x5), (6, .int x6), (7, .int x7)] [] 60 mSH (sT_18 σ ((σ.2.1 5 11) ||| (f_X7_bit σ x7)) 0 (stR (DC σ) (bB ((σ.2.1 5 11) ||| (f_X7_bit σ x7))) (bB 0)))
          refine mK_aload_n dX7_bestFor_75 rfl rfl (.head _) ?_
          refine ru_getR (k := 4) (ci := 6) (a := 18) dX7_bestFor_76 rfl rfl rfl kw_285 ?_
          refine mK_iload_n dX7_bestFor_79 rfl rfl (.tail _ (.head _)) ?_
          refine mK_invV (J := M_X4_leadOf) (k := 1) (as := [.int x1]) (st := []) (c1 := 0) (s1 := 0) dX7_bestFor_80 rfl jw_X4_leadOf jn_X4_leadOf rfl (Nat.le_of_ble_eq_true rfl) (Nat.zero_le _) (Nat.zero_le _) rfl kw_871 kw_872 kw_873 (b := 18) (Nat.le_of_ble_eq_true rfl) (Nat.le_of_ble_eq_true rfl) rfl ?_
          exact (((h.2 c1).2 c2).2 c3).2
set_option maxRecDepth 20000 in
theorem T_X7_bestFor_0_83a {Γ : Nat × (Nat → Int32)} {d n0 bc bs : Nat} {Q : mQ} {σ : mS} (x1 : Int32) (x2 : Int64) (x4 : Int32) (x5 : Int32) (x6 : Int32) (x7 : Int32) (r : Int32) (h : ((r ≤ x6 → mK Γ M_X7_bestFor (d + 6) Q n0 bc bs 16 [(0, .ref 0), (1, .int x1), (2, .long x2), (4, .int x4), (5, .int x5), (6, .int x6), (7, .int (x7 + 1))] [] 60 mSH σ) ∧ (¬ (r ≤ x6) → mK Γ M_X7_bestFor (d + 6) Q n0 bc bs 16 [(0, .ref 0), (1, .int x1), (2, .long x2), (4, .int x4), (5, .int x7), (6, .int r), (7, .int (x7 + 1))] [] 60 mSH σ))) : mRt Γ M_X7_bestFor (d + 6) Q n0 bc bs 83 [(0, .ref 0), (1, .int x1), (2, .long x2), (4, .int x4), (5, .int x5), (6, .int x6), (7, .int x7)] [] (.inl (some (.int r))) 60 mSH σ := by
  show mK Γ M_X7_bestFor (d + 6) Q n0 bc bs 83 [(0, .ref 0), (1, .int x1), (2, .long x2), (4, .int x4), (5, .int x5), (6, .int x6), (7, .int x7)] [.int r] 60 mSH σ
  refine ru_istore (lv1 := [(0, .ref 0), (1, .int x1), (2, .long x2), (4, .int x4), (5, .int x5), (6, .int x6), (7, .int x7), (8, .int r)]) dX7_bestFor_83 rfl (by decide) rfl ?_
  refine mK_iload dX7_bestFor_85 rfl (.tail _ (.tail _ (.tail _ (.tail _ (.tail _ (.tail _ (.tail _ (.head _)))))))) ?_
  refine mK_iload dX7_bestFor_87 rfl (.tail _ (.tail _ (.tail _ (.tail _ (.tail _ (.head _)))))) ?_
  refine mK_icmp_le (tgt := 100) dX7_bestFor_89 rfl (by decide) (fun c1 => ?_) (fun c1 => ?_)
  · refine ru_iinc (lv1 := [(0, .ref 0), (1, .int x1), (2, .long x2), (4, .int x4), (5, .int x5), (6, .int x6), (7, .int (x7 + 1)), (8, .int r)]) dX7_bestFor_100 rfl (.tail _ (.tail _ (.tail _ (.tail _ (.tail _ (.tail _ (.head _))))))) qic_1 (by decide) rfl ?_
    refine mK_goto (tgt := 16) dX7_bestFor_103 (by decide) ?_
    exact ru_pick [0, 1, 2, 3, 4, 5, 6] rfl (h.1 c1)
  · refine mK_iload dX7_bestFor_92 rfl (.tail _ (.tail _ (.tail _ (.tail _ (.tail _ (.tail _ (.tail _ (.head _)))))))) ?_
    refine ru_istore (lv1 := [(0, .ref 0), (1, .int x1), (2, .long x2), (4, .int x4), (5, .int x5), (6, .int r), (7, .int x7), (8, .int r)]) dX7_bestFor_94 rfl (by decide) rfl ?_
    refine mK_iload dX7_bestFor_96 rfl (.tail _ (.tail _ (.tail _ (.tail _ (.tail _ (.tail _ (.head _))))))) ?_
    refine ru_istore (lv1 := [(0, .ref 0), (1, .int x1), (2, .long x2), (4, .int x4), (5, .int x7), (6, .int r), (7, .int x7), (8, .int r)]) dX7_bestFor_98 rfl (by decide) rfl ?_
    refine ru_iinc (lv1 := [(0, .ref 0), (1, .int x1), (2, .long x2), (4, .int x4), (5, .int x7), (6, .int r), (7, .int (x7 + 1)), (8, .int r)]) dX7_bestFor_100 rfl (.tail _ (.tail _ (.tail _ (.tail _ (.tail _ (.tail _ (.head _))))))) qic_1 (by decide) rfl ?_
    refine mK_goto (tgt := 16) dX7_bestFor_103 (by decide) ?_
    exact ru_pick [0, 1, 2, 3, 4, 5, 6] rfl (h.2 c1)
