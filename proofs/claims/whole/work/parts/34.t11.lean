set_option maxRecDepth 20000 in
theorem E_X9_lead_26_52 {Γ : Nat × (Nat → Int32)} {d : Nat} {Q : mQ} {σ : mS} (a1 : Int32) (h : mCall Γ M_X9_score (d + 1) 0 0 [.ref 26, .int a1, .ref 52] 60 mSH σ (mRt Γ M_X9_lead (d + 2) Q 60 0 0 6 [(0, .ref 26), (1, .int a1), (2, .ref 52)] [])) : mCall Γ M_X9_lead (d + 2) 0 0 [.ref 26, .int a1, .ref 52] 60 mSH σ Q := by
  refine mCall_of rfl (by decide) (Nat.le_of_ble_eq_true rfl) (mOkC (mOk_lo (Nat.le_of_ble_eq_true rfl)) (mOkC mOk_i (mOkC (mOk_lo (Nat.le_of_ble_eq_true rfl)) mOkN))) ?_
  show mK Γ M_X9_lead (d + 2) Q 60 0 0 0 [(0, .ref 26), (1, .int a1), (2, .ref 52)] [] 60 mSH σ
  refine mK_aload_n dX9_lead_0 rfl rfl (.head _) ?_
  refine mK_iload_n dX9_lead_1 rfl rfl (.tail _ (.head _)) ?_
  refine mK_aload_n dX9_lead_2 rfl rfl (.tail _ (.tail _ (.head _))) ?_
  refine mK_invV (J := M_X9_score) (k := 2) (as := [.int a1, .ref 52]) (st := []) (c1 := 0) (s1 := 0) dX9_lead_3 rfl jw_X9_score jn_X9_score rfl (Nat.le_of_ble_eq_true rfl) (Nat.zero_le _) (Nat.zero_le _) rfl kw_1481 kw_1483 kw_73 (b := 26) (Nat.le_of_ble_eq_true rfl) (Nat.le_of_ble_eq_true rfl) rfl ?_
  exact h
set_option maxRecDepth 20000 in
theorem T_X9_lead_26_52_6a {Γ : Nat × (Nat → Int32)} {d n0 bc bs : Nat} {Q : mQ} {σ : mS} (x1 : Int32) (r : Int32) (h : (((σ.1 32 0) = 1 → Q (.inl (some (.int r))) 60 mSH σ) ∧ (¬ ((σ.1 32 0) = 1) → mK Γ M_X9_lead (d + 2) Q n0 bc bs 27 [(0, .ref 26), (1, .int x1), (2, .ref 52), (3, .int r), (4, .int (-2147483648)), (5, .int 0)] [] 60 mSH σ))) : mRt Γ M_X9_lead (d + 2) Q n0 bc bs 6 [(0, .ref 26), (1, .int x1), (2, .ref 52)] [] (.inl (some (.int r))) 60 mSH σ := by
  show mK Γ M_X9_lead (d + 2) Q n0 bc bs 6 [(0, .ref 26), (1, .int x1), (2, .ref 52)] [.int r] 60 mSH σ
  refine ru_istore_n (lv1 := [(0, .ref 26), (1, .int x1), (2, .ref 52), (3, .int r)]) dX9_lead_6 rfl rfl (by decide) rfl ?_
  refine mK_aload_n dX9_lead_7 rfl rfl (.head _) ?_
  refine ru_getR (k := 11) (ci := 8) (a := 32) dX9_lead_8 rfl rfl rfl kw_1138 ?_
  refine ru_getIN (k := 0) (ci := 7) dX9_lead_11 rfl rfl kn_1080 ?_
  refine mK_iconst dX9_lead_14 rfl qic_1 ?_
  refine ru_icmp_ne (tgt := 20) dX9_lead_15 rfl (by decide) (fun c1 => ?_) (fun c1 => ?_)
  · refine mK_ldci dX9_lead_20 rfl kw_1489 ?_
    refine ru_istore (lv1 := [(0, .ref 26), (1, .int x1), (2, .ref 52), (3, .int r), (4, .int (-2147483648))]) dX9_lead_22 rfl (by decide) rfl ?_
    refine mK_iconst dX9_lead_24 rfl qic_0 ?_
    refine ru_istore (lv1 := [(0, .ref 26), (1, .int x1), (2, .ref 52), (3, .int r), (4, .int (-2147483648)), (5, .int 0)]) dX9_lead_25 rfl (by decide) rfl ?_
    exact (h.2 c1)
  · refine mK_iload_n dX9_lead_18 rfl rfl (.tail _ (.tail _ (.tail _ (.head _)))) ?_
    exact mK_iret dX9_lead_19 rfl (h.1 c1)
set_option maxRecDepth 20000 in
theorem T_X9_lead_26_52_27 {Γ : Nat × (Nat → Int32)} {d n0 bc bs : Nat} {Q : mQ} {σ : mS} (x1 : Int32) (x3 : Int32) (x4 : Int32) (x5 : Int32) (h : (((σ.1 32 0) ≤ x5 → Q (.inl (some (.int (x3 - x4)))) 60 mSH σ) ∧ (¬ ((σ.1 32 0) ≤ x5) → ((x5 = x1 → mK Γ M_X9_lead (d + 2) Q n0 bc bs 27 [(0, .ref 26), (1, .int x1), (2, .ref 52), (3, .int x3), (4, .int x4), (5, .int (x5 + 1))] [] 60 mSH σ) ∧ (¬ (x5 = x1) → mCall Γ M_X9_score (d + 1) 0 0 [.ref 26, .int x5, .ref 52] 60 mSH σ (mRt Γ M_X9_lead (d + 2) Q n0 bc bs 54 [(0, .ref 26), (1, .int x1), (2, .ref 52), (3, .int x3), (4, .int x4), (5, .int x5)] [.int x4])))))) : mK Γ M_X9_lead (d + 2) Q n0 bc bs 27 [(0, .ref 26), (1, .int x1), (2, .ref 52), (3, .int x3), (4, .int x4), (5, .int x5)] [] 60 mSH σ := by
  refine mK_iload dX9_lead_27 rfl (.tail _ (.tail _ (.tail _ (.tail _ (.tail _ (.head _)))))) ?_
  refine mK_aload_n dX9_lead_29 rfl rfl (.head _) ?_
  refine ru_getR (k := 11) (ci := 8) (a := 32) dX9_lead_30 rfl rfl rfl kw_1138 ?_
  refine ru_getIN (k := 0) (ci := 7) dX9_lead_33 rfl rfl kn_1080 ?_
  refine mK_icmp_ge (tgt := 65) dX9_lead_36 rfl (by decide) (fun c1 => ?_) (fun c1 => ?_)
  · refine mK_iload_n dX9_lead_65 rfl rfl (.tail _ (.tail _ (.tail _ (.head _)))) ?_
    refine mK_iload dX9_lead_66 rfl (.tail _ (.tail _ (.tail _ (.tail _ (.head _))))) ?_
    refine mK_isub dX9_lead_68 rfl ?_
    exact mK_iret dX9_lead_69 rfl (h.1 c1)
  · refine mK_iload dX9_lead_39 rfl (.tail _ (.tail _ (.tail _ (.tail _ (.tail _ (.head _)))))) ?_
    refine mK_iload_n dX9_lead_41 rfl rfl (.tail _ (.head _)) ?_
    refine mK_icmp_eq (tgt := 59) dX9_lead_42 rfl (by decide) (fun c2 => ?_) (fun c2 => ?_)
    · refine ru_iinc (lv1 := [(0, .ref 26), (1, .int x1), (2, .ref 52), (3, .int x3), (4, .int x4), (5, .int (x5 + 1))]) dX9_lead_59 rfl (.tail _ (.tail _ (.tail _ (.tail _ (.tail _ (.head _)))))) qic_1 (by decide) rfl ?_
      refine mK_goto (tgt := 27) dX9_lead_62 (by decide) ?_
      exact ((h.2 c1).1 c2)
    · refine mK_iload dX9_lead_45 rfl (.tail _ (.tail _ (.tail _ (.tail _ (.head _))))) ?_
      refine mK_aload_n dX9_lead_47 rfl rfl (.head _) ?_
      refine mK_iload dX9_lead_48 rfl (.tail _ (.tail _ (.tail _ (.tail _ (.tail _ (.head _)))))) ?_
      refine mK_aload_n dX9_lead_50 rfl rfl (.tail _ (.tail _ (.head _))) ?_
      refine mK_invV (J := M_X9_score) (k := 2) (as := [.int x5, .ref 52]) (st := [.int x4]) (c1 := 0) (s1 := 0) dX9_lead_51 rfl jw_X9_score jn_X9_score rfl (Nat.le_of_ble_eq_true rfl) (Nat.zero_le _) (Nat.zero_le _) rfl kw_1481 kw_1483 kw_73 (b := 26) (Nat.le_of_ble_eq_true rfl) (Nat.le_of_ble_eq_true rfl) rfl ?_
      exact ((h.2 c1).2 c2)
set_option maxRecDepth 20000 in
theorem T_X9_lead_26_52_54a {Γ : Nat × (Nat → Int32)} {d n0 bc bs : Nat} {Q : mQ} {σ : mS} (x1 : Int32) (x3 : Int32) (x4 : Int32) (x5 : Int32) (y0 : Int32) (r : Int32) (h : mK Γ M_X9_lead (d + 2) Q n0 bc bs 27 [(0, .ref 26), (1, .int x1), (2, .ref 52), (3, .int x3), (4, .int (if y0 < r then r else y0)), (5, .int (x5 + 1))] [] 60 mSH σ) : mRt Γ M_X9_lead (d + 2) Q n0 bc bs 54 [(0, .ref 26), (1, .int x1), (2, .ref 52), (3, .int x3), (4, .int x4), (5, .int x5)] [.int y0] (.inl (some (.int r))) 60 mSH σ := by
  show mK Γ M_X9_lead (d + 2) Q n0 bc bs 54 [(0, .ref 26), (1, .int x1), (2, .ref 52), (3, .int x3), (4, .int x4), (5, .int x5)] [.int r, .int y0] 60 mSH σ
  refine mK_max dX9_lead_54 rfl (Nat.le_of_ble_eq_true rfl) kw_1490 kw_126 kw_89 kw_127 ?_
  refine ru_istore (lv1 := [(0, .ref 26), (1, .int x1), (2, .ref 52), (3, .int x3), (4, .int (if y0 < r then r else y0)), (5, .int x5)]) dX9_lead_57 rfl (by decide) rfl ?_
  refine ru_iinc (lv1 := [(0, .ref 26), (1, .int x1), (2, .ref 52), (3, .int x3), (4, .int (if y0 < r then r else y0)), (5, .int (x5 + 1))]) dX9_lead_59 rfl (.tail _ (.tail _ (.tail _ (.tail _ (.tail _ (.head _)))))) qic_1 (by decide) rfl ?_
  refine mK_goto (tgt := 27) dX9_lead_62 (by decide) ?_
  exact h
set_option maxRecDepth 20000 in
theorem E_X9_lead_26_54 {Γ : Nat × (Nat → Int32)} {d : Nat} {Q : mQ} {σ : mS} (a1 : Int32) (h : mCall Γ M_X9_score (d + 1) 0 0 [.ref 26, .int a1, .ref 54] 60 mSH σ (mRt Γ M_X9_lead (d + 2) Q 60 0 0 6 [(0, .ref 26), (1, .int a1), (2, .ref 54)] [])) : mCall Γ M_X9_lead (d + 2) 0 0 [.ref 26, .int a1, .ref 54] 60 mSH σ Q := by
  refine mCall_of rfl (by decide) (Nat.le_of_ble_eq_true rfl) (mOkC (mOk_lo (Nat.le_of_ble_eq_true rfl)) (mOkC mOk_i (mOkC (mOk_lo (Nat.le_of_ble_eq_true rfl)) mOkN))) ?_
  show mK Γ M_X9_lead (d + 2) Q 60 0 0 0 [(0, .ref 26), (1, .int a1), (2, .ref 54)] [] 60 mSH σ
  refine mK_aload_n dX9_lead_0 rfl rfl (.head _) ?_
  refine mK_iload_n dX9_lead_1 rfl rfl (.tail _ (.head _)) ?_
  refine mK_aload_n dX9_lead_2 rfl rfl (.tail _ (.tail _ (.head _))) ?_
  refine mK_invV (J := M_X9_score) (k := 2) (as := [.int a1, .ref 54]) (st := []) (c1 := 0) (s1 := 0) dX9_lead_3 rfl jw_X9_score jn_X9_score rfl (Nat.le_of_ble_eq_true rfl) (Nat.zero_le _) (Nat.zero_le _) rfl kw_1481 kw_1483 kw_73 (b := 26) (Nat.le_of_ble_eq_true rfl) (Nat.le_of_ble_eq_true rfl) rfl ?_
  exact h
set_option maxRecDepth 20000 in
theorem T_X9_lead_26_54_6a {Γ : Nat × (Nat → Int32)} {d n0 bc bs : Nat} {Q : mQ} {σ : mS} (x1 : Int32) (r : Int32) (h : (((σ.1 32 0) = 1 → Q (.inl (some (.int r))) 60 mSH σ) ∧ (¬ ((σ.1 32 0) = 1) → mK Γ M_X9_lead (d + 2) Q n0 bc bs 27 [(0, .ref 26), (1, .int x1), (2, .ref 54), (3, .int r), (4, .int (-2147483648)), (5, .int 0)] [] 60 mSH σ))) : mRt Γ M_X9_lead (d + 2) Q n0 bc bs 6 [(0, .ref 26), (1, .int x1), (2, .ref 54)] [] (.inl (some (.int r))) 60 mSH σ := by
  show mK Γ M_X9_lead (d + 2) Q n0 bc bs 6 [(0, .ref 26), (1, .int x1), (2, .ref 54)] [.int r] 60 mSH σ
  refine ru_istore_n (lv1 := [(0, .ref 26), (1, .int x1), (2, .ref 54), (3, .int r)]) dX9_lead_6 rfl rfl (by decide) rfl ?_
  refine mK_aload_n dX9_lead_7 rfl rfl (.head _) ?_
  refine ru_getR (k := 11) (ci := 8) (a := 32) dX9_lead_8 rfl rfl rfl kw_1138 ?_
  refine ru_getIN (k := 0) (ci := 7) dX9_lead_11 rfl rfl kn_1080 ?_
  refine mK_iconst dX9_lead_14 rfl qic_1 ?_
  refine ru_icmp_ne (tgt := 20) dX9_lead_15 rfl (by decide) (fun c1 => ?_) (fun c1 => ?_)
  · refine mK_ldci dX9_lead_20 rfl kw_1489 ?_
    refine ru_istore (lv1 := [(0, .ref 26), (1, .int x1), (2, .ref 54), (3, .int r), (4, .int (-2147483648))]) dX9_lead_22 rfl (by decide) rfl ?_
    refine mK_iconst dX9_lead_24 rfl qic_0 ?_
    refine ru_istore (lv1 := [(0, .ref 26), (1, .int x1), (2, .ref 54), (3, .int r), (4, .int (-2147483648)), (5, .int 0)]) dX9_lead_25 rfl (by decide) rfl ?_
    exact (h.2 c1)
  · refine mK_iload_n dX9_lead_18 rfl rfl (.tail _ (.tail _ (.tail _ (.head _)))) ?_
    exact mK_iret dX9_lead_19 rfl (h.1 c1)
set_option maxRecDepth 20000 in
theorem T_X9_lead_26_54_27 {Γ : Nat × (Nat → Int32)} {d n0 bc bs : Nat} {Q : mQ} {σ : mS} (x1 : Int32) (x3 : Int32) (x4 : Int32) (x5 : Int32) (h : (((σ.1 32 0) ≤ x5 → Q (.inl (some (.int (x3 - x4)))) 60 mSH σ) ∧ (¬ ((σ.1 32 0) ≤ x5) → ((x5 = x1 → mK Γ M_X9_lead (d + 2) Q n0 bc bs 27 [(0, .ref 26), (1, .int x1), (2, .ref 54), (3, .int x3), (4, .int x4), (5, .int (x5 + 1))] [] 60 mSH σ) ∧ (¬ (x5 = x1) → mCall Γ M_X9_score (d + 1) 0 0 [.ref 26, .int x5, .ref 54] 60 mSH σ (mRt Γ M_X9_lead (d + 2) Q n0 bc bs 54 [(0, .ref 26), (1, .int x1), (2, .ref 54), (3, .int x3), (4, .int x4), (5, .int x5)] [.int x4])))))) : mK Γ M_X9_lead (d + 2) Q n0 bc bs 27 [(0, .ref 26), (1, .int x1), (2, .ref 54), (3, .int x3), (4, .int x4), (5, .int x5)] [] 60 mSH σ := by
  refine mK_iload dX9_lead_27 rfl (.tail _ (.tail _ (.tail _ (.tail _ (.tail _ (.head _)))))) ?_
  refine mK_aload_n dX9_lead_29 rfl rfl (.head _) ?_
  refine ru_getR (k := 11) (ci := 8) (a := 32) dX9_lead_30 rfl rfl rfl kw_1138 ?_
  refine ru_getIN (k := 0) (ci := 7) dX9_lead_33 rfl rfl kn_1080 ?_
  refine mK_icmp_ge (tgt := 65) dX9_lead_36 rfl (by decide) (fun c1 => ?_) (fun c1 => ?_)
  · refine mK_iload_n dX9_lead_65 rfl rfl (.tail _ (.tail _ (.tail _ (.head _)))) ?_
    refine mK_iload dX9_lead_66 rfl (.tail _ (.tail _ (.tail _ (.tail _ (.head _))))) ?_
    refine mK_isub dX9_lead_68 rfl ?_
    exact mK_iret dX9_lead_69 rfl (h.1 c1)
  · refine mK_iload dX9_lead_39 rfl (.tail _ (.tail _ (.tail _ (.tail _ (.tail _ (.head _)))))) ?_
    refine mK_iload_n dX9_lead_41 rfl rfl (.tail _ (.head _)) ?_
    refine mK_icmp_eq (tgt := 59) dX9_lead_42 rfl (by decide) (fun c2 => ?_) (fun c2 => ?_)
    · refine ru_iinc (lv1 := [(0, .ref 26), (1, .int x1), (2, .ref 54), (3, .int x3), (4, .int x4), (5, .int (x5 + 1))]) dX9_lead_59 rfl (.tail _ (.tail _ (.tail _ (.tail _ (.tail _ (.head _)))))) qic_1 (by decide) rfl ?_
      refine mK_goto (tgt := 27) dX9_lead_62 (by decide) ?_
      exact ((h.2 c1).1 c2)
    · refine mK_iload dX9_lead_45 rfl (.tail _ (.tail _ (.tail _ (.tail _ (.head _))))) ?_
      refine mK_aload_n dX9_lead_47 rfl rfl (.head _) ?_
      refine mK_iload dX9_lead_48 rfl (.tail _ (.tail _ (.tail _ (.tail _ (.tail _ (.head _)))))) ?_
      refine mK_aload_n dX9_lead_50 rfl rfl (.tail _ (.tail _ (.head _))) ?_
      refine mK_invV (J := M_X9_score) (k := 2) (as := [.int x5, .ref 54]) (st := [.int x4]) (c1 := 0) (s1 := 0) dX9_lead_51 rfl jw_X9_score jn_X9_score rfl (Nat.le_of_ble_eq_true rfl) (Nat.zero_le _) (Nat.zero_le _) rfl kw_1481 kw_1483 kw_73 (b := 26) (Nat.le_of_ble_eq_true rfl) (Nat.le_of_ble_eq_true rfl) rfl ?_
      exact ((h.2 c1).2 c2)
set_option maxRecDepth 20000 in
theorem T_X9_lead_26_54_54a {Γ : Nat × (Nat → Int32)} {d n0 bc bs : Nat} {Q : mQ} {σ : mS} (x1 : Int32) (x3 : Int32) (x4 : Int32) (x5 : Int32) (y0 : Int32) (r : Int32) (h : mK Γ M_X9_lead (d + 2) Q n0 bc bs 27 [(0, .ref 26), (1, .int x1), (2, .ref 54), (3, .int x3), (4, .int (if y0 < r then r else y0)), (5, .int (x5 + 1))] [] 60 mSH σ) : mRt Γ M_X9_lead (d + 2) Q n0 bc bs 54 [(0, .ref 26), (1, .int x1), (2, .ref 54), (3, .int x3), (4, .int x4), (5, .int x5)] [.int y0] (.inl (some (.int r))) 60 mSH σ := by
  show mK Γ M_X9_lead (d + 2) Q n0 bc bs 54 [(0, .ref 26), (1, .int x1), (2, .ref 54), (3, .int x3), (4, .int x4), (5, .int x5)] [.int r, .int y0] 60 mSH σ
  refine mK_max dX9_lead_54 rfl (Nat.le_of_ble_eq_true rfl) kw_1490 kw_126 kw_89 kw_127 ?_
  refine ru_istore (lv1 := [(0, .ref 26), (1, .int x1), (2, .ref 54), (3, .int x3), (4, .int (if y0 < r then r else y0)), (5, .int x5)]) dX9_lead_57 rfl (by decide) rfl ?_
  refine ru_iinc (lv1 := [(0, .ref 26), (1, .int x1), (2, .ref 54), (3, .int x3), (4, .int (if y0 < r then r else y0)), (5, .int (x5 + 1))]) dX9_lead_59 rfl (.tail _ (.tail _ (.tail _ (.tail _ (.tail _ (.head _)))))) qic_1 (by decide) rfl ?_
  refine mK_goto (tgt := 27) dX9_lead_62 (by decide) ?_
  exact h
set_option maxRecDepth 20000 in
theorem E_X9_leader_26 {Γ : Nat × (Nat → Int32)} {d : Nat} {Q : mQ} {σ : mS} (h : mK Γ M_X9_leader (d + 2) Q 60 0 0 9 [(0, .ref 26), (1, .int (-1)), (2, .int 0)] [] 60 mSH (mPI σ 26 0 0)) : mCall Γ M_X9_leader (d + 2) 0 0 [.ref 26] 60 mSH σ Q := by
  refine mCall_of rfl (by decide) (Nat.le_of_ble_eq_true rfl) (mOkC (mOk_lo (Nat.le_of_ble_eq_true rfl)) mOkN) ?_
  show mK Γ M_X9_leader (d + 2) Q 60 0 0 0 [(0, .ref 26)] [] 60 mSH σ
  refine mK_aload_n dX9_leader_0 rfl rfl (.head _) ?_
  refine mK_iconst dX9_leader_1 rfl qic_0 ?_
  refine ru_putI (k := 0) (ci := 8) dX9_leader_2 rfl rfl rfl kw_1127 ?_
  refine mK_iconst dX9_leader_5 rfl qic_m1 ?_
  refine ru_istore_n (lv1 := [(0, .ref 26), (1, .int (-1))]) dX9_leader_6 rfl rfl (by decide) rfl ?_
  refine mK_iconst dX9_leader_7 rfl qic_0 ?_
  refine ru_istore_n (lv1 := [(0, .ref 26), (1, .int (-1)), (2, .int 0)]) dX9_leader_8 rfl rfl (by decide) rfl ?_
  exact h
set_option maxRecDepth 20000 in
theorem T_X9_leader_26_9 {Γ : Nat × (Nat → Int32)} {d n0 bc bs : Nat} {Q : mQ} {σ : mS} (x1 : Int32) (x2 : Int32) (h : (((σ.1 32 0) ≤ x2 → Q (.inl (some (.int x1))) 60 mSH σ) ∧ (¬ ((σ.1 32 0) ≤ x2) → ((x1 = (-1) → mK Γ M_X9_leader (d + 2) Q n0 bc bs 9 [(0, .ref 26), (1, .int x2), (2, .int (x2 + 1))] [] 60 mSH σ) ∧ (¬ (x1 = (-1)) → mCall Γ M_X9_score (d + 1) 0 0 [.ref 26, .int x2, .ref 52] 60 mSH σ (mRt Γ M_X9_leader (d + 2) Q n0 bc bs 34 [(0, .ref 26), (1, .int x1), (2, .int x2)] [])))))) : mK Γ M_X9_leader (d + 2) Q n0 bc bs 9 [(0, .ref 26), (1, .int x1), (2, .int x2)] [] 60 mSH σ := by
  refine mK_iload_n dX9_leader_9 rfl rfl (.tail _ (.tail _ (.head _))) ?_
  refine mK_aload_n dX9_leader_10 rfl rfl (.head _) ?_
  refine ru_getR (k := 11) (ci := 8) (a := 32) dX9_leader_11 rfl rfl rfl kw_1138 ?_
  refine ru_getIN (k := 0) (ci := 7) dX9_leader_14 rfl rfl kn_1080 ?_
  refine mK_icmp_ge (tgt := 54) dX9_leader_17 rfl (by decide) (fun c1 => ?_) (fun c1 => ?_)
  · refine mK_iload_n dX9_leader_54 rfl rfl (.tail _ (.head _)) ?_
    exact mK_iret dX9_leader_55 rfl (h.1 c1)
  · refine mK_iload_n dX9_leader_20 rfl rfl (.tail _ (.head _)) ?_
    refine mK_iconst dX9_leader_21 rfl qic_m1 ?_
    refine mK_icmp_eq (tgt := 46) dX9_leader_22 rfl (by decide) (fun c2 => ?_) (fun c2 => ?_)
    · refine mK_iload_n dX9_leader_46 rfl rfl (.tail _ (.tail _ (.head _))) ?_
      refine ru_istore_n (lv1 := [(0, .ref 26), (1, .int x2), (2, .int x2)]) dX9_leader_47 rfl rfl (by decide) rfl ?_
      refine ru_iinc (lv1 := [(0, .ref 26), (1, .int x2), (2, .int (x2 + 1))]) dX9_leader_48 rfl (.tail _ (.tail _ (.head _))) qic_1 (by decide) rfl ?_
      refine mK_goto (tgt := 9) dX9_leader_51 (by decide) ?_
      exact ((h.2 c1).1 c2)
    · refine mK_aload_n dX9_leader_25 rfl rfl (.head _) ?_
      refine mK_iload_n dX9_leader_26 rfl rfl (.tail _ (.tail _ (.head _))) ?_
      refine mK_aload_n dX9_leader_27 rfl rfl (.head _) ?_
      refine ru_getR (k := 13) (ci := 8) (a := 52) dX9_leader_28 rfl rfl rfl kw_1140 ?_
      refine mK_invV (J := M_X9_score) (k := 2) (as := [.int x2, .ref 52]) (st := []) (c1 := 0) (s1 := 0) dX9_leader_31 rfl jw_X9_score jn_X9_score rfl (Nat.le_of_ble_eq_true rfl) (Nat.zero_le _) (Nat.zero_le _) rfl kw_1481 kw_1483 kw_73 (b := 26) (Nat.le_of_ble_eq_true rfl) (Nat.le_of_ble_eq_true rfl) rfl ?_
      exact ((h.2 c1).2 c2)
set_option maxRecDepth 20000 in
theorem T_X9_leader_26_34a {Γ : Nat × (Nat → Int32)} {d n0 bc bs : Nat} {Q : mQ} {σ : mS} (x1 : Int32) (x2 : Int32) (r : Int32) (h : mCall Γ M_X9_score (d + 1) 0 0 [.ref 26, .int x1, .ref 52] 60 mSH σ (mRt Γ M_X9_leader (d + 2) Q n0 bc bs 43 [(0, .ref 26), (1, .int x1), (2, .int x2)] [.int r])) : mRt Γ M_X9_leader (d + 2) Q n0 bc bs 34 [(0, .ref 26), (1, .int x1), (2, .int x2)] [] (.inl (some (.int r))) 60 mSH σ := by
  show mK Γ M_X9_leader (d + 2) Q n0 bc bs 34 [(0, .ref 26), (1, .int x1), (2, .int x2)] [.int r] 60 mSH σ
  refine mK_aload_n dX9_leader_34 rfl rfl (.head _) ?_
  refine mK_iload_n dX9_leader_35 rfl rfl (.tail _ (.head _)) ?_
  refine mK_aload_n dX9_leader_36 rfl rfl (.head _) ?_
  refine ru_getR (k := 13) (ci := 8) (a := 52) dX9_leader_37 rfl rfl rfl kw_1140 ?_
  refine mK_invV (J := M_X9_score) (k := 2) (as := [.int x1, .ref 52]) (st := [.int r]) (c1 := 0) (s1 := 0) dX9_leader_40 rfl jw_X9_score jn_X9_score rfl (Nat.le_of_ble_eq_true rfl) (Nat.zero_le _) (Nat.zero_le _) rfl kw_1481 kw_1483 kw_73 (b := 26) (Nat.le_of_ble_eq_true rfl) (Nat.le_of_ble_eq_true rfl) rfl ?_
  exact h
set_option maxRecDepth 20000 in
theorem T_X9_leader_26_43a {Γ : Nat × (Nat → Int32)} {d n0 bc bs : Nat} {Q : mQ} {σ : mS} (x1 : Int32) (x2 : Int32) (y0 : Int32) (r : Int32) (h : ((y0 ≤ r → mK Γ M_X9_leader (d + 2) Q n0 bc bs 9 [(0, .ref 26), (1, .int x1), (2, .int (x2 + 1))] [] 60 mSH σ) ∧ (¬ (y0 ≤ r) → mK Γ M_X9_leader (d + 2) Q n0 bc bs 9 [(0, .ref 26), (1, .int x2), (2, .int (x2 + 1))] [] 60 mSH σ))) : mRt Γ M_X9_leader (d + 2) Q n0 bc bs 43 [(0, .ref 26), (1, .int x1), (2, .int x2)] [.int y0] (.inl (some (.int r))) 60 mSH σ := by
  show mK Γ M_X9_leader (d + 2) Q n0 bc bs 43 [(0, .ref 26), (1, .int x1), (2, .int x2)] [.int r, .int y0] 60 mSH σ
  refine mK_icmp_le (tgt := 48) dX9_leader_43 rfl (by decide) (fun c1 => ?_) (fun c1 => ?_)
  · refine ru_iinc (lv1 := [(0, .ref 26), (1, .int x1), (2, .int (x2 + 1))]) dX9_leader_48 rfl (.tail _ (.tail _ (.head _))) qic_1 (by decide) rfl ?_
    refine mK_goto (tgt := 9) dX9_leader_51 (by decide) ?_
    exact (h.1 c1)
  · refine mK_iload_n dX9_leader_46 rfl rfl (.tail _ (.tail _ (.head _))) ?_
    refine ru_istore_n (lv1 := [(0, .ref 26), (1, .int x2), (2, .int x2)]) dX9_leader_47 rfl rfl (by decide) rfl ?_
    refine ru_iinc (lv1 := [(0, .ref 26), (1, .int x2), (2, .int (x2 + 1))]) dX9_leader_48 rfl (.tail _ (.tail _ (.head _))) qic_1 (by decide) rfl ?_
    refine mK_goto (tgt := 9) dX9_leader_51 (by decide) ?_
    exact (h.2 c1)
