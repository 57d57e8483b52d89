abbrev mSHw : mH := mNw (mNw mSH 60 (100, 3, fun _ => none)) 61 (100, 7, fun _ => none)
set_option maxRecDepth 20000 in
theorem S_X9_isConceded_26w {Γ : Nat × (Nat → Int32)} {d : Nat} {Q : mQ} {σ : mS} (a1 : Int32) (hs1 : vp_in a1 40) (hQ : Q (.inl (some (.int (f_X9_isConceded_26 σ a1)))) 62 mSHw σ) : mCall Γ M_X9_isConceded (d + 1) 0 0 [.ref 26, .int a1] 62 mSHw σ Q := by
  refine mCall_of rfl (by decide) (Nat.le_of_ble_eq_true rfl) (mOkC (mOk_lo (Nat.le_of_ble_eq_true rfl)) (mOkC mOk_i mOkN)) ?_
  show mK Γ M_X9_isConceded (d + 1) Q 62 0 0 0 [(0, .ref 26), (1, .int a1)] [] 62 mSHw σ
  refine mK_aload_n dX9_isConceded_0 rfl rfl (.head _) ?_
  refine ru_getR (k := 11) (ci := 8) (a := 32) dX9_isConceded_1 rfl rfl rfl kw_1138 ?_
  refine ru_getRN (k := 10) (ci := 7) (a := 41) dX9_isConceded_4 rfl rfl rfl kn_1100 ?_
  refine mK_iload_n dX9_isConceded_7 rfl rfl (.tail _ (.head _)) ?_
  refine ru_iald (n := 40) dX9_isConceded_8 rfl rfl hs1 ?_
  refine mK_iconst dX9_isConceded_9 rfl qic_1 ?_
  refine mK_icmp_eq (tgt := 29) dX9_isConceded_10 rfl (by decide) (fun c1 => ?_) (fun c1 => ?_)
  · refine mK_iconst dX9_isConceded_29 rfl qic_1 ?_
    refine mK_goto (tgt := 34) dX9_isConceded_30 (by decide) ?_
    exact mK_zret dX9_isConceded_34 rfl (by decide) (by rw [(show (f_X9_isConceded_26 σ a1) = 1 from by unfold f_X9_isConceded_26; exact ((if_pos c1).trans rfl))] at hQ; exact hQ)
  · refine mK_iload_n dX9_isConceded_13 rfl rfl (.tail _ (.head _)) ?_
    refine mK_aload_n dX9_isConceded_14 rfl rfl (.head _) ?_
    refine ru_getI (k := 18) (ci := 8) dX9_isConceded_15 rfl rfl kw_1145 ?_
    refine mK_icmp_eq (tgt := 29) dX9_isConceded_18 rfl (by decide) (fun c2 => ?_) (fun c2 => ?_)
    · refine mK_iconst dX9_isConceded_29 rfl qic_1 ?_
      refine mK_goto (tgt := 34) dX9_isConceded_30 (by decide) ?_
      exact mK_zret dX9_isConceded_34 rfl (by decide) (by rw [(show (f_X9_isConceded_26 σ a1) = 1 from by unfold f_X9_isConceded_26; exact ((if_neg c1).trans ((if_pos c2).trans rfl)))] at hQ; exact hQ)
    · refine mK_iload_n dX9_isConceded_21 rfl rfl (.tail _ (.head _)) ?_
      refine mK_aload_n dX9_isConceded_22 rfl rfl (.head _) ?_
      refine ru_getI (k := 19) (ci := 8) dX9_isConceded_23 rfl rfl kw_1146 ?_
      refine ru_icmp_ne (tgt := 33) dX9_isConceded_26 rfl (by decide) (fun c3 => ?_) (fun c3 => ?_)
      · refine mK_iconst dX9_isConceded_33 rfl qic_0 ?_
        exact mK_zret dX9_isConceded_34 rfl (by decide) (by rw [(show (f_X9_isConceded_26 σ a1) = 0 from by unfold f_X9_isConceded_26; exact ((if_neg c1).trans ((if_neg c2).trans ((if_neg c3).trans rfl))))] at hQ; exact hQ)
      · refine mK_iconst dX9_isConceded_29 rfl qic_1 ?_
        refine mK_goto (tgt := 34) dX9_isConceded_30 (by decide) ?_
        exact mK_zret dX9_isConceded_34 rfl (by decide) (by rw [(show (f_X9_isConceded_26 σ a1) = 1 from by unfold f_X9_isConceded_26; exact ((if_neg c1).trans ((if_neg c2).trans ((if_pos c3).trans rfl))))] at hQ; exact hQ)
set_option maxRecDepth 20000 in
theorem S_X8_isStrong_32w {Γ : Nat × (Nat → Int32)} {d : Nat} {Q : mQ} {σ : mS} (a1 : Int32) (hs1 : vp_in a1 40) (hs2 : ((σ.1 36 (a1).toNatClampNeg) = 1) → vp_in (σ.1 40 (a1).toNatClampNeg) 40) (hQ : Q (.inl (some (.int (f_X8_isStrong_32 σ a1)))) 62 mSHw σ) : mCall Γ M_X8_isStrong (d + 1) 0 0 [.ref 32, .int a1] 62 mSHw σ Q := by
  refine mCall_of rfl (by decide) (Nat.le_of_ble_eq_true rfl) (mOkC (mOk_lo (Nat.le_of_ble_eq_true rfl)) (mOkC mOk_i mOkN)) ?_
  show mK Γ M_X8_isStrong (d + 1) Q 62 0 0 0 [(0, .ref 32), (1, .int a1)] [] 62 mSHw σ
  refine mK_aload_n dX8_isStrong_0 rfl rfl (.head _) ?_
  refine ru_getR (k := 5) (ci := 7) (a := 36) dX8_isStrong_1 rfl rfl rfl kw_1089 ?_
  refine mK_iload_n dX8_isStrong_4 rfl rfl (.tail _ (.head _)) ?_
  refine ru_iald (n := 40) dX8_isStrong_5 rfl rfl hs1 ?_
  refine mK_iconst dX8_isStrong_6 rfl qic_1 ?_
  refine mK_icmp_eq (tgt := 12) dX8_isStrong_7 rfl (by decide) (fun c1 => ?_) (fun c1 => ?_)
  · refine mK_aload_n dX8_isStrong_12 rfl rfl (.head _) ?_
    refine ru_getR (k := 5) (ci := 7) (a := 36) dX8_isStrong_13 rfl rfl rfl kw_1089 ?_
    refine mK_aload_n dX8_isStrong_16 rfl rfl (.head _) ?_
    refine ru_getR (k := 9) (ci := 7) (a := 40) dX8_isStrong_17 rfl rfl rfl kw_1097 ?_
    refine mK_iload_n dX8_isStrong_20 rfl rfl (.tail _ (.head _)) ?_
    refine ru_iald (n := 40) dX8_isStrong_21 rfl rfl hs1 ?_
    refine ru_iald (n := 40) dX8_isStrong_22 rfl rfl (hs2 c1) ?_
    refine ru_if_ne (tgt := 56) dX8_isStrong_23 rfl (by decide) (fun c2 => ?_) (fun c2 => ?_)
    · refine mK_aload_n dX8_isStrong_56 rfl rfl (.head _) ?_
      refine ru_getR (k := 7) (ci := 7) (a := 38) dX8_isStrong_57 rfl rfl rfl kw_1093 ?_
      refine mK_aload_n dX8_isStrong_60 rfl rfl (.head _) ?_
      refine ru_getR (k := 9) (ci := 7) (a := 40) dX8_isStrong_61 rfl rfl rfl kw_1097 ?_
      refine mK_iload_n dX8_isStrong_64 rfl rfl (.tail _ (.head _)) ?_
      refine ru_iald (n := 40) dX8_isStrong_65 rfl rfl hs1 ?_
      refine ru_iald (n := 40) dX8_isStrong_66 rfl rfl (hs2 c1) ?_
      refine mK_aload_n dX8_isStrong_67 rfl rfl (.head _) ?_
      refine ru_getR (k := 7) (ci := 7) (a := 38) dX8_isStrong_68 rfl rfl rfl kw_1093 ?_
      refine mK_iload_n dX8_isStrong_71 rfl rfl (.tail _ (.head _)) ?_
      refine ru_iald (n := 40) dX8_isStrong_72 rfl rfl hs1 ?_
      refine mK_icmp_gt (tgt := 80) dX8_isStrong_73 rfl (by decide) (fun c3 => ?_) (fun c3 => ?_)
      · refine mK_iconst dX8_isStrong_80 rfl qic_0 ?_
        exact mK_zret dX8_isStrong_81 rfl (by decide) (by rw [(show (f_X8_isStrong_32 σ a1) = 0 from by unfold f_X8_isStrong_32; exact ((if_pos c1).trans ((if_neg c2).trans ((if_pos c3).trans rfl))))] at hQ; exact hQ)
      · refine mK_iconst dX8_isStrong_76 rfl qic_1 ?_
        refine mK_goto (tgt := 81) dX8_isStrong_77 (by decide) ?_
        exact mK_zret dX8_isStrong_81 rfl (by decide) (by rw [(show (f_X8_isStrong_32 σ a1) = 1 from by unfold f_X8_isStrong_32; exact ((if_pos c1).trans ((if_neg c2).trans ((if_neg c3).trans rfl))))] at hQ; exact hQ)
    · refine mK_aload_n dX8_isStrong_26 rfl rfl (.head _) ?_
      refine ru_getR (k := 7) (ci := 7) (a := 38) dX8_isStrong_27 rfl rfl rfl kw_1093 ?_
      refine mK_aload_n dX8_isStrong_30 rfl rfl (.head _) ?_
      refine ru_getR (k := 9) (ci := 7) (a := 40) dX8_isStrong_31 rfl rfl rfl kw_1097 ?_
      refine mK_iload_n dX8_isStrong_34 rfl rfl (.tail _ (.head _)) ?_
      refine ru_iald (n := 40) dX8_isStrong_35 rfl rfl hs1 ?_
      refine ru_iald (n := 40) dX8_isStrong_36 rfl rfl (hs2 c1) ?_
      refine mK_iconst dX8_isStrong_37 rfl qic_2 ?_
      refine mK_aload_n dX8_isStrong_38 rfl rfl (.head _) ?_
      refine ru_getR (k := 7) (ci := 7) (a := 38) dX8_isStrong_39 rfl rfl rfl kw_1093 ?_
      refine mK_iload_n dX8_isStrong_42 rfl rfl (.tail _ (.head _)) ?_
      refine ru_iald (n := 40) dX8_isStrong_43 rfl rfl hs1 ?_
      refine mK_imul dX8_isStrong_44 rfl ?_
      refine mK_icmp_gt (tgt := 52) dX8_isStrong_45 rfl (by decide) (fun c4 => ?_) (fun c4 => ?_)
      · refine mK_iconst dX8_isStrong_52 rfl qic_0 ?_
        refine mK_goto (tgt := 81) dX8_isStrong_53 (by decide) ?_
        exact mK_zret dX8_isStrong_81 rfl (by decide) (by rw [(show (f_X8_isStrong_32 σ a1) = 0 from by unfold f_X8_isStrong_32; exact ((if_pos c1).trans ((if_pos c2).trans ((if_pos c4).trans rfl))))] at hQ; exact hQ)
      · refine mK_iconst dX8_isStrong_48 rfl qic_1 ?_
        refine mK_goto (tgt := 81) dX8_isStrong_49 (by decide) ?_
        exact mK_zret dX8_isStrong_81 rfl (by decide) (by rw [(show (f_X8_isStrong_32 σ a1) = 1 from by unfold f_X8_isStrong_32; exact ((if_pos c1).trans ((if_pos c2).trans ((if_neg c4).trans rfl))))] at hQ; exact hQ)
  · refine mK_iconst dX8_isStrong_10 rfl qic_0 ?_
    exact mK_zret dX8_isStrong_11 rfl (by decide) (by rw [(show (f_X8_isStrong_32 σ a1) = 0 from by unfold f_X8_isStrong_32; exact ((if_neg c1).trans rfl))] at hQ; exact hQ)
set_option maxRecDepth 20000 in
theorem E_X9_score_26_52w {Γ : Nat × (Nat → Int32)} {d : Nat} {Q : mQ} {σ : mS} (a1 : Int32) (h : ((vp_in a1 6) ∧ mK Γ M_X9_score (d + 2) Q 62 0 0 16 [(0, .ref 26), (1, .int a1), (2, .ref 52), (3, .int ((σ.1 34 (a1).toNatClampNeg) / 60)), (4, .int 0)] [] 62 mSHw σ)) : mCall Γ M_X9_score (d + 2) 0 0 [.ref 26, .int a1, .ref 52] 62 mSHw σ Q := by
  refine mCall_of rfl (by decide) (Nat.le_of_ble_eq_true rfl) (mOkC (mOk_lo (Nat.le_of_ble_eq_true rfl)) (mOkC mOk_i (mOkC (mOk_lo (Nat.le_of_ble_eq_true rfl)) mOkN))) ?_
  show mK Γ M_X9_score (d + 2) Q 62 0 0 0 [(0, .ref 26), (1, .int a1), (2, .ref 52)] [] 62 mSHw σ
  refine mK_aload_n dX9_score_0 rfl rfl (.head _) ?_
  refine ru_getR (k := 11) (ci := 8) (a := 32) dX9_score_1 rfl rfl rfl kw_1138 ?_
  refine ru_getRN (k := 2) (ci := 7) (a := 34) dX9_score_4 rfl rfl rfl kn_1084 ?_
  refine mK_iload_n dX9_score_7 rfl rfl (.tail _ (.head _)) ?_
  refine ru_iald (n := 6) dX9_score_8 rfl rfl (h.1) ?_
  refine mK_bipush dX9_score_9 rfl qbi_60 ?_
  refine mK_idiv dX9_score_11 rfl (by decide) ?_
  refine ru_istore_n (lv1 := [(0, .ref 26), (1, .int a1), (2, .ref 52), (3, .int ((σ.1 34 (a1).toNatClampNeg) / 60))]) dX9_score_12 rfl rfl (by decide) rfl ?_
  refine mK_iconst dX9_score_13 rfl qic_0 ?_
  refine ru_istore (lv1 := [(0, .ref 26), (1, .int a1), (2, .ref 52), (3, .int ((σ.1 34 (a1).toNatClampNeg) / 60)), (4, .int 0)]) dX9_score_14 rfl (by decide) rfl ?_
  exact h.2
set_option maxRecDepth 20000 in
theorem T_X9_score_26_52_16w {Γ : Nat × (Nat → Int32)} {d n0 bc bs : Nat} {Q : mQ} {σ : mS} (x1 : Int32) (x3 : Int32) (x4 : Int32) (h : (((σ.1 32 3) ≤ x4 → Q (.inl (some (.int x3))) 62 mSHw σ) ∧ (¬ ((σ.1 32 3) ≤ x4) → ((vp_in x4 40) ∧ (((σ.1 37 (x4).toNatClampNeg) = x1 → (((f_X9_isConceded_26 σ x4) = 0 → mK Γ M_X9_score (d + 2) Q n0 bc bs 66 [(0, .ref 26), (1, .int x1), (2, .ref 52), (3, .int x3), (4, .int x4), (5, .int 1)] [] 62 mSHw σ) ∧ (¬ ((f_X9_isConceded_26 σ x4) = 0) → mK Γ M_X9_score (d + 2) Q n0 bc bs 66 [(0, .ref 26), (1, .int x1), (2, .ref 52), (3, .int (x3 + (-1))), (4, .int x4), (5, .int 1)] [] 62 mSHw σ))) ∧ (¬ ((σ.1 37 (x4).toNatClampNeg) = x1) → mK Γ M_X9_score (d + 2) Q n0 bc bs 66 [(0, .ref 26), (1, .int x1), (2, .ref 52), (3, .int x3), (4, .int x4), (5, .int 0)] [] 62 mSHw σ)))))) : mK Γ M_X9_score (d + 2) Q n0 bc bs 16 [(0, .ref 26), (1, .int x1), (2, .ref 52), (3, .int x3), (4, .int x4)] [] 62 mSHw σ := by
  refine mK_iload dX9_score_16 rfl (.tail _ (.tail _ (.tail _ (.tail _ (.head _))))) ?_
  refine mK_aload_n dX9_score_18 rfl rfl (.head _) ?_
  refine ru_getR (k := 11) (ci := 8) (a := 32) dX9_score_19 rfl rfl rfl kw_1138 ?_
  refine ru_getIN (k := 3) (ci := 7) dX9_score_22 rfl rfl kn_1086 ?_
  refine mK_icmp_ge (tgt := 265) dX9_score_25 rfl (by decide) (fun c1 => ?_) (fun c1 => ?_)
  · refine mK_iload_n dX9_score_265 rfl rfl (.tail _ (.tail _ (.tail _ (.head _)))) ?_
    exact mK_iret dX9_score_266 rfl (h.1 c1)
  · refine mK_aload_n dX9_score_28 rfl rfl (.head _) ?_
    refine ru_getR (k := 11) (ci := 8) (a := 32) dX9_score_29 rfl rfl rfl kw_1138 ?_
    refine ru_getRN (k := 6) (ci := 7) (a := 37) dX9_score_32 rfl rfl rfl kn_1092 ?_
    refine mK_iload dX9_score_35 rfl (.tail _ (.tail _ (.tail _ (.tail _ (.head _))))) ?_
    refine ru_iald (n := 40) dX9_score_37 rfl rfl ((h.2 c1).1) ?_
    refine mK_iload_n dX9_score_38 rfl rfl (.tail _ (.head _)) ?_
    refine ru_icmp_ne (tgt := 46) dX9_score_39 rfl (by decide) (fun c2 => ?_) (fun c2 => ?_)
    · refine mK_iconst dX9_score_46 rfl qic_0 ?_
      refine ru_istore (lv1 := [(0, .ref 26), (1, .int x1), (2, .ref 52), (3, .int x3), (4, .int x4), (5, .int 0)]) dX9_score_47 rfl (by decide) rfl ?_
      refine mK_iload dX9_score_49 rfl (.tail _ (.tail _ (.tail _ (.tail _ (.tail _ (.head _)))))) ?_
      refine mK_if_eq (tgt := 66) dX9_score_51 rfl (by decide) (fun c3 => ?_) (fun c3 => ?_)
      · exact ((h.2 c1).2.2 c2)
      · exact absurd (by decide) c3
    · refine mK_iconst dX9_score_42 rfl qic_1 ?_
      refine mK_goto (tgt := 47) dX9_score_43 (by decide) ?_
      refine ru_istore (lv1 := [(0, .ref 26), (1, .int x1), (2, .ref 52), (3, .int x3), (4, .int x4), (5, .int 1)]) dX9_score_47 rfl (by decide) rfl ?_
      refine mK_iload dX9_score_49 rfl (.tail _ (.tail _ (.tail _ (.tail _ (.tail _ (.head _)))))) ?_
      refine mK_if_eq (tgt := 66) dX9_score_51 rfl (by decide) (fun c4 => ?_) (fun c4 => ?_)
      · exact absurd c4 (by decide)
      · refine mK_aload_n dX9_score_54 rfl rfl (.head _) ?_
        refine mK_iload dX9_score_55 rfl (.tail _ (.tail _ (.tail _ (.tail _ (.head _))))) ?_
        refine mK_invV (J := M_X9_isConceded) (k := 1) (as := [.int x4]) (st := []) (c1 := 0) (s1 := 0) dX9_score_57 rfl jw_X9_isConceded jn_X9_isConceded rfl (Nat.le_of_ble_eq_true rfl) (Nat.zero_le _) (Nat.zero_le _) rfl kw_1437 kw_1439 kw_65 (b := 26) (Nat.le_of_ble_eq_true rfl) (Nat.le_of_ble_eq_true rfl) rfl ?_
        refine S_X9_isConceded_26w x4 ((h.2 c1).1) ?_
        show mK Γ M_X9_score (d + 2) Q n0 bc bs 60 [(0, .ref 26), (1, .int x1), (2, .ref 52), (3, .int x3), (4, .int x4), (5, .int 1)] [.int (f_X9_isConceded_26 σ x4)] 62 mSHw σ
        refine mK_if_eq (tgt := 66) dX9_score_60 rfl (by decide) (fun c5 => ?_) (fun c5 => ?_)
        · exact (((h.2 c1).2.1 c2).1 c5)
        · refine ru_iinc (lv1 := [(0, .ref 26), (1, .int x1), (2, .ref 52), (3, .int (x3 + (-1))), (4, .int x4), (5, .int 1)]) dX9_score_63 rfl (.tail _ (.tail _ (.tail _ (.head _)))) qic_m1 (by decide) rfl ?_
          exact (((h.2 c1).2.1 c2).2 c5)
set_option maxRecDepth 20000 in
theorem T_X9_score_26_52_66w {Γ : Nat × (Nat → Int32)} {d n0 bc bs : Nat} {Q : mQ} {σ : mS} (x1 : Int32) (x3 : Int32) (x4 : Int32) (x5 : Int32) (h : ((x5 = 0 → mK Γ M_X9_score (d + 2) Q n0 bc bs 131 [(0, .ref 26), (1, .int x1), (2, .ref 52), (3, .int x3), (4, .int x4), (5, .int x5)] [] 62 mSHw σ) ∧ (¬ (x5 = 0) → ((vp_in x4 40) ∧ (((σ.1 36 (x4).toNatClampNeg) = 0 → (((σ.1 52 (x4).toNatClampNeg) = 1 → mK Γ M_X9_score (d + 2) Q n0 bc bs 131 [(0, .ref 26), (1, .int x1), (2, .ref 52), (3, .int (x3 + (σ.1 38 (x4).toNatClampNeg))), (4, .int x4), (5, .int x5)] [] 62 mSHw σ) ∧ (¬ ((σ.1 52 (x4).toNatClampNeg) = 1) → (((σ.1 52 (x4).toNatClampNeg) = 0 → mK Γ M_X9_score (d + 2) Q n0 bc bs 131 [(0, .ref 26), (1, .int x1), (2, .ref 52), (3, .int (x3 + ((σ.1 38 (x4).toNatClampNeg) / 2))), (4, .int x4), (5, .int x5)] [] 62 mSHw σ) ∧ (¬ ((σ.1 52 (x4).toNatClampNeg) = 0) → mK Γ M_X9_score (d + 2) Q n0 bc bs 131 [(0, .ref 26), (1, .int x1), (2, .ref 52), (3, .int (x3 + 0)), (4, .int x4), (5, .int x5)] [] 62 mSHw σ))))) ∧ (¬ ((σ.1 36 (x4).toNatClampNeg) = 0) → mK Γ M_X9_score (d + 2) Q n0 bc bs 131 [(0, .ref 26), (1, .int x1), (2, .ref 52), (3, .int x3), (4, .int x4), (5, .int x5)] [] 62 mSHw σ)))))) : mK Γ M_X9_score (d + 2) Q n0 bc bs 66 [(0, .ref 26), (1, .int x1), (2, .ref 52), (3, .int x3), (4, .int x4), (5, .int x5)] [] 62 mSHw σ := by
  refine mK_iload dX9_score_66 rfl (.tail _ (.tail _ (.tail _ (.tail _ (.tail _ (.head _)))))) ?_
  refine mK_if_eq (tgt := 131) dX9_score_68 rfl (by decide) (fun c1 => ?_) (fun c1 => ?_)
  · exact (h.1 c1)
  · refine mK_aload_n dX9_score_71 rfl rfl (.head _) ?_
    refine ru_getR (k := 11) (ci := 8) (a := 32) dX9_score_72 rfl rfl rfl kw_1138 ?_
    refine ru_getRN (k := 5) (ci := 7) (a := 36) dX9_score_75 rfl rfl rfl kn_1090 ?_
    refine mK_iload dX9_score_78 rfl (.tail _ (.tail _ (.tail _ (.tail _ (.head _))))) ?_
    refine ru_iald (n := 40) dX9_score_80 rfl rfl ((h.2 c1).1) ?_
    refine ru_if_ne (tgt := 131) dX9_score_81 rfl (by decide) (fun c2 => ?_) (fun c2 => ?_)
    · exact ((h.2 c1).2.2 c2)
    · refine mK_iload_n dX9_score_84 rfl rfl (.tail _ (.tail _ (.tail _ (.head _)))) ?_
      refine mK_aload_n dX9_score_85 rfl rfl (.tail _ (.tail _ (.head _))) ?_
      refine mK_iload dX9_score_86 rfl (.tail _ (.tail _ (.tail _ (.tail _ (.head _))))) ?_
      refine ru_iald (n := 40) dX9_score_88 rfl rfl ((h.2 c1).1) ?_
      refine mK_iconst dX9_score_89 rfl qic_1 ?_
      refine ru_icmp_ne (tgt := 106) dX9_score_90 rfl (by decide) (fun c3 => ?_) (fun c3 => ?_)
      · refine mK_aload_n dX9_score_106 rfl rfl (.tail _ (.tail _ (.head _))) ?_
        refine mK_iload dX9_score_107 rfl (.tail _ (.tail _ (.tail _ (.tail _ (.head _))))) ?_
        refine ru_iald (n := 40) dX9_score_109 rfl rfl ((h.2 c1).1) ?_
        refine ru_if_ne (tgt := 128) dX9_score_110 rfl (by decide) (fun c4 => ?_) (fun c4 => ?_)
        · refine mK_iconst dX9_score_128 rfl qic_0 ?_
          refine mK_iadd dX9_score_129 rfl ?_
          refine ru_istore_n (lv1 := [(0, .ref 26), (1, .int x1), (2, .ref 52), (3, .int (x3 + 0)), (4, .int x4), (5, .int x5)]) dX9_score_130 rfl rfl (by decide) rfl ?_
          exact ((((h.2 c1).2.1 c2).2 c3).2 c4)
        · refine mK_aload_n dX9_score_113 rfl rfl (.head _) ?_
          refine ru_getR (k := 11) (ci := 8) (a := 32) dX9_score_114 rfl rfl rfl kw_1138 ?_
          refine ru_getRN (k := 7) (ci := 7) (a := 38) dX9_score_117 rfl rfl rfl kn_1094 ?_
          refine mK_iload dX9_score_120 rfl (.tail _ (.tail _ (.tail _ (.tail _ (.head _))))) ?_
          refine ru_iald (n := 40) dX9_score_122 rfl rfl ((h.2 c1).1) ?_
          refine mK_iconst dX9_score_123 rfl qic_2 ?_
          refine mK_idiv dX9_score_124 rfl (by decide) ?_
          refine mK_goto (tgt := 129) dX9_score_125 (by decide) ?_
          refine mK_iadd dX9_score_129 rfl ?_
          refine ru_istore_n (lv1 := [(0, .ref 26), (1, .int x1), (2, .ref 52), (3, .int (x3 + ((σ.1 38 (x4).toNatClampNeg) / 2))), (4, .int x4), (5, .int x5)]) dX9_score_130 rfl rfl (by decide) rfl ?_
          exact ((((h.2 c1).2.1 c2).2 c3).1 c4)
      · refine mK_aload_n dX9_score_93 rfl rfl (.head _) ?_
        refine ru_getR (k := 11) (ci := 8) (a := 32) dX9_score_94 rfl rfl rfl kw_1138 ?_
        refine ru_getRN (k := 7) (ci := 7) (a := 38) dX9_score_97 rfl rfl rfl kn_1094 ?_
        refine mK_iload dX9_score_100 rfl (.tail _ (.tail _ (.tail _ (.tail _ (.head _))))) ?_
        refine ru_iald (n := 40) dX9_score_102 rfl rfl ((h.2 c1).1) ?_
        refine mK_goto (tgt := 129) dX9_score_103 (by decide) ?_
        refine mK_iadd dX9_score_129 rfl ?_
        refine ru_istore_n (lv1 := [(0, .ref 26), (1, .int x1), (2, .ref 52), (3, .int (x3 + (σ.1 38 (x4).toNatClampNeg))), (4, .int x4), (5, .int x5)]) dX9_score_130 rfl rfl (by decide) rfl ?_
        exact (((h.2 c1).2.1 c2).1 c3)
set_option maxRecDepth 20000 in
theorem T_X9_score_26_52_131w {Γ : Nat × (Nat → Int32)} {d n0 bc bs : Nat} {Q : mQ} {σ : mS} (x1 : Int32) (x3 : Int32) (x4 : Int32) (x5 : Int32) (h : ((vp_in x4 40) ∧ (((σ.1 52 (x4).toNatClampNeg) = 1 → ((x5 = 0 → mK Γ M_X9_score (d + 2) Q n0 bc bs 174 [(0, .ref 26), (1, .int x1), (2, .ref 52), (3, .int x3), (4, .int x4), (5, .int x5)] [] 62 mSHw σ) ∧ (¬ (x5 = 0) → ((((σ.1 36 (x4).toNatClampNeg) = 1) → vp_in (σ.1 40 (x4).toNatClampNeg) 40) ∧ (((f_X8_isStrong_32 σ x4) = 0 → mK Γ M_X9_score (d + 2) Q n0 bc bs 174 [(0, .ref 26), (1, .int x1), (2, .ref 52), (3, .int x3), (4, .int x4), (5, .int x5)] [] 62 mSHw σ) ∧ (¬ ((f_X8_isStrong_32 σ x4) = 0) → mK Γ M_X9_score (d + 2) Q n0 bc bs 174 [(0, .ref 26), (1, .int x1), (2, .ref 52), (3, .int (x3 + ((σ.1 38 (x4).toNatClampNeg) / 2))), (4, .int x4), (5, .int x5)] [] 62 mSHw σ)))))) ∧ (¬ ((σ.1 52 (x4).toNatClampNeg) = 1) → mK Γ M_X9_score (d + 2) Q n0 bc bs 259 [(0, .ref 26), (1, .int x1), (2, .ref 52), (3, .int x3), (4, .int x4)] [] 62 mSHw σ)))) : mK Γ M_X9_score (d + 2) Q n0 bc bs 131 [(0, .ref 26), (1, .int x1), (2, .ref 52), (3, .int x3), (4, .int x4), (5, .int x5)] [] 62 mSHw σ := by
  refine mK_aload_n dX9_score_131 rfl rfl (.tail _ (.tail _ (.head _))) ?_
  refine mK_iload dX9_score_132 rfl (.tail _ (.tail _ (.tail _ (.tail _ (.head _))))) ?_
  refine ru_iald (n := 40) dX9_score_134 rfl rfl (h.1) ?_
  refine mK_iconst dX9_score_135 rfl qic_1 ?_
  refine mK_icmp_eq (tgt := 142) dX9_score_136 rfl (by decide) (fun c1 => ?_) (fun c1 => ?_)
  · refine mK_iload dX9_score_142 rfl (.tail _ (.tail _ (.tail _ (.tail _ (.tail _ (.head _)))))) ?_
    refine mK_if_eq (tgt := 174) dX9_score_144 rfl (by decide) (fun c2 => ?_) (fun c2 => ?_)
    · exact ((h.2.1 c1).1 c2)
    · refine mK_aload_n dX9_score_147 rfl rfl (.head _) ?_
      refine ru_getR (k := 11) (ci := 8) (a := 32) dX9_score_148 rfl rfl rfl kw_1138 ?_
      refine mK_iload dX9_score_151 rfl (.tail _ (.tail _ (.tail _ (.tail _ (.head _))))) ?_
      refine mK_invV (J := M_X8_isStrong) (k := 1) (as := [.int x4]) (st := []) (c1 := 0) (s1 := 0) dX9_score_153 rfl jw_X8_isStrong jn_X8_isStrong rfl (Nat.le_of_ble_eq_true rfl) (Nat.zero_le _) (Nat.zero_le _) rfl kw_1429 kw_1430 kw_1431 (b := 32) (Nat.le_of_ble_eq_true rfl) (Nat.le_of_ble_eq_true rfl) rfl ?_
      refine S_X8_isStrong_32w x4 (h.1) (((h.2.1 c1).2 c2).1) ?_
      show mK Γ M_X9_score (d + 2) Q n0 bc bs 156 [(0, .ref 26), (1, .int x1), (2, .ref 52), (3, .int x3), (4, .int x4), (5, .int x5)] [.int (f_X8_isStrong_32 σ x4)] 62 mSHw σ
      refine mK_if_eq (tgt := 174) dX9_score_156 rfl (by decide) (fun c3 => ?_) (fun c3 => ?_)
      · exact (((h.2.1 c1).2 c2).2.1 c3)
      · refine mK_iload_n dX9_score_159 rfl rfl (.tail _ (.tail _ (.tail _ (.head _)))) ?_
        refine mK_aload_n dX9_score_160 rfl rfl (.head _) ?_
        refine ru_getR (k := 11) (ci := 8) (a := 32) dX9_score_161 rfl rfl rfl kw_1138 ?_
        refine ru_getRN (k := 7) (ci := 7) (a := 38) dX9_score_164 rfl rfl rfl kn_1094 ?_
        refine mK_iload dX9_score_167 rfl (.tail _ (.tail _ (.tail _ (.tail _ (.head _))))) ?_
        refine ru_iald (n := 40) dX9_score_169 rfl rfl (h.1) ?_
        refine mK_iconst dX9_score_170 rfl qic_2 ?_
        refine mK_idiv dX9_score_171 rfl (by decide) ?_
        refine mK_iadd dX9_score_172 rfl ?_
        refine ru_istore_n (lv1 := [(0, .ref 26), (1, .int x1), (2, .ref 52), (3, .int (x3 + ((σ.1 38 (x4).toNatClampNeg) / 2))), (4, .int x4), (5, .int x5)]) dX9_score_173 rfl rfl (by decide) rfl ?_
        exact (((h.2.1 c1).2 c2).2.2 c3)
  · refine mK_goto (tgt := 259) dX9_score_139 (by decide) ?_
    exact ru_pick [0, 1, 2, 3, 4] rfl (h.2.2 c1)
set_option maxRecDepth 20000 in
theorem T_X9_score_26_52_174w {Γ : Nat × (Nat → Int32)} {d n0 bc bs : Nat} {Q : mQ} {σ : mS} (x1 : Int32) (x3 : Int32) (x4 : Int32) (x5 : Int32) (h : ((vp_in x4 40) ∧ (((σ.1 36 (x4).toNatClampNeg) = 2 → ((x5 = 0 → mK Γ M_X9_score (d + 2) Q n0 bc bs 199 [(0, .ref 26), (1, .int x1), (2, .ref 52), (3, .int x3), (4, .int x4)] [] 62 mSHw σ) ∧ (¬ (x5 = 0) → mK Γ M_X9_score (d + 2) Q n0 bc bs 199 [(0, .ref 26), (1, .int x1), (2, .ref 52), (3, .int (x3 + 1)), (4, .int x4)] [] 62 mSHw σ))) ∧ (¬ ((σ.1 36 (x4).toNatClampNeg) = 2) → mK Γ M_X9_score (d + 2) Q n0 bc bs 259 [(0, .ref 26), (1, .int x1), (2, .ref 52), (3, .int x3), (4, .int x4)] [] 62 mSHw σ)))) : mK Γ M_X9_score (d + 2) Q n0 bc bs 174 [(0, .ref 26), (1, .int x1), (2, .ref 52), (3, .int x3), (4, .int x4), (5, .int x5)] [] 62 mSHw σ := by
  refine mK_aload_n dX9_score_174 rfl rfl (.head _) ?_
  refine ru_getR (k := 11) (ci := 8) (a := 32) dX9_score_175 rfl rfl rfl kw_1138 ?_
  refine ru_getRN (k := 5) (ci := 7) (a := 36) dX9_score_178 rfl rfl rfl kn_1090 ?_
  refine mK_iload dX9_score_181 rfl (.tail _ (.tail _ (.tail _ (.tail _ (.head _))))) ?_
  refine ru_iald (n := 40) dX9_score_183 rfl rfl (h.1) ?_
  refine mK_iconst dX9_score_184 rfl qic_2 ?_
  refine mK_icmp_eq (tgt := 191) dX9_score_185 rfl (by decide) (fun c1 => ?_) (fun c1 => ?_)
  · refine mK_iload dX9_score_191 rfl (.tail _ (.tail _ (.tail _ (.tail _ (.tail _ (.head _)))))) ?_
    refine mK_if_eq (tgt := 199) dX9_score_193 rfl (by decide) (fun c2 => ?_) (fun c2 => ?_)
    · exact ru_pick [0, 1, 2, 3, 4] rfl ((h.2.1 c1).1 c2)
    · refine ru_iinc (lv1 := [(0, .ref 26), (1, .int x1), (2, .ref 52), (3, .int (x3 + 1)), (4, .int x4), (5, .int x5)]) dX9_score_196 rfl (.tail _ (.tail _ (.tail _ (.head _)))) qic_1 (by decide) rfl ?_
      exact ru_pick [0, 1, 2, 3, 4] rfl ((h.2.1 c1).2 c2)
  · refine mK_goto (tgt := 259) dX9_score_188 (by decide) ?_
    exact ru_pick [0, 1, 2, 3, 4] rfl (h.2.2 c1)
set_option maxRecDepth 20000 in
theorem T_X9_score_26_52_259w {Γ : Nat × (Nat → Int32)} {d n0 bc bs : Nat} {Q : mQ} {σ : mS} (x1 : Int32) (x3 : Int32) (x4 : Int32) (h : mK Γ M_X9_score (d + 2) Q n0 bc bs 16 [(0, .ref 26), (1, .int x1), (2, .ref 52), (3, .int x3), (4, .int (x4 + 1))] [] 62 mSHw σ) : mK Γ M_X9_score (d + 2) Q n0 bc bs 259 [(0, .ref 26), (1, .int x1), (2, .ref 52), (3, .int x3), (4, .int x4)] [] 62 mSHw σ := by
  refine ru_iinc (lv1 := [(0, .ref 26), (1, .int x1), (2, .ref 52), (3, .int x3), (4, .int (x4 + 1))]) dX9_score_259 rfl (.tail _ (.tail _ (.tail _ (.tail _ (.head _))))) qic_1 (by decide) rfl ?_
  refine mK_goto (tgt := 16) dX9_score_262 (by decide) ?_
  exact h
set_option maxRecDepth 20000 in
theorem T_X9_score_26_52_199w {Γ : Nat × (Nat → Int32)} {d n0 bc bs : Nat} {Q : mQ} {σ : mS} (x1 : Int32) (x3 : Int32) (x4 : Int32) (h : ((vp_in x4 40) ∧ ((vp_in (σ.1 40 (x4).toNatClampNeg) 40) ∧ (((σ.1 36 (σ.1 40 (x4).toNatClampNeg).toNatClampNeg) = 0 → (((σ.1 37 (σ.1 40 (x4).toNatClampNeg).toNatClampNeg) = x1 → (((σ.1 52 (σ.1 40 (x4).toNatClampNeg).toNatClampNeg) = 1 → mK Γ M_X9_score (d + 2) Q n0 bc bs 259 [(0, .ref 26), (1, .int x1), (2, .ref 52), (3, .int (x3 + (σ.1 38 (x4).toNatClampNeg))), (4, .int x4)] [] 62 mSHw σ) ∧ (¬ ((σ.1 52 (σ.1 40 (x4).toNatClampNeg).toNatClampNeg) = 1) → mK Γ M_X9_score (d + 2) Q n0 bc bs 259 [(0, .ref 26), (1, .int x1), (2, .ref 52), (3, .int x3), (4, .int x4)] [] 62 mSHw σ))) ∧ (¬ ((σ.1 37 (σ.1 40 (x4).toNatClampNeg).toNatClampNeg) = x1) → mK Γ M_X9_score (d + 2) Q n0 bc bs 259 [(0, .ref 26), (1, .int x1), (2, .ref 52), (3, .int x3), (4, .int x4)] [] 62 mSHw σ))) ∧ (¬ ((σ.1 36 (σ.1 40 (x4).toNatClampNeg).toNatClampNeg) = 0) → mK Γ M_X9_score (d + 2) Q n0 bc bs 259 [(0, .ref 26), (1, .int x1), (2, .ref 52), (3, .int x3), (4, .int x4)] [] 62 mSHw σ))))) : mK Γ M_X9_score (d + 2) Q n0 bc bs 199 [(0, .ref 26), (1, .int x1), (2, .ref 52), (3, .int x3), (4, .int x4)] [] 62 mSHw σ := by
  refine mK_aload_n dX9_score_199 rfl rfl (.head _) ?_
  refine ru_getR (k := 11) (ci := 8) (a := 32) dX9_score_200 rfl rfl rfl kw_1138 ?_
  refine ru_getRN (k := 9) (ci := 7) (a := 40) dX9_score_203 rfl rfl rfl kn_1098 ?_
  refine mK_iload dX9_score_206 rfl (.tail _ (.tail _ (.tail _ (.tail _ (.head _))))) ?_
  refine ru_iald (n := 40) dX9_score_208 rfl rfl (h.1) ?_
  refine ru_istore (lv1 := [(0, .ref 26), (1, .int x1), (2, .ref 52), (3, .int x3), (4, .int x4), (6, .int (σ.1 40 (x4).toNatClampNeg))]) dX9_score_209 rfl (by decide) rfl ?_
  refine mK_aload_n dX9_score_211 rfl rfl (.head _) ?_
  refine ru_getR (k := 11) (ci := 8) (a := 32) dX9_score_212 rfl rfl rfl kw_1138 ?_
  refine ru_getRN (k := 5) (ci := 7) (a := 36) dX9_score_215 rfl rfl rfl kn_1090 ?_
  refine mK_iload dX9_score_218 rfl (.tail _ (.tail _ (.tail _ (.tail _ (.tail _ (.head _)))))) ?_
  refine ru_iald (n := 40) dX9_score_220 rfl rfl (h.2.1) ?_
  refine ru_if_ne (tgt := 259) dX9_score_221 rfl (by decide) (fun c1 => ?_) (fun c1 => ?_)
  · exact ru_pick [0, 1, 2, 3, 4] rfl (h.2.2.2 c1)
  · refine mK_aload_n dX9_score_224 rfl rfl (.head _) ?_
    refine ru_getR (k := 11) (ci := 8) (a := 32) dX9_score_225 rfl rfl rfl kw_1138 ?_
    refine ru_getRN (k := 6) (ci := 7) (a := 37) dX9_score_228 rfl rfl rfl kn_1092 ?_
    refine mK_iload dX9_score_231 rfl (.tail _ (.tail _ (.tail _ (.tail _ (.tail _ (.head _)))))) ?_
    refine ru_iald (n := 40) dX9_score_233 rfl rfl (h.2.1) ?_
    refine mK_iload_n dX9_score_234 rfl rfl (.tail _ (.head _)) ?_
    refine ru_icmp_ne (tgt := 259) dX9_score_235 rfl (by decide) (fun c2 => ?_) (fun c2 => ?_)
    · exact ru_pick [0, 1, 2, 3, 4] rfl ((h.2.2.1 c1).2 c2)
    · refine mK_aload_n dX9_score_238 rfl rfl (.tail _ (.tail _ (.head _))) ?_
      refine mK_iload dX9_score_239 rfl (.tail _ (.tail _ (.tail _ (.tail _ (.tail _ (.head _)))))) ?_
      refine ru_iald (n := 40) dX9_score_241 rfl rfl (h.2.1) ?_
      refine mK_iconst dX9_score_242 rfl qic_1 ?_
      refine ru_icmp_ne (tgt := 259) dX9_score_243 rfl (by decide) (fun c3 => ?_) (fun c3 => ?_)
      · exact ru_pick [0, 1, 2, 3, 4] rfl (((h.2.2.1 c1).1 c2).2 c3)
      · refine mK_iload_n dX9_score_246 rfl rfl (.tail _ (.tail _ (.tail _ (.head _)))) ?_
        refine mK_aload_n dX9_score_247 rfl rfl (.head _) ?_
        refine ru_getR (k := 11) (ci := 8) (a := 32) dX9_score_248 rfl rfl rfl kw_1138 ?_
        refine ru_getRN (k := 7) (ci := 7) (a := 38) dX9_score_251 rfl rfl rfl kn_1094 ?_
        refine mK_iload dX9_score_254 rfl (.tail _ (.tail _ (.tail _ (.tail _ (.head _))))) ?_
        refine ru_iald (n := 40) dX9_score_256 rfl rfl (h.1) ?_
        refine mK_iadd dX9_score_257 rfl ?_
        refine ru_istore_n (lv1 := [(0, .ref 26), (1, .int x1), (2, .ref 52), (3, .int (x3 + (σ.1 38 (x4).toNatClampNeg))), (4, .int x4), (6, .int (σ.1 40 (x4).toNatClampNeg))]) dX9_score_258 rfl rfl (by decide) rfl ?_
        exact ru_pick [0, 1, 2, 3, 4] rfl (((h.2.2.1 c1).1 c2).1 c3)
theorem P_score_52w {Γ : Nat × (Nat → Int32)} {d n0 bc bs : Nat} {Q : mQ} {σ : mS} {p i : Nat} {tot : Int32} (h : sV σ) (hk : i < dn (DM σ))
    (h16 : mK Γ M_X9_score (d + 2) Q n0 bc bs 16 [(0, .ref 26), (1, .int (nI p)), (2, .ref 52), (3, .int tot), (4, .int (nI (i + 1)))] [] 62 mSHw σ)
    (x : Int32) (hx : sc131 (DM σ) (σ.1 52) p i (sc2 (DM σ) (σ.1 52) p i (sc1 (DM σ) (coM σ) p i x)) = tot) :
    mK Γ M_X9_score (d + 2) Q n0 bc bs 16 [(0, .ref 26), (1, .int (nI p)), (2, .ref 52), (3, .int x), (4, .int (nI i))] [] 62 mSHw σ := by
  have h40 := h.2.1
  have cl : (nI i).toNatClampNeg = i := nI_clamp (by omega)
  have h259 : mK Γ M_X9_score (d + 2) Q n0 bc bs 259 [(0, .ref 26), (1, .int (nI p)), (2, .ref 52), (3, .int tot), (4, .int (nI i))] [] 62 mSHw σ := T_X9_score_26_52_259w _ _ _ (by rw [nI_1]; exact h16)
  have h199 : dk (DM σ) i = 2 → ∀ y, sc5 (DM σ) (σ.1 52) p i y = tot → mK Γ M_X9_score (d + 2) Q n0 bc bs 199 [(0, .ref 26), (1, .int (nI p)), (2, .ref 52), (3, .int y), (4, .int (nI i))] [] 62 mSHw σ := by
    intro k2 y hy
    obtain ⟨j, hj, e⟩ : ∃ j, j < i ∧ dt (DM σ) i = nI j := by
      rcases dV_k0 h hk with q | q
      · rw [q.1] at k2; exact absurd k2 (by decide)
      · exact q.2
    rw [sc5, e, uN_nI (by omega)] at hy
    refine T_X9_score_26_52_199w _ _ _ ⟨vp_in_nI (by omega) (by omega), ?_⟩
    rw [cl, m_target hk, e, nI_clamp (by omega), m_kind (show j < dn (DM σ) by omega), m_owner (show j < dn (DM σ) by omega), m_size hk]
    refine ⟨vp_in_nI (by omega) (by omega), fun a1 => ⟨fun a2 => ⟨fun a3 => ?_, fun a3 => ?_⟩, fun a2 => ?_⟩, fun a1 => ?_⟩
    · rw [if_pos ⟨a1, a2, a3⟩] at hy; rw [hy]; exact h259
    · rw [if_neg (fun q => a3 q.2.2)] at hy; rw [hy]; exact h259
    · rw [if_neg (fun q => a2 q.2.1)] at hy; rw [hy]; exact h259
    · rw [if_neg (fun q => a1 q.1)] at hy; rw [hy]; exact h259
  have h174 : ∀ y, sc174 (DM σ) (σ.1 52) p i y = tot → mK Γ M_X9_score (d + 2) Q n0 bc bs 174 [(0, .ref 26), (1, .int (nI p)), (2, .ref 52), (3, .int y), (4, .int (nI i)), (5, .int (if db (DM σ) i = nI p then 1 else 0))] [] 62 mSHw σ := by
    intro y hy
    rw [sc174] at hy
    refine T_X9_score_26_52_174w _ _ _ _ ⟨vp_in_nI (by omega) (by omega), ?_⟩
    rw [cl, m_kind hk]
    refine ⟨fun k2 => ?_, fun k2 => ?_⟩
    · rw [if_pos k2, sc4] at hy
      by_cases o : db (DM σ) i = nI p
      · rw [if_pos o] at hy ⊢
        exact ⟨fun c => absurd c (by decide), fun _ => h199 k2 _ hy⟩
      · rw [if_neg o] at hy ⊢
        exact ⟨fun _ => h199 k2 _ hy, fun c => absurd rfl c⟩
    · rw [if_neg k2] at hy; rw [hy]; exact h259
  have h131 : ∀ y, sc131 (DM σ) (σ.1 52) p i y = tot → mK Γ M_X9_score (d + 2) Q n0 bc bs 131 [(0, .ref 26), (1, .int (nI p)), (2, .ref 52), (3, .int y), (4, .int (nI i)), (5, .int (if db (DM σ) i = nI p then 1 else 0))] [] 62 mSHw σ := by
    intro y hy
    rw [sc131] at hy
    refine T_X9_score_26_52_131w _ _ _ _ ⟨vp_in_nI (by omega) (by omega), ?_⟩
    rw [cl, m_kind hk, m_target hk, m_strong0 h hk, m_size hk]
    refine ⟨fun b1 => ?_, fun b1 => ?_⟩
    · rw [if_pos b1, sc3] at hy
      by_cases o : db (DM σ) i = nI p
      · refine ⟨fun c => absurd c (by rw [if_pos o]; decide), fun _ => ⟨fun k1 => ?_, fun s => ?_, fun s => ?_⟩⟩
        · rcases dV_k0 h hk with q | ⟨_, j, hj, q⟩
          · rw [q.1] at k1; exact absurd k1 (by decide)
          · rw [q]; exact vp_in_nI (by omega) (by omega)
        · rw [if_neg (fun q => by rw [s] at q; exact absurd q.2 (by decide))] at hy
          exact h174 _ hy
        · rw [if_pos ⟨o, Bool.not_eq_false _ ▸ s⟩] at hy
          exact h174 _ hy
      · rw [if_neg (fun q => o q.1)] at hy
        exact ⟨fun _ => h174 _ hy, fun c => absurd (if_neg o) c⟩
    · rw [if_neg b1] at hy; rw [hy]; exact h259
  have h66 : ∀ y, sc131 (DM σ) (σ.1 52) p i (sc2 (DM σ) (σ.1 52) p i y) = tot → mK Γ M_X9_score (d + 2) Q n0 bc bs 66 [(0, .ref 26), (1, .int (nI p)), (2, .ref 52), (3, .int y), (4, .int (nI i)), (5, .int (if db (DM σ) i = nI p then 1 else 0))] [] 62 mSHw σ := by
    intro y hy
    rw [sc2] at hy
    refine T_X9_score_26_52_66w _ _ _ _ ⟨fun c => ?_, fun c => ⟨vp_in_nI (by omega) (by omega), ?_⟩⟩
    · have o : ¬ db (DM σ) i = nI p := fun o => by rw [if_pos o] at c; exact absurd c (by decide)
      rw [if_neg (fun q => o q.1)] at hy
      exact h131 _ hy
    · have o : db (DM σ) i = nI p := Classical.byContradiction (fun o => c (if_neg o))
      rw [cl, m_kind hk, m_size hk]
      refine ⟨fun k0 => ⟨fun b1 => ?_, fun b1 => ⟨fun b0 => ?_, fun b0 => ?_⟩⟩, fun k0 => ?_⟩
      · rw [if_pos ⟨o, k0⟩, if_pos b1] at hy; exact h131 _ hy
      · rw [if_pos ⟨o, k0⟩, if_neg b1, if_pos b0] at hy; exact h131 _ hy
      · rw [if_pos ⟨o, k0⟩, if_neg b1, if_neg b0] at hy; rw [Int32.add_zero]; exact h131 _ hy
      · rw [if_neg (fun q => k0 q.2)] at hy; exact h131 _ hy
  rw [sc1] at hx
  refine T_X9_score_26_52_16w _ _ _ ⟨fun c => absurd c (by rw [sV_n h]; exact nI_ge (by omega) (by omega)), fun _ => ⟨vp_in_nI (by omega) (by omega), ?_⟩⟩
  rw [cl, m_owner hk, m_isConc0 hk h40]
  refine ⟨fun o => ⟨fun c => ?_, fun c => ?_⟩, fun o => ?_⟩
  · rw [if_neg (fun q => by rw [c] at q; exact absurd q.2 (by decide))] at hx
    have := h66 _ hx
    rw [if_pos o] at this; exact this
  · rw [if_pos ⟨o, Bool.not_eq_false _ ▸ c⟩] at hx
    have := h66 _ hx
    rw [if_pos o] at this; exact this
  · rw [if_neg (fun q => o q.1)] at hx
    have := h66 _ hx
    rw [if_neg o] at this; exact this
theorem L_score_52w {Γ : Nat × (Nat → Int32)} {d n0 bc bs : Nat} {Q : mQ} {σ : mS} {p : Nat} (h : sV σ) : ∀ m i, i + m = dn (DM σ) → Q (.inl (some (.int (dScore (DM σ) (coM σ) (σ.1 52) p)))) 62 mSHw σ →
    mK Γ M_X9_score (d + 2) Q n0 bc bs 16 [(0, .ref 26), (1, .int (nI p)), (2, .ref 52), (3, .int (scW (DM σ) (coM σ) (σ.1 52) p i)), (4, .int (nI i))] [] 62 mSHw σ
  | 0, i, hm, hQ => by
    have hn := h.2.1
    refine T_X9_score_26_52_16w _ _ _ ⟨fun _ => ?_, fun c => absurd (by rw [sV_n h]; exact nI_le (by omega) (by omega)) c⟩
    rw [show i = dn (DM σ) by omega]; exact hQ
  | m + 1, i, hm, hQ => P_score_52w h (by omega) (L_score_52w h m (i + 1) (by omega) hQ) _ (by rw [sc_all h (by omega), scW_s])
theorem S_score_52w {Γ : Nat × (Nat → Int32)} {d : Nat} {Q : mQ} {σ : mS} (p : Nat) (h : sV σ) (hp : p < ds (DM σ)) (hQ : Q (.inl (some (.int (dScore (DM σ) (coM σ) (σ.1 52) p)))) 62 mSHw σ) : mCall Γ M_X9_score (d + 2) 0 0 [.ref 26, .int (nI p), .ref 52] 62 mSHw σ Q := by
  have h6 := h.2.2.2.1
  refine E_X9_score_26_52w (nI p) ⟨vp_in_nI (by omega) (by omega), ?_⟩
  have e : σ.1 34 p = dm (DM σ) p := by
    show _ = mkI (ds (DM σ)) (σ.1 34) p
    rw [mkI, if_pos hp]
  rw [nI_clamp (by omega), e]
  exact L_score_52w h (dn (DM σ)) 0 (by omega) hQ
set_option maxRecDepth 20000 in
theorem E_X9_lead_26_52w {Γ : Nat × (Nat → Int32)} {d : Nat} {Q : mQ} {σ : mS} (a1 : Int32) (h : mCall Γ M_X9_score (d + 1) 0 0 [.ref 26, .int a1, .ref 52] 62 mSHw σ (mRt Γ M_X9_lead (d + 2) Q 62 0 0 6 [(0, .ref 26), (1, .int a1), (2, .ref 52)] [])) : mCall Γ M_X9_lead (d + 2) 0 0 [.ref 26, .int a1, .ref 52] 62 mSHw σ Q := by
  refine mCall_of rfl (by decide) (Nat.le_of_ble_eq_true rfl) (mOkC (mOk_lo (Nat.le_of_ble_eq_true rfl)) (mOkC mOk_i (mOkC (mOk_lo (Nat.le_of_ble_eq_true rfl)) mOkN))) ?_
  show mK Γ M_X9_lead (d + 2) Q 62 0 0 0 [(0, .ref 26), (1, .int a1), (2, .ref 52)] [] 62 mSHw σ
  refine mK_aload_n dX9_lead_0 rfl rfl (.head _) ?_
  refine mK_iload_n dX9_lead_1 rfl rfl (.tail _ (.head _)) ?_
  refine mK_aload_n dX9_lead_2 rfl rfl (.tail _ (.tail _ (.head _))) ?_
  refine mK_invV (J := M_X9_score) (k := 2) (as := [.int a1, .ref 52]) (st := []) (c1 := 0) (s1 := 0) dX9_lead_3 rfl jw_X9_score jn_X9_score rfl (Nat.le_of_ble_eq_true rfl) (Nat.zero_le _) (Nat.zero_le _) rfl kw_1481 kw_1483 kw_73 (b := 26) (Nat.le_of_ble_eq_true rfl) (Nat.le_of_ble_eq_true rfl) rfl ?_
  exact h
set_option maxRecDepth 20000 in
theorem T_X9_lead_26_52_6aw {Γ : Nat × (Nat → Int32)} {d n0 bc bs : Nat} {Q : mQ} {σ : mS} (x1 : Int32) (r : Int32) (h : (((σ.1 32 0) = 1 → Q (.inl (some (.int r))) 62 mSHw σ) ∧ (¬ ((σ.1 32 0) = 1) → mK Γ M_X9_lead (d + 2) Q n0 bc bs 27 [(0, .ref 26), (1, .int x1), (2, .ref 52), (3, .int r), (4, .int (-2147483648)), (5, .int 0)] [] 62 mSHw σ))) : mRt Γ M_X9_lead (d + 2) Q n0 bc bs 6 [(0, .ref 26), (1, .int x1), (2, .ref 52)] [] (.inl (some (.int r))) 62 mSHw σ := by
  show mK Γ M_X9_lead (d + 2) Q n0 bc bs 6 [(0, .ref 26), (1, .int x1), (2, .ref 52)] [.int r] 62 mSHw σ
  refine ru_istore_n (lv1 := [(0, .ref 26), (1, .int x1), (2, .ref 52), (3, .int r)]) dX9_lead_6 rfl rfl (by decide) rfl ?_
  refine mK_aload_n dX9_lead_7 rfl rfl (.head _) ?_
  refine ru_getR (k := 11) (ci := 8) (a := 32) dX9_lead_8 rfl rfl rfl kw_1138 ?_
  refine ru_getIN (k := 0) (ci := 7) dX9_lead_11 rfl rfl kn_1080 ?_
  refine mK_iconst dX9_lead_14 rfl qic_1 ?_
  refine ru_icmp_ne (tgt := 20) dX9_lead_15 rfl (by decide) (fun c1 => ?_) (fun c1 => ?_)
  · refine mK_ldci dX9_lead_20 rfl kw_1489 ?_
    refine ru_istore (lv1 := [(0, .ref 26), (1, .int x1), (2, .ref 52), (3, .int r), (4, .int (-2147483648))]) dX9_lead_22 rfl (by decide) rfl ?_
    refine mK_iconst dX9_lead_24 rfl qic_0 ?_
    refine ru_istore (lv1 := [(0, .ref 26), (1, .int x1), (2, .ref 52), (3, .int r), (4, .int (-2147483648)), (5, .int 0)]) dX9_lead_25 rfl (by decide) rfl ?_
    exact (h.2 c1)
  · refine mK_iload_n dX9_lead_18 rfl rfl (.tail _ (.tail _ (.tail _ (.head _)))) ?_
    exact mK_iret dX9_lead_19 rfl (h.1 c1)
set_option maxRecDepth 20000 in
theorem T_X9_lead_26_52_27w {Γ : Nat × (Nat → Int32)} {d n0 bc bs : Nat} {Q : mQ} {σ : mS} (x1 : Int32) (x3 : Int32) (x4 : Int32) (x5 : Int32) (h : (((σ.1 32 0) ≤ x5 → Q (.inl (some (.int (x3 - x4)))) 62 mSHw σ) ∧ (¬ ((σ.1 32 0) ≤ x5) → ((x5 = x1 → mK Γ M_X9_lead (d + 2) Q n0 bc bs 27 [(0, .ref 26), (1, .int x1), (2, .ref 52), (3, .int x3), (4, .int x4), (5, .int (x5 + 1))] [] 62 mSHw σ) ∧ (¬ (x5 = x1) → mCall Γ M_X9_score (d + 1) 0 0 [.ref 26, .int x5, .ref 52] 62 mSHw σ (mRt Γ M_X9_lead (d + 2) Q n0 bc bs 54 [(0, .ref 26), (1, .int x1), (2, .ref 52), (3, .int x3), (4, .int x4), (5, .int x5)] [.int x4])))))) : mK Γ M_X9_lead (d + 2) Q n0 bc bs 27 [(0, .ref 26), (1, .int x1), (2, .ref 52), (3, .int x3), (4, .int x4), (5, .int x5)] [] 62 mSHw σ := by
  refine mK_iload dX9_lead_27 rfl (.tail _ (.tail _ (.tail _ (.tail _ (.tail _ (.head _)))))) ?_
  refine mK_aload_n dX9_lead_29 rfl rfl (.head _) ?_
  refine ru_getR (k := 11) (ci := 8) (a := 32) dX9_lead_30 rfl rfl rfl kw_1138 ?_
  refine ru_getIN (k := 0) (ci := 7) dX9_lead_33 rfl rfl kn_1080 ?_
  refine mK_icmp_ge (tgt := 65) dX9_lead_36 rfl (by decide) (fun c1 => ?_) (fun c1 => ?_)
  · refine mK_iload_n dX9_lead_65 rfl rfl (.tail _ (.tail _ (.tail _ (.head _)))) ?_
    refine mK_iload dX9_lead_66 rfl (.tail _ (.tail _ (.tail _ (.tail _ (.head _))))) ?_
    refine mK_isub dX9_lead_68 rfl ?_
    exact mK_iret dX9_lead_69 rfl (h.1 c1)
  · refine mK_iload dX9_lead_39 rfl (.tail _ (.tail _ (.tail _ (.tail _ (.tail _ (.head _)))))) ?_
    refine mK_iload_n dX9_lead_41 rfl rfl (.tail _ (.head _)) ?_
    refine mK_icmp_eq (tgt := 59) dX9_lead_42 rfl (by decide) (fun c2 => ?_) (fun c2 => ?_)
    · refine ru_iinc (lv1 := [(0, .ref 26), (1, .int x1), (2, .ref 52), (3, .int x3), (4, .int x4), (5, .int (x5 + 1))]) dX9_lead_59 rfl (.tail _ (.tail _ (.tail _ (.tail _ (.tail _ (.head _)))))) qic_1 (by decide) rfl ?_
      refine mK_goto (tgt := 27) dX9_lead_62 (by decide) ?_
      exact ((h.2 c1).1 c2)
    · refine mK_iload dX9_lead_45 rfl (.tail _ (.tail _ (.tail _ (.tail _ (.head _))))) ?_
      refine mK_aload_n dX9_lead_47 rfl rfl (.head _) ?_
      refine mK_iload dX9_lead_48 rfl (.tail _ (.tail _ (.tail _ (.tail _ (.tail _ (.head _)))))) ?_
      refine mK_aload_n dX9_lead_50 rfl rfl (.tail _ (.tail _ (.head _))) ?_
      refine mK_invV (J := M_X9_score) (k := 2) (as := [.int x5, .ref 52]) (st := [.int x4]) (c1 := 0) (s1 := 0) dX9_lead_51 rfl jw_X9_score jn_X9_score rfl (Nat.le_of_ble_eq_true rfl) (Nat.zero_le _) (Nat.zero_le _) rfl kw_1481 kw_1483 kw_73 (b := 26) (Nat.le_of_ble_eq_true rfl) (Nat.le_of_ble_eq_true rfl) rfl ?_
      exact ((h.2 c1).2 c2)
set_option maxRecDepth 20000 in
theorem T_X9_lead_26_52_54aw {Γ : Nat × (Nat → Int32)} {d n0 bc bs : Nat} {Q : mQ} {σ : mS} (x1 : Int32) (x3 : Int32) (x4 : Int32) (x5 : Int32) (y0 : Int32) (r : Int32) (h : mK Γ M_X9_lead (d + 2) Q n0 bc bs 27 [(0, .ref 26), (1, .int x1), (2, .ref 52), (3, .int x3), (4, .int (if y0 < r then r else y0)), (5, .int (x5 + 1))] [] 62 mSHw σ) : mRt Γ M_X9_lead (d + 2) Q n0 bc bs 54 [(0, .ref 26), (1, .int x1), (2, .ref 52), (3, .int x3), (4, .int x4), (5, .int x5)] [.int y0] (.inl (some (.int r))) 62 mSHw σ := by
  show mK Γ M_X9_lead (d + 2) Q n0 bc bs 54 [(0, .ref 26), (1, .int x1), (2, .ref 52), (3, .int x3), (4, .int x4), (5, .int x5)] [.int r, .int y0] 62 mSHw σ
  refine mK_max dX9_lead_54 rfl (Nat.le_of_ble_eq_true rfl) kw_1490 kw_126 kw_89 kw_127 ?_
  refine ru_istore (lv1 := [(0, .ref 26), (1, .int x1), (2, .ref 52), (3, .int x3), (4, .int (if y0 < r then r else y0)), (5, .int x5)]) dX9_lead_57 rfl (by decide) rfl ?_
  refine ru_iinc (lv1 := [(0, .ref 26), (1, .int x1), (2, .ref 52), (3, .int x3), (4, .int (if y0 < r then r else y0)), (5, .int (x5 + 1))]) dX9_lead_59 rfl (.tail _ (.tail _ (.tail _ (.tail _ (.tail _ (.head _)))))) qic_1 (by decide) rfl ?_
  refine mK_goto (tgt := 27) dX9_lead_62 (by decide) ?_
  exact h
theorem L_lead_52w {Γ : Nat × (Nat → Int32)} {d n0 bc bs : Nat} {Q : mQ} {σ : mS} {p : Nat} {own : Int32} (h : sV σ) : ∀ m i, i + m = ds (DM σ) → Q (.inl (some (.int (own - ldM (DM σ) (coM σ) (σ.1 52) p (ds (DM σ)))))) 62 mSHw σ → p < ds (DM σ) →
    mK Γ M_X9_lead (d + 3) Q n0 bc bs 27 [(0, .ref 26), (1, .int (nI p)), (2, .ref 52), (3, .int own), (4, .int (ldM (DM σ) (coM σ) (σ.1 52) p i)), (5, .int (nI i))] [] 62 mSHw σ
  | 0, i, hm, hQ, hp => by
    have h6 := h.2.2.2.1
    refine T_X9_lead_26_52_27w _ _ _ _ ⟨fun _ => ?_, fun c => absurd (by rw [sV_s h]; exact nI_le (by omega) (by omega)) c⟩
    rw [show i = ds (DM σ) by omega]; exact hQ
  | m + 1, i, hm, hQ, hp => by
    have h6 := h.2.2.2.1
    have ih := L_lead_52w (d := d) (n0 := n0) (bc := bc) (bs := bs) (Γ := Γ) h m (i + 1) (by omega) hQ hp
    rw [ldM_s] at ih
    refine T_X9_lead_26_52_27w _ _ _ _ ⟨fun c => absurd c (by rw [sV_s h]; exact nI_ge (by omega) (by omega)), fun _ => ?_⟩
    rw [nI_eq (by omega) (by omega), nI_1]
    refine ⟨fun c => ?_, fun c => ?_⟩
    · rw [if_pos c] at ih; exact ih
    · rw [if_neg c] at ih
      refine S_score_52w i h (by omega) ?_
      refine T_X9_lead_26_52_54aw _ _ _ _ _ _ ?_
      rw [nI_1]
      exact ih
theorem S_lead_52w {Γ : Nat × (Nat → Int32)} {d : Nat} {Q : mQ} {σ : mS} (p : Nat) (h : sV σ) (hp : p < ds (DM σ)) (hQ : Q (.inl (some (.int (dLead (DM σ) (coM σ) (σ.1 52) p)))) 62 mSHw σ) : mCall Γ M_X9_lead (d + 3) 0 0 [.ref 26, .int (nI p), .ref 52] 62 mSHw σ Q := by
  have h6 := h.2.2.2.1
  have g := ldM_G (DM σ) (coM σ) (σ.1 52) p (ds (DM σ))
  have ga := ldG_al (DM σ) (coM σ) (σ.1 52) p (ds (DM σ))
  refine E_X9_lead_26_52w (nI p) ?_
  refine S_score_52w p h hp ?_
  rw [dLead] at hQ
  refine T_X9_lead_26_52_6aw _ _ ⟨fun c => ?_, fun c => ?_⟩
  · rw [sV_s h, show (1 : Int32) = nI 1 by decide, nI_eq (by omega) (by omega)] at c
    have e : (ldG (DM σ) (coM σ) (σ.1 52) p (ds (DM σ))).2 = 0 := by
      rw [c, ldG_s, if_pos (by omega)]; rfl
    rw [e, Int32.sub_zero] at hQ
    exact hQ
  · rw [sV_s h, show (1 : Int32) = nI 1 by decide, nI_eq (by omega) (by omega)] at c
    refine L_lead_52w h (ds (DM σ)) 0 (by omega) ?_ hp
    cases w : (ldG (DM σ) (coM σ) (σ.1 52) p (ds (DM σ))).1
    · rw [g.2 w]; exact hQ
    · have := ga w; omega
