
set_option maxRecDepth 20000 in
theorem E_X9_speakerTold_26 {Γ : Nat × (Nat → Int32)} {d : Nat} {Q : mQ} {σ : mS} (a1 : Int32) (a2 : Int32) (h : mK Γ M_X9_speakerTold (d + 2) Q 60 1 7 10 [(0, .ref 26), (1, .int a1), (2, .int a2), (3, .ref 60), (4, .int 0), (5, .int 0)] [] 61 (mNw mSH 60 (100, 3, fun _ => none)) (mZr σ 60)) : mCall Γ M_X9_speakerTold (d + 2) 2 10 [.ref 26, .int a1, .int a2] 60 mSH σ Q := by
  refine mCall_of rfl (by decide) (Nat.le_of_ble_eq_true rfl) (mOkC (mOk_lo (Nat.le_of_ble_eq_true rfl)) (mOkC mOk_i (mOkC mOk_i mOkN))) ?_
  show mK Γ M_X9_speakerTold (d + 2) Q 60 2 10 0 [(0, .ref 26), (1, .int a1), (2, .int a2)] [] 60 mSH σ
  refine mK_iconst dX9_speakerTold_0 rfl qic_3 ?_
  refine mK_newI (n := 3) dX9_speakerTold_1 rfl (by decide) (by decide) (Nat.le_of_ble_eq_true rfl) (Nat.le_of_ble_eq_true rfl) (Nat.le_of_ble_eq_true rfl) (Nat.le_of_ble_eq_true rfl) kw_192 ?_
  show mK Γ M_X9_speakerTold (d + 2) Q 60 1 7 3 [(0, .ref 26), (1, .int a1), (2, .int a2)] [.ref 60] 61 (mNw mSH 60 (100, 3, fun _ => none)) (mZr σ 60)
  refine ru_astore_n (lv1 := [(0, .ref 26), (1, .int a1), (2, .int a2), (3, .ref 60)]) dX9_speakerTold_3 rfl rfl (by decide) rfl ?_
  refine mK_iconst dX9_speakerTold_4 rfl qic_0 ?_
  refine ru_istore (lv1 := [(0, .ref 26), (1, .int a1), (2, .int a2), (3, .ref 60), (4, .int 0)]) dX9_speakerTold_5 rfl (by decide) rfl ?_
  refine mK_iconst dX9_speakerTold_7 rfl qic_0 ?_
  refine ru_istore (lv1 := [(0, .ref 26), (1, .int a1), (2, .int a2), (3, .ref 60), (4, .int 0), (5, .int 0)]) dX9_speakerTold_8 rfl (by decide) rfl ?_
  exact h
set_option maxRecDepth 20000 in
theorem T_X9_speakerTold_26_10 {Γ : Nat × (Nat → Int32)} {d : Nat} {Q : mQ} {σ : mS} (x1 : Int32) (x2 : Int32) (x4 : Int32) (x5 : Int32) (h : (((σ.1 32 3) ≤ x5 → ((vp_in x1 6) ∧ mCall Γ M_X9_score (d + 1) 0 0 [.ref 26, .int x1, .ref 52] 62 (mNw (mNw mSH 60 (100, 3, fun _ => none)) 61 (100, 7, fun _ => none)) (mPI (mZr σ 61) 61 0 ((mZr σ 61).1 34 (x1).toNatClampNeg)) (mRt Γ M_X9_speakerTold (d + 2) Q 60 0 0 103 [(0, .ref 26), (1, .int x1), (2, .int x2), (3, .ref 60), (4, .int x4), (5, .int x5)] [.int 1, .ref 61, .ref 61]))) ∧ (¬ ((σ.1 32 3) ≤ x5) → ((vp_in x5 40) ∧ (((σ.1 37 (x5).toNatClampNeg) = x1 → ((vp_in (σ.1 36 (x5).toNatClampNeg) 3) ∧ mK Γ M_X9_speakerTold (d + 2) Q 60 1 7 10 [(0, .ref 26), (1, .int x1), (2, .int x2), (3, .ref 60), (4, .int (x4 + (σ.1 41 (x5).toNatClampNeg))), (5, .int (x5 + 1))] [] 61 (mNw mSH 60 (100, 3, fun _ => none)) (mPI σ 60 (σ.1 36 (x5).toNatClampNeg).toNatClampNeg ((σ.1 60 (σ.1 36 (x5).toNatClampNeg).toNatClampNeg) + 1)))) ∧ (¬ ((σ.1 37 (x5).toNatClampNeg) = x1) → mK Γ M_X9_speakerTold (d + 2) Q 60 1 7 10 [(0, .ref 26), (1, .int x1), (2, .int x2), (3, .ref 60), (4, .int x4), (5, .int (x5 + 1))] [] 61 (mNw mSH 60 (100, 3, fun _ => none)) σ)))))) : mK Γ M_X9_speakerTold (d + 2) Q 60 1 7 10 [(0, .ref 26), (1, .int x1), (2, .int x2), (3, .ref 60), (4, .int x4), (5, .int x5)] [] 61 (mNw mSH 60 (100, 3, fun _ => none)) σ := by
  refine mK_iload dX9_speakerTold_10 rfl (.tail _ (.tail _ (.tail _ (.tail _ (.tail _ (.head _)))))) ?_
  refine mK_aload_n dX9_speakerTold_12 rfl rfl (.head _) ?_
  refine ru_getR (k := 11) (ci := 8) (a := 32) dX9_speakerTold_13 rfl rfl rfl kw_1138 ?_
  refine ru_getIN (k := 3) (ci := 7) dX9_speakerTold_16 rfl rfl kn_1086 ?_
  refine mK_icmp_ge (tgt := 76) dX9_speakerTold_19 rfl (by decide) (fun c1 => ?_) (fun c1 => ?_)
  · refine mK_bipush dX9_speakerTold_76 rfl qbi_7 ?_
    refine mK_newI (n := 7) dX9_speakerTold_78 rfl (by decide) (by decide) (Nat.le_of_ble_eq_true rfl) (Nat.le_of_ble_eq_true rfl) (Nat.le_of_ble_eq_true rfl) (Nat.le_of_ble_eq_true rfl) kw_192 ?_
    show mK Γ M_X9_speakerTold (d + 2) Q 60 0 0 80 [(0, .ref 26), (1, .int x1), (2, .int x2), (3, .ref 60), (4, .int x4), (5, .int x5)] [.ref 61] 62 (mNw (mNw mSH 60 (100, 3, fun _ => none)) 61 (100, 7, fun _ => none)) (mZr σ 61)
    refine mK_dup dX9_speakerTold_80 rfl rfl ?_
    refine mK_iconst dX9_speakerTold_81 rfl qic_0 ?_
    refine mK_aload_n dX9_speakerTold_82 rfl rfl (.head _) ?_
    refine ru_getR (k := 11) (ci := 8) (a := 32) dX9_speakerTold_83 rfl rfl rfl kw_1138 ?_
    refine ru_getRN (k := 2) (ci := 7) (a := 34) dX9_speakerTold_86 rfl rfl rfl kn_1084 ?_
    refine mK_iload_n dX9_speakerTold_89 rfl rfl (.tail _ (.head _)) ?_
    refine ru_iald (n := 6) dX9_speakerTold_90 rfl rfl ((h.1 c1).1) ?_
    refine ru_iast (n := 7) dX9_speakerTold_91 rfl rfl (by unfold vp_in; decide) ?_
    refine mK_dup dX9_speakerTold_92 rfl rfl ?_
    refine mK_iconst dX9_speakerTold_93 rfl qic_1 ?_
    refine mK_aload_n dX9_speakerTold_94 rfl rfl (.head _) ?_
    refine mK_iload_n dX9_speakerTold_95 rfl rfl (.tail _ (.head _)) ?_
    refine mK_aload_n dX9_speakerTold_96 rfl rfl (.head _) ?_
    refine ru_getR (k := 13) (ci := 8) (a := 52) dX9_speakerTold_97 rfl rfl rfl kw_1140 ?_
    refine mK_invV (J := M_X9_score) (k := 2) (as := [.int x1, .ref 52]) (st := [.int 1, .ref 61, .ref 61]) (c1 := 0) (s1 := 0) dX9_speakerTold_100 rfl jw_X9_score jn_X9_score rfl (Nat.le_of_ble_eq_true rfl) (Nat.zero_le _) (Nat.zero_le _) rfl kw_1481 kw_1483 kw_73 (b := 26) (Nat.le_of_ble_eq_true rfl) (Nat.le_of_ble_eq_true rfl) rfl ?_
    exact (h.1 c1).2
  · refine mK_aload_n dX9_speakerTold_22 rfl rfl (.head _) ?_
    refine ru_getR (k := 11) (ci := 8) (a := 32) dX9_speakerTold_23 rfl rfl rfl kw_1138 ?_
    refine ru_getRN (k := 6) (ci := 7) (a := 37) dX9_speakerTold_26 rfl rfl rfl kn_1092 ?_
    refine mK_iload dX9_speakerTold_29 rfl (.tail _ (.tail _ (.tail _ (.tail _ (.tail _ (.head _)))))) ?_
    refine ru_iald (n := 40) dX9_speakerTold_31 rfl rfl ((h.2 c1).1) ?_
    refine mK_iload_n dX9_speakerTold_32 rfl rfl (.tail _ (.head _)) ?_
    refine mK_icmp_eq (tgt := 39) dX9_speakerTold_33 rfl (by decide) (fun c2 => ?_) (fun c2 => ?_)
    · refine mK_aload_n dX9_speakerTold_39 rfl rfl (.tail _ (.tail _ (.tail _ (.head _)))) ?_
      refine mK_aload_n dX9_speakerTold_40 rfl rfl (.head _) ?_
      refine ru_getR (k := 11) (ci := 8) (a := 32) dX9_speakerTold_41 rfl rfl rfl kw_1138 ?_
      refine ru_getRN (k := 5) (ci := 7) (a := 36) dX9_speakerTold_44 rfl rfl rfl kn_1090 ?_
      refine mK_iload dX9_speakerTold_47 rfl (.tail _ (.tail _ (.tail _ (.tail _ (.tail _ (.head _)))))) ?_
      refine ru_iald (n := 40) dX9_speakerTold_49 rfl rfl ((h.2 c1).1) ?_
      refine mK_dup2 dX9_speakerTold_50 rfl rfl rfl ?_
      refine ru_iald (n := 3) dX9_speakerTold_51 rfl rfl (((h.2 c1).2.1 c2).1) ?_
      refine mK_iconst dX9_speakerTold_52 rfl qic_1 ?_
      refine mK_iadd dX9_speakerTold_53 rfl ?_
      refine ru_iast (n := 3) dX9_speakerTold_54 rfl rfl (((h.2 c1).2.1 c2).1) ?_
      refine mK_iload dX9_speakerTold_55 rfl (.tail _ (.tail _ (.tail _ (.tail _ (.head _))))) ?_
      refine mK_aload_n dX9_speakerTold_57 rfl rfl (.head _) ?_
      refine ru_getR (k := 11) (ci := 8) (a := 32) dX9_speakerTold_58 rfl rfl rfl kw_1138 ?_
      refine ru_getRN (k := 10) (ci := 7) (a := 41) dX9_speakerTold_61 rfl rfl rfl kn_1100 ?_
      refine mK_iload dX9_speakerTold_64 rfl (.tail _ (.tail _ (.tail _ (.tail _ (.tail _ (.head _)))))) ?_
      refine ru_iald (n := 40) dX9_speakerTold_66 rfl rfl ((h.2 c1).1) ?_
      refine mK_iadd dX9_speakerTold_67 rfl ?_
      refine ru_istore (lv1 := [(0, .ref 26), (1, .int x1), (2, .int x2), (3, .ref 60), (4, .int (x4 + (σ.1 41 (x5).toNatClampNeg))), (5, .int x5)]) dX9_speakerTold_68 rfl (by decide) rfl ?_
      refine ru_iinc (lv1 := [(0, .ref 26), (1, .int x1), (2, .int x2), (3, .ref 60), (4, .int (x4 + (σ.1 41 (x5).toNatClampNeg))), (5, .int (x5 + 1))]) dX9_speakerTold_70 rfl (.tail _ (.tail _ (.tail _ (.tail _ (.tail _ (.head _)))))) qic_1 (by decide) rfl ?_
      refine mK_goto (tgt := 10) dX9_speakerTold_73 (by decide) ?_
      exact ((h.2 c1).2.1 c2).2
    · refine mK_goto (tgt := 70) dX9_speakerTold_36 (by decide) ?_
      refine ru_iinc (lv1 := [(0, .ref 26), (1, .int x1), (2, .int x2), (3, .ref 60), (4, .int x4), (5, .int (x5 + 1))]) dX9_speakerTold_70 rfl (.tail _ (.tail _ (.tail _ (.tail _ (.tail _ (.head _)))))) qic_1 (by decide) rfl ?_
      refine mK_goto (tgt := 10) dX9_speakerTold_73 (by decide) ?_
      exact ((h.2 c1).2.2 c2)
set_option maxRecDepth 20000 in
theorem T_X9_speakerTold_26_103a {Γ : Nat × (Nat → Int32)} {d : Nat} {Q : mQ} {σ : mS} (x1 : Int32) (x2 : Int32) (x4 : Int32) (x5 : Int32) (y0 : Int32) (r : Int32) (h : ((vp_in y0 7) ∧ mCall Γ M_X9_lead (d + 1) 0 0 [.ref 26, .int x1, .ref 52] 62 (mNw (mNw mSH 60 (100, 3, fun _ => none)) 61 (100, 7, fun _ => none)) (mPI σ 61 (y0).toNatClampNeg r) (mRt Γ M_X9_speakerTold (d + 2) Q 60 0 0 115 [(0, .ref 26), (1, .int x1), (2, .int x2), (3, .ref 60), (4, .int x4), (5, .int x5)] [.int 2, .ref 61, .ref 61]))) : mRt Γ M_X9_speakerTold (d + 2) Q 60 0 0 103 [(0, .ref 26), (1, .int x1), (2, .int x2), (3, .ref 60), (4, .int x4), (5, .int x5)] [.int y0, .ref 61, .ref 61] (.inl (some (.int r))) 62 (mNw (mNw mSH 60 (100, 3, fun _ => none)) 61 (100, 7, fun _ => none)) σ := by
  show mK Γ M_X9_speakerTold (d + 2) Q 60 0 0 103 [(0, .ref 26), (1, .int x1), (2, .int x2), (3, .ref 60), (4, .int x4), (5, .int x5)] [.int r, .int y0, .ref 61, .ref 61] 62 (mNw (mNw mSH 60 (100, 3, fun _ => none)) 61 (100, 7, fun _ => none)) σ
  refine ru_iast (n := 7) dX9_speakerTold_103 rfl rfl (h.1) ?_
  refine mK_dup dX9_speakerTold_104 rfl rfl ?_
  refine mK_iconst dX9_speakerTold_105 rfl qic_2 ?_
  refine mK_aload_n dX9_speakerTold_106 rfl rfl (.head _) ?_
  refine mK_iload_n dX9_speakerTold_107 rfl rfl (.tail _ (.head _)) ?_
  refine mK_aload_n dX9_speakerTold_108 rfl rfl (.head _) ?_
  refine ru_getR (k := 13) (ci := 8) (a := 52) dX9_speakerTold_109 rfl rfl rfl kw_1140 ?_
  refine mK_invV (J := M_X9_lead) (k := 2) (as := [.int x1, .ref 52]) (st := [.int 2, .ref 61, .ref 61]) (c1 := 0) (s1 := 0) dX9_speakerTold_112 rfl jw_X9_lead jn_X9_lead rfl (Nat.le_of_ble_eq_true rfl) (Nat.zero_le _) (Nat.zero_le _) rfl kw_1485 kw_1487 kw_74 (b := 26) (Nat.le_of_ble_eq_true rfl) (Nat.le_of_ble_eq_true rfl) rfl ?_
  exact h.2
set_option maxRecDepth 20000 in
theorem T_X9_speakerTold_26_115a {Γ : Nat × (Nat → Int32)} {d : Nat} {Q : mQ} {σ : mS} (x1 : Int32) (x2 : Int32) (x4 : Int32) (x5 : Int32) (y0 : Int32) (r : Int32) (h : ((vp_in y0 7) ∧ ((vp_in x2 7) ∧ (∃ τ : mS, mBk (mPI (mPI (mPI (mPI (mPI σ 61 (y0).toNatClampNeg r) 61 3 (σ.1 60 0)) 61 4 (σ.1 60 1)) 61 5 (σ.1 60 2)) 61 6 x4) τ ∧ Q (.inl (some (.int ((mPI (mPI (mPI (mPI (mPI σ 61 (y0).toNatClampNeg r) 61 3 (σ.1 60 0)) 61 4 (σ.1 60 1)) 61 5 (σ.1 60 2)) 61 6 x4).1 61 (x2).toNatClampNeg)))) 60 mSH τ)))) : mRt Γ M_X9_speakerTold (d + 2) Q 60 0 0 115 [(0, .ref 26), (1, .int x1), (2, .int x2), (3, .ref 60), (4, .int x4), (5, .int x5)] [.int y0, .ref 61, .ref 61] (.inl (some (.int r))) 62 (mNw (mNw mSH 60 (100, 3, fun _ => none)) 61 (100, 7, fun _ => none)) σ := by
  show mK Γ M_X9_speakerTold (d + 2) Q 60 0 0 115 [(0, .ref 26), (1, .int x1), (2, .int x2), (3, .ref 60), (4, .int x4), (5, .int x5)] [.int r, .int y0, .ref 61, .ref 61] 62 (mNw (mNw mSH 60 (100, 3, fun _ => none)) 61 (100, 7, fun _ => none)) σ
  refine ru_iast (n := 7) dX9_speakerTold_115 rfl rfl (h.1) ?_
  refine mK_dup dX9_speakerTold_116 rfl rfl ?_
  refine mK_iconst dX9_speakerTold_117 rfl qic_3 ?_
  refine mK_aload_n dX9_speakerTold_118 rfl rfl (.tail _ (.tail _ (.tail _ (.head _)))) ?_
  refine mK_iconst dX9_speakerTold_119 rfl qic_0 ?_
  refine ru_iald (n := 3) dX9_speakerTold_120 rfl rfl (by unfold vp_in; decide) ?_
  refine ru_iast (n := 7) dX9_speakerTold_121 rfl rfl (by unfold vp_in; decide) ?_
  refine mK_dup dX9_speakerTold_122 rfl rfl ?_
  refine mK_iconst dX9_speakerTold_123 rfl qic_4 ?_
  refine mK_aload_n dX9_speakerTold_124 rfl rfl (.tail _ (.tail _ (.tail _ (.head _)))) ?_
  refine mK_iconst dX9_speakerTold_125 rfl qic_1 ?_
  refine ru_iald (n := 3) dX9_speakerTold_126 rfl rfl (by unfold vp_in; decide) ?_
  refine ru_iast (n := 7) dX9_speakerTold_127 rfl rfl (by unfold vp_in; decide) ?_
  refine mK_dup dX9_speakerTold_128 rfl rfl ?_
  refine mK_iconst dX9_speakerTold_129 rfl qic_5 ?_
  refine mK_aload_n dX9_speakerTold_130 rfl rfl (.tail _ (.tail _ (.tail _ (.head _)))) ?_
  refine mK_iconst dX9_speakerTold_131 rfl qic_2 ?_
  refine ru_iald (n := 3) dX9_speakerTold_132 rfl rfl (by unfold vp_in; decide) ?_
  refine ru_iast (n := 7) dX9_speakerTold_133 rfl rfl (by unfold vp_in; decide) ?_
  refine mK_dup dX9_speakerTold_134 rfl rfl ?_
  refine mK_bipush dX9_speakerTold_135 rfl qbi_6 ?_
  refine mK_iload dX9_speakerTold_137 rfl (.tail _ (.tail _ (.tail _ (.tail _ (.head _))))) ?_
  refine ru_iast (n := 7) dX9_speakerTold_139 rfl rfl (by unfold vp_in; decide) ?_
  refine ru_astore (lv1 := [(0, .ref 26), (1, .int x1), (2, .int x2), (3, .ref 60), (4, .int x4), (5, .ref 61)]) dX9_speakerTold_140 rfl (by decide) rfl ?_
  refine mK_aload dX9_speakerTold_142 rfl (.tail _ (.tail _ (.tail _ (.tail _ (.tail _ (.head _)))))) ?_
  refine mK_iload_n dX9_speakerTold_144 rfl rfl (.tail _ (.tail _ (.head _))) ?_
  refine ru_iald (n := 7) dX9_speakerTold_145 rfl rfl (h.2.1) ?_
  exact mK_iretB dX9_speakerTold_146 rfl (Nat.le_of_ble_eq_true rfl) (mB_s (mB_s mB_0 (Nat.le_of_ble_eq_true rfl)) (Nat.le_of_ble_eq_true rfl)) h.2.2
