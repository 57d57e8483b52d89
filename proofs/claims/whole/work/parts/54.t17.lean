
set_option maxRecDepth 20000 in
theorem E_X9_counted_26 {Γ : Nat × (Nat → Int32)} {d : Nat} {Q : mQ} {σ : mS} (a1 : Int32) (h : mK Γ M_X9_counted (d + 1) Q 60 1 12 14 [(0, .ref 26), (1, .int a1), (2, .ref 60), (3, .ref 61), (4, .int 0), (5, .int 0)] [] 62 (mNw (mNw mSH 60 (100, 3, fun _ => none)) 61 (100, 3, fun _ => none)) (mZr (mZr σ 60) 61)) : mCall Γ M_X9_counted (d + 1) 3 18 [.ref 26, .int a1] 60 mSH σ Q := by
  refine mCall_of rfl (by decide) (Nat.le_of_ble_eq_true rfl) (mOkC (mOk_lo (Nat.le_of_ble_eq_true rfl)) (mOkC mOk_i mOkN)) ?_
  show mK Γ M_X9_counted (d + 1) Q 60 3 18 0 [(0, .ref 26), (1, .int a1)] [] 60 mSH σ
  refine mK_iconst dX9_counted_0 rfl qic_3 ?_
  refine mK_newI (n := 3) dX9_counted_1 rfl (by decide) (by decide) (Nat.le_of_ble_eq_true rfl) (Nat.le_of_ble_eq_true rfl) (Nat.le_of_ble_eq_true rfl) (Nat.le_of_ble_eq_true rfl) kw_192 ?_
  show mK Γ M_X9_counted (d + 1) Q 60 2 15 3 [(0, .ref 26), (1, .int a1)] [.ref 60] 61 (mNw mSH 60 (100, 3, fun _ => none)) (mZr σ 60)
  refine ru_astore_n (lv1 := [(0, .ref 26), (1, .int a1), (2, .ref 60)]) dX9_counted_3 rfl rfl (by decide) rfl ?_
  refine mK_iconst dX9_counted_4 rfl qic_3 ?_
  refine mK_newI (n := 3) dX9_counted_5 rfl (by decide) (by decide) (Nat.le_of_ble_eq_true rfl) (Nat.le_of_ble_eq_true rfl) (Nat.le_of_ble_eq_true rfl) (Nat.le_of_ble_eq_true rfl) kw_192 ?_
  show mK Γ M_X9_counted (d + 1) Q 60 1 12 7 [(0, .ref 26), (1, .int a1), (2, .ref 60)] [.ref 61] 62 (mNw (mNw mSH 60 (100, 3, fun _ => none)) 61 (100, 3, fun _ => none)) (mZr (mZr σ 60) 61)
  refine ru_astore_n (lv1 := [(0, .ref 26), (1, .int a1), (2, .ref 60), (3, .ref 61)]) dX9_counted_7 rfl rfl (by decide) rfl ?_
  refine mK_iconst dX9_counted_8 rfl qic_0 ?_
  refine ru_istore (lv1 := [(0, .ref 26), (1, .int a1), (2, .ref 60), (3, .ref 61), (4, .int 0)]) dX9_counted_9 rfl (by decide) rfl ?_
  refine mK_iconst dX9_counted_11 rfl qic_0 ?_
  refine ru_istore (lv1 := [(0, .ref 26), (1, .int a1), (2, .ref 60), (3, .ref 61), (4, .int 0), (5, .int 0)]) dX9_counted_12 rfl (by decide) rfl ?_
  exact h
set_option maxRecDepth 20000 in
theorem T_X9_counted_26_14 {Γ : Nat × (Nat → Int32)} {d : Nat} {Q : mQ} {σ : mS} (x1 : Int32) (x4 : Int32) (x5 : Int32) (h : (((σ.1 32 3) ≤ x5 → ((vp_in x1 12) ∧ (∃ τ : mS, mBk (mPI (mPI (mPI (mPI (mPI (mPI (mPI (mPI (mPI (mPI (mPI (mPI (mZr σ 62) 62 0 ((mZr σ 62).1 32 0)) 62 1 ((mZr σ 62).1 32 3)) 62 2 ((mZr σ 62).1 60 0)) 62 3 ((mZr σ 62).1 60 1)) 62 4 ((mZr σ 62).1 60 2)) 62 5 ((mZr σ 62).1 61 1)) 62 6 ((mZr σ 62).1 61 2)) 62 7 ((mZr σ 62).1 61 0)) 62 8 x4) 62 9 ((mZr σ 62).1 26 15)) 62 10 ((mZr σ 62).1 26 2)) 62 11 ((mZr σ 62).1 26 4)) τ ∧ Q (.inl (some (.int ((mPI (mPI (mPI (mPI (mPI (mPI (mPI (mPI (mPI (mPI (mPI (mPI (mZr σ 62) 62 0 ((mZr σ 62).1 32 0)) 62 1 ((mZr σ 62).1 32 3)) 62 2 ((mZr σ 62).1 60 0)) 62 3 ((mZr σ 62).1 60 1)) 62 4 ((mZr σ 62).1 60 2)) 62 5 ((mZr σ 62).1 61 1)) 62 6 ((mZr σ 62).1 61 2)) 62 7 ((mZr σ 62).1 61 0)) 62 8 x4) 62 9 ((mZr σ 62).1 26 15)) 62 10 ((mZr σ 62).1 26 2)) 62 11 ((mZr σ 62).1 26 4)).1 62 (x1).toNatClampNeg)))) 60 mSH τ))) ∧ (¬ ((σ.1 32 3) ≤ x5) → ((vp_in x5 40) ∧ ((vp_in (σ.1 36 (x5).toNatClampNeg) 3) ∧ ((vp_in (σ.1 52 (x5).toNatClampNeg) 3) ∧ mK Γ M_X9_counted (d + 1) Q 60 1 12 14 [(0, .ref 26), (1, .int x1), (2, .ref 60), (3, .ref 61), (4, .int (x4 + (σ.1 41 (x5).toNatClampNeg))), (5, .int (x5 + 1))] [] 62 (mNw (mNw mSH 60 (100, 3, fun _ => none)) 61 (100, 3, fun _ => none)) (mPI (mPI σ 60 (σ.1 36 (x5).toNatClampNeg).toNatClampNeg ((σ.1 60 (σ.1 36 (x5).toNatClampNeg).toNatClampNeg) + 1)) 61 (σ.1 52 (x5).toNatClampNeg).toNatClampNeg ((σ.1 61 (σ.1 52 (x5).toNatClampNeg).toNatClampNeg) + 1)))))))) : mK Γ M_X9_counted (d + 1) Q 60 1 12 14 [(0, .ref 26), (1, .int x1), (2, .ref 60), (3, .ref 61), (4, .int x4), (5, .int x5)] [] 62 (mNw (mNw mSH 60 (100, 3, fun _ => none)) 61 (100, 3, fun _ => none)) σ := by
  refine mK_iload dX9_counted_14 rfl (.tail _ (.tail _ (.tail _ (.tail _ (.tail _ (.head _)))))) ?_
  refine mK_aload_n dX9_counted_16 rfl rfl (.head _) ?_
  refine ru_getR (k := 11) (ci := 8) (a := 32) dX9_counted_17 rfl rfl rfl kw_1138 ?_
  refine ru_getIN (k := 3) (ci := 7) dX9_counted_20 rfl rfl kn_1086 ?_
  refine mK_icmp_ge (tgt := 76) dX9_counted_23 rfl (by decide) (fun c1 => ?_) (fun c1 => ?_)
  · refine mK_bipush dX9_counted_76 rfl qbi_12 ?_
    refine mK_newI (n := 12) dX9_counted_78 rfl (by decide) (by decide) (Nat.le_of_ble_eq_true rfl) (Nat.le_of_ble_eq_true rfl) (Nat.le_of_ble_eq_true rfl) (Nat.le_of_ble_eq_true rfl) kw_192 ?_
    show mK Γ M_X9_counted (d + 1) Q 60 0 0 80 [(0, .ref 26), (1, .int x1), (2, .ref 60), (3, .ref 61), (4, .int x4), (5, .int x5)] [.ref 62] 63 (mNw (mNw (mNw mSH 60 (100, 3, fun _ => none)) 61 (100, 3, fun _ => none)) 62 (100, 12, fun _ => none)) (mZr σ 62)
    refine mK_dup dX9_counted_80 rfl rfl ?_
    refine mK_iconst dX9_counted_81 rfl qic_0 ?_
    refine mK_aload_n dX9_counted_82 rfl rfl (.head _) ?_
    refine ru_getR (k := 11) (ci := 8) (a := 32) dX9_counted_83 rfl rfl rfl kw_1138 ?_
    refine ru_getIN (k := 0) (ci := 7) dX9_counted_86 rfl rfl kn_1080 ?_
    refine ru_iast (n := 12) dX9_counted_89 rfl rfl (by unfold vp_in; decide) ?_
    refine mK_dup dX9_counted_90 rfl rfl ?_
    refine mK_iconst dX9_counted_91 rfl qic_1 ?_
    refine mK_aload_n dX9_counted_92 rfl rfl (.head _) ?_
    refine ru_getR (k := 11) (ci := 8) (a := 32) dX9_counted_93 rfl rfl rfl kw_1138 ?_
    refine ru_getIN (k := 3) (ci := 7) dX9_counted_96 rfl rfl kn_1086 ?_
    refine ru_iast (n := 12) dX9_counted_99 rfl rfl (by unfold vp_in; decide) ?_
    refine mK_dup dX9_counted_100 rfl rfl ?_
    refine mK_iconst dX9_counted_101 rfl qic_2 ?_
    refine mK_aload_n dX9_counted_102 rfl rfl (.tail _ (.tail _ (.head _))) ?_
    refine mK_iconst dX9_counted_103 rfl qic_0 ?_
    refine ru_iald (n := 3) dX9_counted_104 rfl rfl (by unfold vp_in; decide) ?_
    refine ru_iast (n := 12) dX9_counted_105 rfl rfl (by unfold vp_in; decide) ?_
    refine mK_dup dX9_counted_106 rfl rfl ?_
    refine mK_iconst dX9_counted_107 rfl qic_3 ?_
    refine mK_aload_n dX9_counted_108 rfl rfl (.tail _ (.tail _ (.head _))) ?_
    refine mK_iconst dX9_counted_109 rfl qic_1 ?_
    refine ru_iald (n := 3) dX9_counted_110 rfl rfl (by unfold vp_in; decide) ?_
    refine ru_iast (n := 12) dX9_counted_111 rfl rfl (by unfold vp_in; decide) ?_
    refine mK_dup dX9_counted_112 rfl rfl ?_
    refine mK_iconst dX9_counted_113 rfl qic_4 ?_
    refine mK_aload_n dX9_counted_114 rfl rfl (.tail _ (.tail _ (.head _))) ?_
    refine mK_iconst dX9_counted_115 rfl qic_2 ?_
    refine ru_iald (n := 3) dX9_counted_116 rfl rfl (by unfold vp_in; decide) ?_
    refine ru_iast (n := 12) dX9_counted_117 rfl rfl (by unfold vp_in; decide) ?_
    refine mK_dup dX9_counted_118 rfl rfl ?_
    refine mK_iconst dX9_counted_119 rfl qic_5 ?_
    refine mK_aload_n dX9_counted_120 rfl rfl (.tail _ (.tail _ (.tail _ (.head _)))) ?_
    refine mK_iconst dX9_counted_121 rfl qic_1 ?_
    refine ru_iald (n := 3) dX9_counted_122 rfl rfl (by unfold vp_in; decide) ?_
    refine ru_iast (n := 12) dX9_counted_123 rfl rfl (by unfold vp_in; decide) ?_
    refine mK_dup dX9_counted_124 rfl rfl ?_
    refine mK_bipush dX9_counted_125 rfl qbi_6 ?_
    refine mK_aload_n dX9_counted_127 rfl rfl (.tail _ (.tail _ (.tail _ (.head _)))) ?_
    refine mK_iconst dX9_counted_128 rfl qic_2 ?_
    refine ru_iald (n := 3) dX9_counted_129 rfl rfl (by unfold vp_in; decide) ?_
    refine ru_iast (n := 12) dX9_counted_130 rfl rfl (by unfold vp_in; decide) ?_
    refine mK_dup dX9_counted_131 rfl rfl ?_
    refine mK_bipush dX9_counted_132 rfl qbi_7 ?_
    refine mK_aload_n dX9_counted_134 rfl rfl (.tail _ (.tail _ (.tail _ (.head _)))) ?_
    refine mK_iconst dX9_counted_135 rfl qic_0 ?_
    refine ru_iald (n := 3) dX9_counted_136 rfl rfl (by unfold vp_in; decide) ?_
    refine ru_iast (n := 12) dX9_counted_137 rfl rfl (by unfold vp_in; decide) ?_
    refine mK_dup dX9_counted_138 rfl rfl ?_
    refine mK_bipush dX9_counted_139 rfl qbi_8 ?_
    refine mK_iload dX9_counted_141 rfl (.tail _ (.tail _ (.tail _ (.tail _ (.head _))))) ?_
    refine ru_iast (n := 12) dX9_counted_143 rfl rfl (by unfold vp_in; decide) ?_
    refine mK_dup dX9_counted_144 rfl rfl ?_
    refine mK_bipush dX9_counted_145 rfl qbi_9 ?_
    refine mK_aload_n dX9_counted_147 rfl rfl (.head _) ?_
    refine ru_getI (k := 15) (ci := 8) dX9_counted_148 rfl rfl kw_1142 ?_
    refine ru_iast (n := 12) dX9_counted_151 rfl rfl (by unfold vp_in; decide) ?_
    refine mK_dup dX9_counted_152 rfl rfl ?_
    refine mK_bipush dX9_counted_153 rfl qbi_10 ?_
    refine mK_aload_n dX9_counted_155 rfl rfl (.head _) ?_
    refine ru_getI (k := 2) (ci := 8) dX9_counted_156 rfl rfl kw_1129 ?_
    refine ru_iast (n := 12) dX9_counted_159 rfl rfl (by unfold vp_in; decide) ?_
    refine mK_dup dX9_counted_160 rfl rfl ?_
    refine mK_bipush dX9_counted_161 rfl qbi_11 ?_
    refine mK_aload_n dX9_counted_163 rfl rfl (.head _) ?_
    refine ru_getI (k := 4) (ci := 8) dX9_counted_164 rfl rfl kw_1131 ?_
    refine ru_iast (n := 12) dX9_counted_167 rfl rfl (by unfold vp_in; decide) ?_
    refine ru_astore (lv1 := [(0, .ref 26), (1, .int x1), (2, .ref 60), (3, .ref 61), (4, .int x4), (5, .ref 62)]) dX9_counted_168 rfl (by decide) rfl ?_
    refine mK_aload dX9_counted_170 rfl (.tail _ (.tail _ (.tail _ (.tail _ (.tail _ (.head _)))))) ?_
    refine mK_iload_n dX9_counted_172 rfl rfl (.tail _ (.head _)) ?_
    refine ru_iald (n := 12) dX9_counted_173 rfl rfl ((h.1 c1).1) ?_
    exact mK_iretB dX9_counted_174 rfl (Nat.le_of_ble_eq_true rfl) (mB_s (mB_s (mB_s mB_0 (Nat.le_of_ble_eq_true rfl)) (Nat.le_of_ble_eq_true rfl)) (Nat.le_of_ble_eq_true rfl)) (h.1 c1).2
  · refine mK_aload_n dX9_counted_26 rfl rfl (.tail _ (.tail _ (.head _))) ?_
    refine mK_aload_n dX9_counted_27 rfl rfl (.head _) ?_
    refine ru_getR (k := 11) (ci := 8) (a := 32) dX9_counted_28 rfl rfl rfl kw_1138 ?_
    refine ru_getRN (k := 5) (ci := 7) (a := 36) dX9_counted_31 rfl rfl rfl kn_1090 ?_
    refine mK_iload dX9_counted_34 rfl (.tail _ (.tail _ (.tail _ (.tail _ (.tail _ (.head _)))))) ?_
    refine ru_iald (n := 40) dX9_counted_36 rfl rfl ((h.2 c1).1) ?_
    refine mK_dup2 dX9_counted_37 rfl rfl rfl ?_
    refine ru_iald (n := 3) dX9_counted_38 rfl rfl ((h.2 c1).2.1) ?_
    refine mK_iconst dX9_counted_39 rfl qic_1 ?_
    refine mK_iadd dX9_counted_40 rfl ?_
    refine ru_iast (n := 3) dX9_counted_41 rfl rfl ((h.2 c1).2.1) ?_
    refine mK_aload_n dX9_counted_42 rfl rfl (.tail _ (.tail _ (.tail _ (.head _)))) ?_
    refine mK_aload_n dX9_counted_43 rfl rfl (.head _) ?_
    refine ru_getR (k := 13) (ci := 8) (a := 52) dX9_counted_44 rfl rfl rfl kw_1140 ?_
    refine mK_iload dX9_counted_47 rfl (.tail _ (.tail _ (.tail _ (.tail _ (.tail _ (.head _)))))) ?_
    refine ru_iald (n := 40) dX9_counted_49 rfl rfl ((h.2 c1).1) ?_
    refine mK_dup2 dX9_counted_50 rfl rfl rfl ?_
    refine ru_iald (n := 3) dX9_counted_51 rfl rfl ((h.2 c1).2.2.1) ?_
    refine mK_iconst dX9_counted_52 rfl qic_1 ?_
    refine mK_iadd dX9_counted_53 rfl ?_
    refine ru_iast (n := 3) dX9_counted_54 rfl rfl ((h.2 c1).2.2.1) ?_
    refine mK_iload dX9_counted_55 rfl (.tail _ (.tail _ (.tail _ (.tail _ (.head _))))) ?_
    refine mK_aload_n dX9_counted_57 rfl rfl (.head _) ?_
    refine ru_getR (k := 11) (ci := 8) (a := 32) dX9_counted_58 rfl rfl rfl kw_1138 ?_
    refine ru_getRN (k := 10) (ci := 7) (a := 41) dX9_counted_61 rfl rfl rfl kn_1100 ?_
    refine mK_iload dX9_counted_64 rfl (.tail _ (.tail _ (.tail _ (.tail _ (.tail _ (.head _)))))) ?_
    refine ru_iald (n := 40) dX9_counted_66 rfl rfl ((h.2 c1).1) ?_
    refine mK_iadd dX9_counted_67 rfl ?_
    refine ru_istore (lv1 := [(0, .ref 26), (1, .int x1), (2, .ref 60), (3, .ref 61), (4, .int (x4 + (σ.1 41 (x5).toNatClampNeg))), (5, .int x5)]) dX9_counted_68 rfl (by decide) rfl ?_
    refine ru_iinc (lv1 := [(0, .ref 26), (1, .int x1), (2, .ref 60), (3, .ref 61), (4, .int (x4 + (σ.1 41 (x5).toNatClampNeg))), (5, .int (x5 + 1))]) dX9_counted_70 rfl (.tail _ (.tail _ (.tail _ (.tail _ (.tail _ (.head _)))))) qic_1 (by decide) rfl ?_
    refine mK_goto (tgt := 14) dX9_counted_73 (by decide) ?_
    exact (h.2 c1).2.2.2
set_option maxRecDepth 20000 in
theorem E_X9_feed_26 {Γ : Nat × (Nat → Int32)} {d : Nat} {Q : mQ} {σ : mS} (a1 : Int32) (a2 : Int32) (a3 : Int32) (a4 : Int32) (a5 : Int32) (h : ((((σ.1 26 2) + 20) ≤ 2000 → mK Γ M_X9_feed (d + 2) Q 60 0 0 54 [(0, .ref 26), (6, .ref 60), (7, .int 0)] [] 61 (mNw mSH 60 (100, 5, fun _ => none)) (mPI (mPI (mPI (mPI (mPI (mZr (mPI σ 26 0 0) 60) 60 0 a1) 60 1 a2) 60 2 a3) 60 3 a4) 60 4 a5)) ∧ (¬ (((σ.1 26 2) + 20) ≤ 2000) → Q (.inl (some (.int (h_X9_no_26 (mPI σ 26 0 0) 1).1))) 60 mSH (h_X9_no_26 (mPI σ 26 0 0) 1).2))) : mCall Γ M_X9_feed (d + 2) 1 5 [.ref 26, .int a1, .int a2, .int a3, .int a4, .int a5] 60 mSH σ Q := by
  refine mCall_of rfl (by decide) (Nat.le_of_ble_eq_true rfl) (mOkC (mOk_lo (Nat.le_of_ble_eq_true rfl)) (mOkC mOk_i (mOkC mOk_i (mOkC mOk_i (mOkC mOk_i (mOkC mOk_i mOkN)))))) ?_
  show mK Γ M_X9_feed (d + 2) Q 60 1 5 0 [(0, .ref 26), (1, .int a1), (2, .int a2), (3, .int a3), (4, .int a4), (5, .int a5)] [] 60 mSH σ
  refine mK_aload_n dX9_feed_0 rfl rfl (.head _) ?_
  refine mK_iconst dX9_feed_1 rfl qic_0 ?_
  refine ru_putI (k := 0) (ci := 8) dX9_feed_2 rfl rfl rfl kw_1127 ?_
  refine mK_aload_n dX9_feed_5 rfl rfl (.head _) ?_
  refine ru_getI (k := 2) (ci := 8) dX9_feed_6 rfl rfl kw_1129 ?_
  refine mK_bipush dX9_feed_9 rfl qbi_20 ?_
  refine mK_iadd dX9_feed_11 rfl ?_
  refine mK_sipush dX9_feed_12 rfl qsi_2000 ?_
  refine mK_icmp_le (tgt := 24) dX9_feed_15 rfl (by decide) (fun c1 => ?_) (fun c1 => ?_)
  · refine mK_iconst dX9_feed_24 rfl qic_5 ?_
    refine mK_newI (n := 5) dX9_feed_25 rfl (by decide) (by decide) (Nat.le_of_ble_eq_true rfl) (Nat.le_of_ble_eq_true rfl) (Nat.le_of_ble_eq_true rfl) (Nat.le_of_ble_eq_true rfl) kw_192 ?_
    show mK Γ M_X9_feed (d + 2) Q 60 0 0 27 [(0, .ref 26), (1, .int a1), (2, .int a2), (3, .int a3), (4, .int a4), (5, .int a5)] [.ref 60] 61 (mNw mSH 60 (100, 5, fun _ => none)) (mZr (mPI σ 26 0 0) 60)
    refine mK_dup dX9_feed_27 rfl rfl ?_
    refine mK_iconst dX9_feed_28 rfl qic_0 ?_
    refine mK_iload_n dX9_feed_29 rfl rfl (.tail _ (.head _)) ?_
    refine ru_iast (n := 5) dX9_feed_30 rfl rfl (by unfold vp_in; decide) ?_
    refine mK_dup dX9_feed_31 rfl rfl ?_
    refine mK_iconst dX9_feed_32 rfl qic_1 ?_
    refine mK_iload_n dX9_feed_33 rfl rfl (.tail _ (.tail _ (.head _))) ?_
    refine ru_iast (n := 5) dX9_feed_34 rfl rfl (by unfold vp_in; decide) ?_
    refine mK_dup dX9_feed_35 rfl rfl ?_
    refine mK_iconst dX9_feed_36 rfl qic_2 ?_
    refine mK_iload_n dX9_feed_37 rfl rfl (.tail _ (.tail _ (.tail _ (.head _)))) ?_
    refine ru_iast (n := 5) dX9_feed_38 rfl rfl (by unfold vp_in; decide) ?_
    refine mK_dup dX9_feed_39 rfl rfl ?_
    refine mK_iconst dX9_feed_40 rfl qic_3 ?_
    refine mK_iload dX9_feed_41 rfl (.tail _ (.tail _ (.tail _ (.tail _ (.head _))))) ?_
    refine ru_iast (n := 5) dX9_feed_43 rfl rfl (by unfold vp_in; decide) ?_
    refine mK_dup dX9_feed_44 rfl rfl ?_
    refine mK_iconst dX9_feed_45 rfl qic_4 ?_
    refine mK_iload dX9_feed_46 rfl (.tail _ (.tail _ (.tail _ (.tail _ (.tail _ (.head _)))))) ?_
    refine ru_iast (n := 5) dX9_feed_48 rfl rfl (by unfold vp_in; decide) ?_
    refine ru_astore (lv1 := [(0, .ref 26), (1, .int a1), (2, .int a2), (3, .int a3), (4, .int a4), (5, .int a5), (6, .ref 60)]) dX9_feed_49 rfl (by decide) rfl ?_
    refine mK_iconst dX9_feed_51 rfl qic_0 ?_
    refine ru_istore (lv1 := [(0, .ref 26), (1, .int a1), (2, .int a2), (3, .int a3), (4, .int a4), (5, .int a5), (6, .ref 60), (7, .int 0)]) dX9_feed_52 rfl (by decide) rfl ?_
    exact ru_pick [0, 6, 7] rfl (h.1 c1)
  · refine mK_aload_n dX9_feed_18 rfl rfl (.head _) ?_
    refine mK_iconst dX9_feed_19 rfl qic_1 ?_
    refine mK_invV (J := M_X9_no) (k := 1) (as := [.int 1]) (st := []) (c1 := 0) (s1 := 0) dX9_feed_20 rfl jw_X9_no jn_X9_no rfl (Nat.le_of_ble_eq_true rfl) (Nat.zero_le _) (Nat.zero_le _) rfl kw_1208 kw_1210 kw_38 (b := 26) (Nat.le_of_ble_eq_true rfl) (Nat.le_of_ble_eq_true rfl) rfl ?_
    refine S_X9_no_26 1 ?_
    show mK Γ M_X9_feed (d + 2) Q 60 1 5 23 [(0, .ref 26), (1, .int a1), (2, .int a2), (3, .int a3), (4, .int a4), (5, .int a5)] [.int (h_X9_no_26 (mPI σ 26 0 0) 1).1] 60 mSH (h_X9_no_26 (mPI σ 26 0 0) 1).2
    exact mK_iret dX9_feed_23 rfl (h.2 c1)
set_option maxRecDepth 20000 in
theorem T_X9_feed_26_54 {Γ : Nat × (Nat → Int32)} {d : Nat} {Q : mQ} {σ : mS} (x7 : Int32) (h : ((20 ≤ x7 → (∃ τ : mS, mBk (mPI σ 26 2 ((σ.1 26 2) + 20)) τ ∧ Q (.inl (some (.int ((σ.1 26 2) + 20)))) 60 mSH τ)) ∧ (¬ (20 ≤ x7) → ((vp_in (x7 / 4) 5) ∧ ((vp_in ((σ.1 26 2) + x7) 2000) ∧ mK Γ M_X9_feed (d + 2) Q 60 0 0 54 [(0, .ref 26), (6, .ref 60), (7, .int (x7 + 1))] [] 61 (mNw mSH 60 (100, 5, fun _ => none)) (mPI σ 27 ((σ.1 26 2) + x7).toNatClampNeg ((Int32.toUInt32 (σ.1 60 (x7 / 4).toNatClampNeg) >>> (Int32.toUInt32 (24 - (8 * (x7 - x7 / 4 * 4))) &&& Int32.toUInt32 31)).toInt32 &&& 255))))))) : mK Γ M_X9_feed (d + 2) Q 60 0 0 54 [(0, .ref 26), (6, .ref 60), (7, .int x7)] [] 61 (mNw mSH 60 (100, 5, fun _ => none)) σ := by
  refine mK_iload dX9_feed_54 rfl (.tail _ (.tail _ (.head _))) ?_
  refine mK_bipush dX9_feed_56 rfl qbi_20 ?_
  refine mK_icmp_ge (tgt := 101) dX9_feed_58 rfl (by decide) (fun c1 => ?_) (fun c1 => ?_)
  · refine mK_aload_n dX9_feed_101 rfl rfl (.head _) ?_
    refine mK_dup dX9_feed_102 rfl rfl ?_
    refine ru_getI (k := 2) (ci := 8) dX9_feed_103 rfl rfl kw_1129 ?_
    refine mK_bipush dX9_feed_106 rfl qbi_20 ?_
    refine mK_iadd dX9_feed_108 rfl ?_
    refine ru_putI (k := 2) (ci := 8) dX9_feed_109 rfl rfl rfl kw_1129 ?_
    refine mK_aload_n dX9_feed_112 rfl rfl (.head _) ?_
    refine ru_getI (k := 2) (ci := 8) dX9_feed_113 rfl rfl kw_1129 ?_
    exact mK_iretB dX9_feed_116 rfl (Nat.le_of_ble_eq_true rfl) (mB_s mB_0 (Nat.le_of_ble_eq_true rfl)) (h.1 c1)
  · refine mK_aload_n dX9_feed_61 rfl rfl (.head _) ?_
    refine ru_getR (k := 3) (ci := 8) (a := 27) dX9_feed_62 rfl rfl rfl kw_1130 ?_
    refine mK_aload_n dX9_feed_65 rfl rfl (.head _) ?_
    refine ru_getI (k := 2) (ci := 8) dX9_feed_66 rfl rfl kw_1129 ?_
    refine mK_iload dX9_feed_69 rfl (.tail _ (.tail _ (.head _))) ?_
    refine mK_iadd dX9_feed_71 rfl ?_
    refine mK_aload dX9_feed_72 rfl (.tail _ (.head _)) ?_
    refine mK_iload dX9_feed_74 rfl (.tail _ (.tail _ (.head _))) ?_
    refine mK_iconst dX9_feed_76 rfl qic_4 ?_
    refine mK_idiv dX9_feed_77 rfl (by decide) ?_
    refine ru_iald (n := 5) dX9_feed_78 rfl rfl ((h.2 c1).1) ?_
    refine mK_bipush dX9_feed_79 rfl qbi_24 ?_
    refine mK_bipush dX9_feed_81 rfl qbi_8 ?_
    refine mK_iload dX9_feed_83 rfl (.tail _ (.tail _ (.head _))) ?_
    refine mK_iconst dX9_feed_85 rfl qic_4 ?_
    refine mK_irem dX9_feed_86 rfl (by decide) ?_
    refine mK_imul dX9_feed_87 rfl ?_
    refine mK_isub dX9_feed_88 rfl ?_
    refine mK_iushr dX9_feed_89 rfl ?_
    refine mK_sipush dX9_feed_90 rfl qsi_255 ?_
    refine mK_iand dX9_feed_93 rfl ?_
    refine ru_iast (n := 2000) dX9_feed_94 rfl rfl ((h.2 c1).2.1) ?_
    refine ru_iinc (lv1 := [(0, .ref 26), (6, .ref 60), (7, .int (x7 + 1))]) dX9_feed_95 rfl (.tail _ (.tail _ (.head _))) qic_1 (by decide) rfl ?_
    refine mK_goto (tgt := 54) dX9_feed_98 (by decide) ?_
    exact (h.2 c1).2.2
