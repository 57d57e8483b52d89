set_option maxRecDepth 20000 in
theorem E_X9_score_26_52 {Γ : Nat × (Nat → Int32)} {d : Nat} {Q : mQ} {σ : mS} (a1 : Int32) (h : ((vp_in a1 6) ∧ mK Γ M_X9_score (d + 2) Q 60 0 0 16 [(0, .ref 26), (1, .int a1), (2, .ref 52), (3, .int ((σ.1 34 (a1).toNatClampNeg) / 60)), (4, .int 0)] [] 60 mSH σ)) : mCall Γ M_X9_score (d + 2) 0 0 [.ref 26, .int a1, .ref 52] 60 mSH σ Q := by
  refine mCall_of rfl (by decide) (Nat.le_of_ble_eq_true rfl) (mOkC (mOk_lo (Nat.le_of_ble_eq_true rfl)) (mOkC mOk_i (mOkC (mOk_lo (Nat.le_of_ble_eq_true rfl)) mOkN))) ?_
  show mK Γ M_X9_score (d + 2) Q 60 0 0 0 [(0, .ref 26), (1, .int a1), (2, .ref 52)] [] 60 mSH σ
  refine mK_aload_n dX9_score_0 rfl rfl (.head _) ?_
  refine ru_getR (k := 11) (ci := 8) (a := 32) dX9_score_1 rfl rfl rfl kw_1138 ?_
  refine ru_getRN (k := 2) (ci := 7) (a := 34) dX9_score_4 rfl rfl rfl kn_1084 ?_
  refine mK_iload_n dX9_score_7 rfl rfl (.tail _ (.head _)) ?_
  refine ru_iald (n := 6) dX9_score_8 rfl rfl (h.1) ?_
  refine mK_bipush dX9_score_9 rfl qbi_60 ?_
  refine mK_idiv dX9_score_11 rfl (by decide) ?_
  refine ru_istore_n (lv1 := [(0, .ref 26), (1, .int a1), (2, .ref 52), (3, .int ((σ.1 34 (a1).toNatClampNeg) / 60))]) dX9_score_12 rfl rfl (by decide) rfl ?_
  refine mK_iconst dX9_score_13 rfl qic_0 ?_
  refine ru_istore (lv1 := [(0, .ref 26), (1, .int a1), (2, .ref 52), (3, .int ((σ.1 34 (a1).toNatClampNeg) / 60)), (4, .int 0)]) dX9_score_14 rfl (by decide) rfl ?_
  exact h.2
set_option maxRecDepth 20000 in
theorem T_X9_score_26_52_16 {Γ : Nat × (Nat → Int32)} {d n0 bc bs : Nat} {Q : mQ} {σ : mS} (x1 : Int32) (x3 : Int32) (x4 : Int32) (h : (((σ.1 32 3) ≤ x4 → Q (.inl (some (.int x3))) 60 mSH σ) ∧ (¬ ((σ.1 32 3) ≤ x4) → ((vp_in x4 40) ∧ (((σ.1 37 (x4).toNatClampNeg) = x1 → (((f_X9_isConceded_26 σ x4) = 0 → mK Γ M_X9_score (d + 2) Q n0 bc bs 66 [(0, .ref 26), (1, .int x1), (2, .ref 52), (3, .int x3), (4, .int x4), (5, .int 1)] [] 60 mSH σ) ∧ (¬ ((f_X9_isConceded_26 σ x4) = 0) → mK Γ M_X9_score (d + 2) Q n0 bc bs 66 [(0, .ref 26), (1, .int x1), (2, .ref 52), (3, .int (x3 + (-1))), (4, .int x4), (5, .int 1)] [] 60 mSH σ))) ∧ (¬ ((σ.1 37 (x4).toNatClampNeg) = x1) → mK Γ M_X9_score (d + 2) Q n0 bc bs 66 [(0, .ref 26), (1, .int x1), (2, .ref 52), (3, .int x3), (4, .int x4), (5, .int 0)] [] 60 mSH σ)))))) : mK Γ M_X9_score (d + 2) Q n0 bc bs 16 [(0, .ref 26), (1, .int x1), (2, .ref 52), (3, .int x3), (4, .int x4)] [] 60 mSH σ := by
  refine mK_iload dX9_score_16 rfl (.tail _ (.tail _ (.tail _ (.tail _ (.head _))))) ?_
  refine mK_aload_n dX9_score_18 rfl rfl (.head _) ?_
  refine ru_getR (k := 11) (ci := 8) (a := 32) dX9_score_19 rfl rfl rfl kw_1138 ?_
  refine ru_getIN (k := 3) (ci := 7) dX9_score_22 rfl rfl kn_1086 ?_
  refine mK_icmp_ge (tgt := 265) dX9_score_25 rfl (by decide) (fun c1 => ?_) (fun c1 => ?_)
  · refine mK_iload_n dX9_score_265 rfl rfl (.tail _ (.tail _ (.tail _ (.head _)))) ?_
    exact mK_iret dX9_score_266 rfl (h.1 c1)
  · refine mK_aload_n dX9_score_28 rfl rfl (.head _) ?_
    refine ru_getR (k := 11) (ci := 8) (a := 32) dX9_score_29 rfl rfl rfl kw_1138 ?_
    refine ru_getRN (k := 6) (ci := 7) (a := 37) dX9_score_32 rfl rfl rfl kn_1092 ?_
    refine mK_iload dX9_score_35 rfl (.tail _ (.tail _ (.tail _ (.tail _ (.head _))))) ?_
    refine ru_iald (n := 40) dX9_score_37 rfl rfl ((h.2 c1).1) ?_
    refine mK_iload_n dX9_score_38 rfl rfl (.tail _ (.head _)) ?_
    refine ru_icmp_ne (tgt := 46) dX9_score_39 rfl (by decide) (fun c2 => ?_) (fun c2 => ?_)
    · refine mK_iconst dX9_score_46 rfl qic_0 ?_
      refine ru_istore (lv1 := [(0, .ref 26), (1, .int x1), (2, .ref 52), (3, .int x3), (4, .int x4), (5, .int 0)]) dX9_score_47 rfl (by decide) rfl ?_
      refine mK_iload dX9_score_49 rfl (.tail _ (.tail _ (.tail _ (.tail _ (.tail _ (.head _)))))) ?_
      refine mK_if_eq (tgt := 66) dX9_score_51 rfl (by decide) (fun c3 => ?_) (fun c3 => ?_)
      · exact ((h.2 c1).2.2 c2)
      · exact absurd (by decide) c3
    · refine mK_iconst dX9_score_42 rfl qic_1 ?_
      refine mK_goto (tgt := 47) dX9_score_43 (by decide) ?_
      refine ru_istore (lv1 := [(0, .ref 26), (1, .int x1), (2, .ref 52), (3, .int x3), (4, .int x4), (5, .int 1)]) dX9_score_47 rfl (by decide) rfl ?_
      refine mK_iload dX9_score_49 rfl (.tail _ (.tail _ (.tail _ (.tail _ (.tail _ (.head _)))))) ?_
      refine mK_if_eq (tgt := 66) dX9_score_51 rfl (by decide) (fun c4 => ?_) (fun c4 => ?_)
      · exact absurd c4 (by decide)
      · refine mK_aload_n dX9_score_54 rfl rfl (.head _) ?_
        refine mK_iload dX9_score_55 rfl (.tail _ (.tail _ (.tail _ (.tail _ (.head _))))) ?_
        refine mK_invV (J := M_X9_isConceded) (k := 1) (as := [.int x4]) (st := []) (c1 := 0) (s1 := 0) dX9_score_57 rfl jw_X9_isConceded jn_X9_isConceded rfl (Nat.le_of_ble_eq_true rfl) (Nat.zero_le _) (Nat.zero_le _) rfl kw_1437 kw_1439 kw_65 (b := 26) (Nat.le_of_ble_eq_true rfl) (Nat.le_of_ble_eq_true rfl) rfl ?_
        refine S_X9_isConceded_26 x4 ((h.2 c1).1) ?_
        show mK Γ M_X9_score (d + 2) Q n0 bc bs 60 [(0, .ref 26), (1, .int x1), (2, .ref 52), (3, .int x3), (4, .int x4), (5, .int 1)] [.int (f_X9_isConceded_26 σ x4)] 60 mSH σ
        refine mK_if_eq (tgt := 66) dX9_score_60 rfl (by decide) (fun c5 => ?_) (fun c5 => ?_)
        · exact (((h.2 c1).2.1 c2).1 c5)
        · refine ru_iinc (lv1 := [(0, .ref 26), (1, .int x1), (2, .ref 52), (3, .int (x3 + (-1))), (4, .int x4), (5, .int 1)]) dX9_score_63 rfl (.tail _ (.tail _ (.tail _ (.head _)))) qic_m1 (by decide) rfl ?_
          exact (((h.2 c1).2.1 c2).2 c5)
set_option maxRecDepth 20000 in
theorem T_X9_score_26_52_66 {Γ : Nat × (Nat → Int32)} {d n0 bc bs : Nat} {Q : mQ} {σ : mS} (x1 : Int32) (x3 : Int32) (x4 : Int32) (x5 : Int32) (h : ((x5 = 0 → mK Γ M_X9_score (d + 2) Q n0 bc bs 131 [(0, .ref 26), (1, .int x1), (2, .ref 52), (3, .int x3), (4, .int x4), (5, .int x5)] [] 60 mSH σ) ∧ (¬ (x5 = 0) → ((vp_in x4 40) ∧ (((σ.1 36 (x4).toNatClampNeg) = 0 → (((σ.1 52 (x4).toNatClampNeg) = 1 → mK Γ M_X9_score (d + 2) Q n0 bc bs 131 [(0, .ref 26), (1, .int x1), (2, .ref 52), (3, .int (x3 + (σ.1 38 (x4).toNatClampNeg))), (4, .int x4), (5, .int x5)] [] 60 mSH σ) ∧ (¬ ((σ.1 52 (x4).toNatClampNeg) = 1) → (((σ.1 52 (x4).toNatClampNeg) = 0 → mK Γ M_X9_score (d + 2) Q n0 bc bs 131 [(0, .ref 26), (1, .int x1), (2, .ref 52), (3, .int (x3 + ((σ.1 38 (x4).toNatClampNeg) / 2))), (4, .int x4), (5, .int x5)] [] 60 mSH σ) ∧ (¬ ((σ.1 52 (x4).toNatClampNeg) = 0) → mK Γ M_X9_score (d + 2) Q n0 bc bs 131 [(0, .ref 26), (1, .int x1), (2, .ref 52), (3, .int (x3 + 0)), (4, .int x4), (5, .int x5)] [] 60 mSH σ))))) ∧ (¬ ((σ.1 36 (x4).toNatClampNeg) = 0) → mK Γ M_X9_score (d + 2) Q n0 bc bs 131 [(0, .ref 26), (1, .int x1), (2, .ref 52), (3, .int x3), (4, .int x4), (5, .int x5)] [] 60 mSH σ)))))) : mK Γ M_X9_score (d + 2) Q n0 bc bs 66 [(0, .ref 26), (1, .int x1), (2, .ref 52), (3, .int x3), (4, .int x4), (5, .int x5)] [] 60 mSH σ := by
  refine mK_iload dX9_score_66 rfl (.tail _ (.tail _ (.tail _ (.tail _ (.tail _ (.head _)))))) ?_
  refine mK_if_eq (tgt := 131) dX9_score_68 rfl (by decide) (fun c1 => ?_) (fun c1 => ?_)
  · exact (h.1 c1)
  · refine mK_aload_n dX9_score_71 rfl rfl (.head _) ?_
    refine ru_getR (k := 11) (ci := 8) (a := 32) dX9_score_72 rfl rfl rfl kw_1138 ?_
    refine ru_getRN (k := 5) (ci := 7) (a := 36) dX9_score_75 rfl rfl rfl kn_1090 ?_
    refine mK_iload dX9_score_78 rfl (.tail _ (.tail _ (.tail _ (.tail _ (.head _))))) ?_
    refine ru_iald (n := 40) dX9_score_80 rfl rfl ((h.2 c1).1) ?_
    refine ru_if_ne (tgt := 131) dX9_score_81 rfl (by decide) (fun c2 => ?_) (fun c2 => ?_)
    · exact ((h.2 c1).2.2 c2)
    · refine mK_iload_n dX9_score_84 rfl rfl (.tail _ (.tail _ (.tail _ (.head _)))) ?_
      refine mK_aload_n dX9_score_85 rfl rfl (.tail _ (.tail _ (.head _))) ?_
      refine mK_iload dX9_score_86 rfl (.tail _ (.tail _ (.tail _ (.tail _ (.head _))))) ?_
      refine ru_iald (n := 40) dX9_score_88 rfl rfl ((h.2 c1).1) ?_
      refine mK_iconst dX9_score_89 rfl qic_1 ?_
      refine ru_icmp_ne (tgt := 106) dX9_score_90 rfl (by decide) (fun c3 => ?_) (fun c3 => ?_)
      · refine mK_aload_n dX9_score_106 rfl rfl (.tail _ (.tail _ (.head _))) ?_
        refine mK_iload dX9_score_107 rfl (.tail _ (.tail _ (.tail _ (.tail _ (.head _))))) ?_
        refine ru_iald (n := 40) dX9_score_109 rfl rfl ((h.2 c1).1) ?_
        refine ru_if_ne (tgt := 128) dX9_score_110 rfl (by decide) (fun c4 => ?_) (fun c4 => ?_)
        · refine mK_iconst dX9_score_128 rfl qic_0 ?_
          refine mK_iadd dX9_score_129 rfl ?_
          refine ru_istore_n (lv1 := [(0, .ref 26), (1, .int x1), (2, .ref 52), (3, .int (x3 + 0)), (4, .int x4), (5, .int x5)]) dX9_score_130 rfl rfl (by decide) rfl ?_
          exact ((((h.2 c1).2.1 c2).2 c3).2 c4)
        · refine mK_aload_n dX9_score_113 rfl rfl (.head _) ?_
          refine ru_getR (k := 11) (ci := 8) (a := 32) dX9_score_114 rfl rfl rfl kw_1138 ?_
          refine ru_getRN (k := 7) (ci := 7) (a := 38) dX9_score_117 rfl rfl rfl kn_1094 ?_
          refine mK_iload dX9_score_120 rfl (.tail _ (.tail _ (.tail _ (.tail _ (.head _))))) ?_
          refine ru_iald (n := 40) dX9_score_122 rfl rfl ((h.2 c1).1) ?_
          refine mK_iconst dX9_score_123 rfl qic_2 ?_
          refine mK_idiv dX9_score_124 rfl (by decide) ?_
          refine mK_goto (tgt := 129) dX9_score_125 (by decide) ?_
          refine mK_iadd dX9_score_129 rfl ?_
          refine ru_istore_n (lv1 := [(0, .ref 26), (1, .int x1), (2, .ref 52), (3, .int (x3 + ((σ.1 38 (x4).toNatClampNeg) / 2))), (4, .int x4), (5, .int x5)]) dX9_score_130 rfl rfl (by decide) rfl ?_
          exact ((((h.2 c1).2.1 c2).2 c3).1 c4)
      · refine mK_aload_n dX9_score_93 rfl rfl (.head _) ?_
        refine ru_getR (k := 11) (ci := 8) (a := 32) dX9_score_94 rfl rfl rfl kw_1138 ?_
        refine ru_getRN (k := 7) (ci := 7) (a := 38) dX9_score_97 rfl rfl rfl kn_1094 ?_
        refine mK_iload dX9_score_100 rfl (.tail _ (.tail _ (.tail _ (.tail _ (.head _))))) ?_
        refine ru_iald (n := 40) dX9_score_102 rfl rfl ((h.2 c1).1) ?_
        refine mK_goto (tgt := 129) dX9_score_103 (by decide) ?_
        refine mK_iadd dX9_score_129 rfl ?_
        refine ru_istore_n (lv1 := [(0, .ref 26), (1, .int x1), (2, .ref 52), (3, .int (x3 + (σ.1 38 (x4).toNatClampNeg))), (4, .int x4), (5, .int x5)]) dX9_score_130 rfl rfl (by decide) rfl ?_
        exact (((h.2 c1).2.1 c2).1 c3)
set_option maxRecDepth 20000 in
theorem T_X9_score_26_52_131 {Γ : Nat × (Nat → Int32)} {d n0 bc bs : Nat} {Q : mQ} {σ : mS} (x1 : Int32) (x3 : Int32) (x4 : Int32) (x5 : Int32) (h : ((vp_in x4 40) ∧ (((σ.1 52 (x4).toNatClampNeg) = 1 → ((x5 = 0 → mK Γ M_X9_score (d + 2) Q n0 bc bs 174 [(0, .ref 26), (1, .int x1), (2, .ref 52), (3, .int x3), (4, .int x4), (5, .int x5)] [] 60 mSH σ) ∧ (¬ (x5 = 0) → ((((σ.1 36 (x4).toNatClampNeg) = 1) → vp_in (σ.1 40 (x4).toNatClampNeg) 40) ∧ (((f_X8_isStrong_32 σ x4) = 0 → mK Γ M_X9_score (d + 2) Q n0 bc bs 174 [(0, .ref 26), (1, .int x1), (2, .ref 52), (3, .int x3), (4, .int x4), (5, .int x5)] [] 60 mSH σ) ∧ (¬ ((f_X8_isStrong_32 σ x4) = 0) → mK Γ M_X9_score (d + 2) Q n0 bc bs 174 [(0, .ref 26), (1, .int x1), (2, .ref 52), (3, .int (x3 + ((σ.1 38 (x4).toNatClampNeg) / 2))), (4, .int x4), (5, .int x5)] [] 60 mSH σ)))))) ∧ (¬ ((σ.1 52 (x4).toNatClampNeg) = 1) → mK Γ M_X9_score (d + 2) Q n0 bc bs 259 [(0, .ref 26), (1, .int x1), (2, .ref 52), (3, .int x3), (4, .int x4)] [] 60 mSH σ)))) : mK Γ M_X9_score (d + 2) Q n0 bc bs 131 [(0, .ref 26), (1, .int x1), (2, .ref 52), (3, .int x3), (4, .int x4), (5, .int x5)] [] 60 mSH σ := by
  refine mK_aload_n dX9_score_131 rfl rfl (.tail _ (.tail _ (.head _))) ?_
  refine mK_iload dX9_score_132 rfl (.tail _ (.tail _ (.tail _ (.tail _ (.head _))))) ?_
  refine ru_iald (n := 40) dX9_score_134 rfl rfl (h.1) ?_
  refine mK_iconst dX9_score_135 rfl qic_1 ?_
  refine mK_icmp_eq (tgt := 142) dX9_score_136 rfl (by decide) (fun c1 => ?_) (fun c1 => ?_)
  · refine mK_iload dX9_score_142 rfl (.tail _ (.tail _ (.tail _ (.tail _ (.tail _ (.head _)))))) ?_
    refine mK_if_eq (tgt := 174) dX9_score_144 rfl (by decide) (fun c2 => ?_) (fun c2 => ?_)
    · exact ((h.2.1 c1).1 c2)
    · refine mK_aload_n dX9_score_147 rfl rfl (.head _) ?_
      refine ru_getR (k := 11) (ci := 8) (a := 32) dX9_score_148 rfl rfl rfl kw_1138 ?_
      refine mK_iload dX9_score_151 rfl (.tail _ (.tail _ (.tail _ (.tail _ (.head _))))) ?_
      refine mK_invV (J := M_X8_isStrong) (k := 1) (as := [.int x4]) (st := []) (c1 := 0) (s1 := 0) dX9_score_153 rfl jw_X8_isStrong jn_X8_isStrong rfl (Nat.le_of_ble_eq_true rfl) (Nat.zero_le _) (Nat.zero_le _) rfl kw_1429 kw_1430 kw_1431 (b := 32) (Nat.le_of_ble_eq_true rfl) (Nat.le_of_ble_eq_true rfl) rfl ?_
      refine S_X8_isStrong_32 x4 (h.1) (((h.2.1 c1).2 c2).1) ?_
      show mK Γ M_X9_score (d + 2) Q n0 bc bs 156 [(0, .ref 26), (1, .int x1), (2, .ref 52), (3, .int x3), (4, .int x4), (5, .int x5)] [.int (f_X8_isStrong_32 σ x4)] 60 mSH σ
      refine mK_if_eq (tgt := 174) dX9_score_156 rfl (by decide) (fun c3 => ?_) (fun c3 => ?_)
      · exact (((h.2.1 c1).2 c2).2.1 c3)
      · refine mK_iload_n dX9_score_159 rfl rfl (.tail _ (.tail _ (.tail _ (.head _)))) ?_
        refine mK_aload_n dX9_score_160 rfl rfl (.head _) ?_
        refine ru_getR (k := 11) (ci := 8) (a := 32) dX9_score_161 rfl rfl rfl kw_1138 ?_
        refine ru_getRN (k := 7) (ci := 7) (a := 38) dX9_score_164 rfl rfl rfl kn_1094 ?_
        refine mK_iload dX9_score_167 rfl (.tail _ (.tail _ (.tail _ (.tail _ (.head _))))) ?_
        refine ru_iald (n := 40) dX9_score_169 rfl rfl (h.1) ?_
        refine mK_iconst dX9_score_170 rfl qic_2 ?_
        refine mK_idiv dX9_score_171 rfl (by decide) ?_
        refine mK_iadd dX9_score_172 rfl ?_
        refine ru_istore_n (lv1 := [(0, .ref 26), (1, .int x1), (2, .ref 52), (3, .int (x3 + ((σ.1 38 (x4).toNatClampNeg) / 2))), (4, .int x4), (5, .int x5)]) dX9_score_173 rfl rfl (by decide) rfl ?_
        exact (((h.2.1 c1).2 c2).2.2 c3)
  · refine mK_goto (tgt := 259) dX9_score_139 (by decide) ?_
    exact ru_pick [0, 1, 2, 3, 4] rfl (h.2.2 c1)
set_option maxRecDepth 20000 in
theorem T_X9_score_26_52_174 {Γ : Nat × (Nat → Int32)} {d n0 bc bs : Nat} {Q : mQ} {σ : mS} (x1 : Int32) (x3 : Int32) (x4 : Int32) (x5 : Int32) (h : ((vp_in x4 40) ∧ (((σ.1 36 (x4).toNatClampNeg) = 2 → ((x5 = 0 → mK Γ M_X9_score (d + 2) Q n0 bc bs 199 [(0, .ref 26), (1, .int x1), (2, .ref 52), (3, .int x3), (4, .int x4)] [] 60 mSH σ) ∧ (¬ (x5 = 0) → mK Γ M_X9_score (d + 2) Q n0 bc bs 199 [(0, .ref 26), (1, .int x1), (2, .ref 52), (3, .int (x3 + 1)), (4, .int x4)] [] 60 mSH σ))) ∧ (¬ ((σ.1 36 (x4).toNatClampNeg) = 2) → mK Γ M_X9_score (d + 2) Q n0 bc bs 259 [(0, .ref 26), (1, .int x1), (2, .ref 52), (3, .int x3), (4, .int x4)] [] 60 mSH σ)))) : mK Γ M_X9_score (d + 2) Q n0 bc bs 174 [(0, .ref 26), (1, .int x1), (2, .ref 52), (3, .int x3), (4, .int x4), (5, .int x5)] [] 60 mSH σ := by
  refine mK_aload_n dX9_score_174 rfl rfl (.head _) ?_
  refine ru_getR (k := 11) (ci := 8) (a := 32) dX9_score_175 rfl rfl rfl kw_1138 ?_
  refine ru_getRN (k := 5) (ci := 7) (a := 36) dX9_score_178 rfl rfl rfl kn_1090 ?_
  refine mK_iload dX9_score_181 rfl (.tail _ (.tail _ (.tail _ (.tail _ (.head _))))) ?_
  refine ru_iald (n := 40) dX9_score_183 rfl rfl (h.1) ?_
  refine mK_iconst dX9_score_184 rfl qic_2 ?_
  refine mK_icmp_eq (tgt := 191) dX9_score_185 rfl (by decide) (fun c1 => ?_) (fun c1 => ?_)
  · refine mK_iload dX9_score_191 rfl (.tail _ (.tail _ (.tail _ (.tail _ (.tail _ (.head _)))))) ?_
    refine mK_if_eq (tgt := 199) dX9_score_193 rfl (by decide) (fun c2 => ?_) (fun c2 => ?_)
    · exact ru_pick [0, 1, 2, 3, 4] rfl ((h.2.1 c1).1 c2)
    · refine ru_iinc (lv1 := [(0, .ref 26), (1, .int x1), (2, .ref 52), (3, .int (x3 + 1)), (4, .int x4), (5, .int x5)]) dX9_score_196 rfl (.tail _ (.tail _ (.tail _ (.head _)))) qic_1 (by decide) rfl ?_
      exact ru_pick [0, 1, 2, 3, 4] rfl ((h.2.1 c1).2 c2)
  · refine mK_goto (tgt := 259) dX9_score_188 (by decide) ?_
    exact ru_pick [0, 1, 2, 3, 4] rfl (h.2.2 c1)
set_option maxRecDepth 20000 in
theorem T_X9_score_26_52_259 {Γ : Nat × (Nat → Int32)} {d n0 bc bs : Nat} {Q : mQ} {σ : mS} (x1 : Int32) (x3 : Int32) (x4 : Int32) (h : mK Γ M_X9_score (d + 2) Q n0 bc bs 16 [(0, .ref 26), (1, .int x1), (2, .ref 52), (3, .int x3), (4, .int (x4 + 1))] [] 60 mSH σ) : mK Γ M_X9_score (d + 2) Q n0 bc bs 259 [(0, .ref 26), (1, .int x1), (2, .ref 52), (3, .int x3), (4, .int x4)] [] 60 mSH σ := by
  refine ru_iinc (lv1 := [(0, .ref 26), (1, .int x1), (2, .ref 52), (3, .int x3), (4, .int (x4 + 1))]) dX9_score_259 rfl (.tail _ (.tail _ (.tail _ (.tail _ (.head _))))) qic_1 (by decide) rfl ?_
  refine mK_goto (tgt := 16) dX9_score_262 (by decide) ?_
  exact h
set_option maxRecDepth 20000 in
theorem T_X9_score_26_52_199 {Γ : Nat × (Nat → Int32)} {d n0 bc bs : Nat} {Q : mQ} {σ : mS} (x1 : Int32) (x3 : Int32) (x4 : Int32) (h : ((vp_in x4 40) ∧ ((vp_in (σ.1 40 (x4).toNatClampNeg) 40) ∧ (((σ.1 36 (σ.1 40 (x4).toNatClampNeg).toNatClampNeg) = 0 → (((σ.1 37 (σ.1 40 (x4).toNatClampNeg).toNatClampNeg) = x1 → (((σ.1 52 (σ.1 40 (x4).toNatClampNeg).toNatClampNeg) = 1 → mK Γ M_X9_score (d + 2) Q n0 bc bs 259 [(0, .ref 26), (1, .int x1), (2, .ref 52), (3, .int (x3 + (σ.1 38 (x4).toNatClampNeg))), (4, .int x4)] [] 60 mSH σ) ∧ (¬ ((σ.1 52 (σ.1 40 (x4).toNatClampNeg).toNatClampNeg) = 1) → mK Γ M_X9_score (d + 2) Q n0 bc bs 259 [(0, .ref 26), (1, .int x1), (2, .ref 52), (3, .int x3), (4, .int x4)] [] 60 mSH σ))) ∧ (¬ ((σ.1 37 (σ.1 40 (x4).toNatClampNeg).toNatClampNeg) = x1) → mK Γ M_X9_score (d + 2) Q n0 bc bs 259 [(0, .ref 26), (1, .int x1), (2, .ref 52), (3, .int x3), (4, .int x4)] [] 60 mSH σ))) ∧ (¬ ((σ.1 36 (σ.1 40 (x4).toNatClampNeg).toNatClampNeg) = 0) → mK Γ M_X9_score (d + 2) Q n0 bc bs 259 [(0, .ref 26), (1, .int x1), (2, .ref 52), (3, .int x3), (4, .int x4)] [] 60 mSH σ))))) : mK Γ M_X9_score (d + 2) Q n0 bc bs 199 [(0, .ref 26), (1, .int x1), (2, .ref 52), (3, .int x3), (4, .int x4)] [] 60 mSH σ := by
  refine mK_aload_n dX9_score_199 rfl rfl (.head _) ?_
  refine ru_getR (k := 11) (ci := 8) (a := 32) dX9_score_200 rfl rfl rfl kw_1138 ?_
  refine ru_getRN (k := 9) (ci := 7) (a := 40) dX9_score_203 rfl rfl rfl kn_1098 ?_
  refine mK_iload dX9_score_206 rfl (.tail _ (.tail _ (.tail _ (.tail _ (.head _))))) ?_
  refine ru_iald (n := 40) dX9_score_208 rfl rfl (h.1) ?_
  refine ru_istore (lv1 := [(0, .ref 26), (1, .int x1), (2, .ref 52), (3, .int x3), (4, .int x4), (6, .int (σ.1 40 (x4).toNatClampNeg))]) dX9_score_209 rfl (by decide) rfl ?_
  refine mK_aload_n dX9_score_211 rfl rfl (.head _) ?_
  refine ru_getR (k := 11) (ci := 8) (a := 32) dX9_score_212 rfl rfl rfl kw_1138 ?_
  refine ru_getRN (k := 5) (ci := 7) (a := 36) dX9_score_215 rfl rfl rfl kn_1090 ?_
  refine mK_iload dX9_score_218 rfl (.tail _ (.tail _ (.tail _ (.tail _ (.tail _ (.head _)))))) ?_
  refine ru_iald (n := 40) dX9_score_220 rfl rfl (h.2.1) ?_
  refine ru_if_ne (tgt := 259) dX9_score_221 rfl (by decide) (fun c1 => ?_) (fun c1 => ?_)
  · exact ru_pick [0, 1, 2, 3, 4] rfl (h.2.2.2 c1)
  · refine mK_aload_n dX9_score_224 rfl rfl (.head _) ?_
    refine ru_getR (k := 11) (ci := 8) (a := 32) dX9_score_225 rfl rfl rfl kw_1138 ?_
    refine ru_getRN (k := 6) (ci := 7) (a := 37) dX9_score_228 rfl rfl rfl kn_1092 ?_
    refine mK_iload dX9_score_231 rfl (.tail _ (.tail _ (.tail _ (.tail _ (.tail _ (.head _)))))) ?_
    refine ru_iald (n := 40) dX9_score_233 rfl rfl (h.2.1) ?_
    refine mK_iload_n dX9_score_234 rfl rfl (.tail _ (.head _)) ?_
    refine ru_icmp_ne (tgt := 259) dX9_score_235 rfl (by decide) (fun c2 => ?_) (fun c2 => ?_)
    · exact ru_pick [0, 1, 2, 3, 4] rfl ((h.2.2.1 c1).2 c2)
    · refine mK_aload_n dX9_score_238 rfl rfl (.tail _ (.tail _ (.head _))) ?_
      refine mK_iload dX9_score_239 rfl (.tail _ (.tail _ (.tail _ (.tail _ (.tail _ (.head _)))))) ?_
      refine ru_iald (n := 40) dX9_score_241 rfl rfl (h.2.1) ?_
      refine mK_iconst dX9_score_242 rfl qic_1 ?_
      refine ru_icmp_ne (tgt := 259) dX9_score_243 rfl (by decide) (fun c3 => ?_) (fun c3 => ?_)
      · exact ru_pick [0, 1, 2, 3, 4] rfl (((h.2.2.1 c1).1 c2).2 c3)
      · refine mK_iload_n dX9_score_246 rfl rfl (.tail _ (.tail _ (.tail _ (.head _)))) ?_
        refine mK_aload_n dX9_score_247 rfl rfl (.head _) ?_
        refine ru_getR (k := 11) (ci := 8) (a := 32) dX9_score_248 rfl rfl rfl kw_1138 ?_
        refine ru_getRN (k := 7) (ci := 7) (a := 38) dX9_score_251 rfl rfl rfl kn_1094 ?_
        refine mK_iload dX9_score_254 rfl (.tail _ (.tail _ (.tail _ (.tail _ (.head _))))) ?_
        refine ru_iald (n := 40) dX9_score_256 rfl rfl (h.1) ?_
        refine mK_iadd dX9_score_257 rfl ?_
        refine ru_istore_n (lv1 := [(0, .ref 26), (1, .int x1), (2, .ref 52), (3, .int (x3 + (σ.1 38 (x4).toNatClampNeg))), (4, .int x4), (6, .int (σ.1 40 (x4).toNatClampNeg))]) dX9_score_258 rfl rfl (by decide) rfl ?_
        exact ru_pick [0, 1, 2, 3, 4] rfl (((h.2.2.1 c1).1 c2).1 c3)
set_option maxRecDepth 20000 in
theorem E_X9_score_26_54 {Γ : Nat × (Nat → Int32)} {d : Nat} {Q : mQ} {σ : mS} (a1 : Int32) (h : ((vp_in a1 6) ∧ mK Γ M_X9_score (d + 2) Q 60 0 0 16 [(0, .ref 26), (1, .int a1), (2, .ref 54), (3, .int ((σ.1 34 (a1).toNatClampNeg) / 60)), (4, .int 0)] [] 60 mSH σ)) : mCall Γ M_X9_score (d + 2) 0 0 [.ref 26, .int a1, .ref 54] 60 mSH σ Q := by
  refine mCall_of rfl (by decide) (Nat.le_of_ble_eq_true rfl) (mOkC (mOk_lo (Nat.le_of_ble_eq_true rfl)) (mOkC mOk_i (mOkC (mOk_lo (Nat.le_of_ble_eq_true rfl)) mOkN))) ?_
  show mK Γ M_X9_score (d + 2) Q 60 0 0 0 [(0, .ref 26), (1, .int a1), (2, .ref 54)] [] 60 mSH σ
  refine mK_aload_n dX9_score_0 rfl rfl (.head _) ?_
  refine ru_getR (k := 11) (ci := 8) (a := 32) dX9_score_1 rfl rfl rfl kw_1138 ?_
  refine ru_getRN (k := 2) (ci := 7) (a := 34) dX9_score_4 rfl rfl rfl kn_1084 ?_
  refine mK_iload_n dX9_score_7 rfl rfl (.tail _ (.head _)) ?_
  refine ru_iald (n := 6) dX9_score_8 rfl rfl (h.1) ?_
  refine mK_bipush dX9_score_9 rfl qbi_60 ?_
  refine mK_idiv dX9_score_11 rfl (by decide) ?_
  refine ru_istore_n (lv1 := [(0, .ref 26), (1, .int a1), (2, .ref 54), (3, .int ((σ.1 34 (a1).toNatClampNeg) / 60))]) dX9_score_12 rfl rfl (by decide) rfl ?_
  refine mK_iconst dX9_score_13 rfl qic_0 ?_
  refine ru_istore (lv1 := [(0, .ref 26), (1, .int a1), (2, .ref 54), (3, .int ((σ.1 34 (a1).toNatClampNeg) / 60)), (4, .int 0)]) dX9_score_14 rfl (by decide) rfl ?_
  exact h.2
set_option maxRecDepth 20000 in
theorem T_X9_score_26_54_16 {Γ : Nat × (Nat → Int32)} {d n0 bc bs : Nat} {Q : mQ} {σ : mS} (x1 : Int32) (x3 : Int32) (x4 : Int32) (h : (((σ.1 32 3) ≤ x4 → Q (.inl (some (.int x3))) 60 mSH σ) ∧ (¬ ((σ.1 32 3) ≤ x4) → ((vp_in x4 40) ∧ (((σ.1 37 (x4).toNatClampNeg) = x1 → (((f_X9_isConceded_26 σ x4) = 0 → mK Γ M_X9_score (d + 2) Q n0 bc bs 66 [(0, .ref 26), (1, .int x1), (2, .ref 54), (3, .int x3), (4, .int x4), (5, .int 1)] [] 60 mSH σ) ∧ (¬ ((f_X9_isConceded_26 σ x4) = 0) → mK Γ M_X9_score (d + 2) Q n0 bc bs 66 [(0, .ref 26), (1, .int x1), (2, .ref 54), (3, .int (x3 + (-1))), (4, .int x4), (5, .int 1)] [] 60 mSH σ))) ∧ (¬ ((σ.1 37 (x4).toNatClampNeg) = x1) → mK Γ M_X9_score (d + 2) Q n0 bc bs 66 [(0, .ref 26), (1, .int x1), (2, .ref 54), (3, .int x3), (4, .int x4), (5, .int 0)] [] 60 mSH σ)))))) : mK Γ M_X9_score (d + 2) Q n0 bc bs 16 [(0, .ref 26), (1, .int x1), (2, .ref 54), (3, .int x3), (4, .int x4)] [] 60 mSH σ := by
  refine mK_iload dX9_score_16 rfl (.tail _ (.tail _ (.tail _ (.tail _ (.head _))))) ?_
  refine mK_aload_n dX9_score_18 rfl rfl (.head _) ?_
  refine ru_getR (k := 11) (ci := 8) (a := 32) dX9_score_19 rfl rfl rfl kw_1138 ?_
  refine ru_getIN (k := 3) (ci := 7) dX9_score_22 rfl rfl kn_1086 ?_
  refine mK_icmp_ge (tgt := 265) dX9_score_25 rfl (by decide) (fun c1 => ?_) (fun c1 => ?_)
  · refine mK_iload_n dX9_score_265 rfl rfl (.tail _ (.tail _ (.tail _ (.head _)))) ?_
    exact mK_iret dX9_score_266 rfl (h.1 c1)
  · refine mK_aload_n dX9_score_28 rfl rfl (.head _) ?_
    refine ru_getR (k := 11) (ci := 8) (a := 32) dX9_score_29 rfl rfl rfl kw_1138 ?_
    refine ru_getRN (k := 6) (ci := 7) (a := 37) dX9_score_32 rfl rfl rfl kn_1092 ?_
    refine mK_iload dX9_score_35 rfl (.tail _ (.tail _ (.tail _ (.tail _ (.head _))))) ?_
    refine ru_iald (n := 40) dX9_score_37 rfl rfl ((h.2 c1).1) ?_
    refine mK_iload_n dX9_score_38 rfl rfl (.tail _ (.head _)) ?_
    refine ru_icmp_ne (tgt := 46) dX9_score_39 rfl (by decide) (fun c2 => ?_) (fun c2 => ?_)
    · refine mK_iconst dX9_score_46 rfl qic_0 ?_
      refine ru_istore (lv1 := [(0, .ref 26), (1, .int x1), (2, .ref 54), (3, .int x3), (4, .int x4), (5, .int 0)]) dX9_score_47 rfl (by decide) rfl ?_
      refine mK_iload dX9_score_49 rfl (.tail _ (.tail _ (.tail _ (.tail _ (.tail _ (.head _)))))) ?_
      refine mK_if_eq (tgt := 66) dX9_score_51 rfl (by decide) (fun c3 => ?_) (fun c3 => ?_)
      · exact ((h.2 c1).2.2 c2)
      · exact absurd (by decide) c3
    · refine mK_iconst dX9_score_42 rfl qic_1 ?_
      refine mK_goto (tgt := 47) dX9_score_43 (by decide) ?_
      refine ru_istore (lv1 := [(0, .ref 26), (1, .int x1), (2, .ref 54), (3, .int x3), (4, .int x4), (5, .int 1)]) dX9_score_47 rfl (by decide) rfl ?_
      refine mK_iload dX9_score_49 rfl (.tail _ (.tail _ (.tail _ (.tail _ (.tail _ (.head _)))))) ?_
      refine mK_if_eq (tgt := 66) dX9_score_51 rfl (by decide) (fun c4 => ?_) (fun c4 => ?_)
      · exact absurd c4 (by decide)
      · refine mK_aload_n dX9_score_54 rfl rfl (.head _) ?_
        refine mK_iload dX9_score_55 rfl (.tail _ (.tail _ (.tail _ (.tail _ (.head _))))) ?_
        refine mK_invV (J := M_X9_isConceded) (k := 1) (as := [.int x4]) (st := []) (c1 := 0) (s1 := 0) dX9_score_57 rfl jw_X9_isConceded jn_X9_isConceded rfl (Nat.le_of_ble_eq_true rfl) (Nat.zero_le _) (Nat.zero_le _) rfl kw_1437 kw_1439 kw_65 (b := 26) (Nat.le_of_ble_eq_true rfl) (Nat.le_of_ble_eq_true rfl) rfl ?_
        refine S_X9_isConceded_26 x4 ((h.2 c1).1) ?_
        show mK Γ M_X9_score (d + 2) Q n0 bc bs 60 [(0, .ref 26), (1, .int x1), (2, .ref 54), (3, .int x3), (4, .int x4), (5, .int 1)] [.int (f_X9_isConceded_26 σ x4)] 60 mSH σ
        refine mK_if_eq (tgt := 66) dX9_score_60 rfl (by decide) (fun c5 => ?_) (fun c5 => ?_)
        · exact (((h.2 c1).2.1 c2).1 c5)
        · refine ru_iinc (lv1 := [(0, .ref 26), (1, .int x1), (2, .ref 54), (3, .int (x3 + (-1))), (4, .int x4), (5, .int 1)]) dX9_score_63 rfl (.tail _ (.tail _ (.tail _ (.head _)))) qic_m1 (by decide) rfl ?_
          exact (((h.2 c1).2.1 c2).2 c5)
set_option maxRecDepth 20000 in
theorem T_X9_score_26_54_66 {Γ : Nat × (Nat → Int32)} {d n0 bc bs : Nat} {Q : mQ} {σ : mS} (x1 : Int32) (x3 : Int32) (x4 : Int32) (x5 : Int32) (h : ((x5 = 0 → mK Γ M_X9_score (d + 2) Q n0 bc bs 131 [(0, .ref 26), (1, .int x1), (2, .ref 54), (3, .int x3), (4, .int x4), (5, .int x5)] [] 60 mSH σ) ∧ (¬ (x5 = 0) → ((vp_in x4 40) ∧ (((σ.1 36 (x4).toNatClampNeg) = 0 → (((σ.1 54 (x4).toNatClampNeg) = 1 → mK Γ M_X9_score (d + 2) Q n0 bc bs 131 [(0, .ref 26), (1, .int x1), (2, .ref 54), (3, .int (x3 + (σ.1 38 (x4).toNatClampNeg))), (4, .int x4), (5, .int x5)] [] 60 mSH σ) ∧ (¬ ((σ.1 54 (x4).toNatClampNeg) = 1) → (((σ.1 54 (x4).toNatClampNeg) = 0 → mK Γ M_X9_score (d + 2) Q n0 bc bs 131 [(0, .ref 26), (1, .int x1), (2, .ref 54), (3, .int (x3 + ((σ.1 38 (x4).toNatClampNeg) / 2))), (4, .int x4), (5, .int x5)] [] 60 mSH σ) ∧ (¬ ((σ.1 54 (x4).toNatClampNeg) = 0) → mK Γ M_X9_score (d + 2) Q n0 bc bs 131 [(0, .ref 26), (1, .int x1), (2, .ref 54), (3, .int (x3 + 0)), (4, .int x4), (5, .int x5)] [] 60 mSH σ))))) ∧ (¬ ((σ.1 36 (x4).toNatClampNeg) = 0) → mK Γ M_X9_score (d + 2) Q n0 bc bs 131 [(0, .ref 26), (1, .int x1), (2, .ref 54), (3, .int x3), (4, .int x4), (5, .int x5)] [] 60 mSH σ)))))) : mK Γ M_X9_score (d + 2) Q n0 bc bs 66 [(0, .ref 26), (1, .int x1), (2, .ref 54), (3, .int x3), (4, .int x4), (5, .int x5)] [] 60 mSH σ := by
  refine mK_iload dX9_score_66 rfl (.tail _ (.tail _ (.tail _ (.tail _ (.tail _ (.head _)))))) ?_
  refine mK_if_eq (tgt := 131) dX9_score_68 rfl (by decide) (fun c1 => ?_) (fun c1 => ?_)
  · exact (h.1 c1)
  · refine mK_aload_n dX9_score_71 rfl rfl (.head _) ?_
    refine ru_getR (k := 11) (ci := 8) (a := 32) dX9_score_72 rfl rfl rfl kw_1138 ?_
    refine ru_getRN (k := 5) (ci := 7) (a := 36) dX9_score_75 rfl rfl rfl kn_1090 ?_
    refine mK_iload dX9_score_78 rfl (.tail _ (.tail _ (.tail _ (.tail _ (.head _))))) ?_
    refine ru_iald (n := 40) dX9_score_80 rfl rfl ((h.2 c1).1) ?_
    refine ru_if_ne (tgt := 131) dX9_score_81 rfl (by decide) (fun c2 => ?_) (fun c2 => ?_)
    · exact ((h.2 c1).2.2 c2)
    · refine mK_iload_n dX9_score_84 rfl rfl (.tail _ (.tail _ (.tail _ (.head _)))) ?_
      refine mK_aload_n dX9_score_85 rfl rfl (.tail _ (.tail _ (.head _))) ?_
      refine mK_iload dX9_score_86 rfl (.tail _ (.tail _ (.tail _ (.tail _ (.head _))))) ?_
      refine ru_iald (n := 40) dX9_score_88 rfl rfl ((h.2 c1).1) ?_
      refine mK_iconst dX9_score_89 rfl qic_1 ?_
      refine ru_icmp_ne (tgt := 106) dX9_score_90 rfl (by decide) (fun c3 => ?_) (fun c3 => ?_)
      · refine mK_aload_n dX9_score_106 rfl rfl (.tail _ (.tail _ (.head _))) ?_
        refine mK_iload dX9_score_107 rfl (.tail _ (.tail _ (.tail _ (.tail _ (.head _))))) ?_
        refine ru_iald (n := 40) dX9_score_109 rfl rfl ((h.2 c1).1) ?_
        refine ru_if_ne (tgt := 128) dX9_score_110 rfl (by decide) (fun c4 => ?_) (fun c4 => ?_)
        · refine mK_iconst dX9_score_128 rfl qic_0 ?_
          refine mK_iadd dX9_score_129 rfl ?_
          refine ru_istore_n (lv1 := [(0, .ref 26), (1, .int x1), (2, .ref 54), (3, .int (x3 + 0)), (4, .int x4), (5, .int x5)]) dX9_score_130 rfl rfl (by decide) rfl ?_
          exact ((((h.2 c1).2.1 c2).2 c3).2 c4)
        · refine mK_aload_n dX9_score_113 rfl rfl (.head _) ?_
          refine ru_getR (k := 11) (ci := 8) (a := 32) dX9_score_114 rfl rfl rfl kw_1138 ?_
          refine ru_getRN (k := 7) (ci := 7) (a := 38) dX9_score_117 rfl rfl rfl kn_1094 ?_
          refine mK_iload dX9_score_120 rfl (.tail _ (.tail _ (.tail _ (.tail _ (.head _))))) ?_
          refine ru_iald (n := 40) dX9_score_122 rfl rfl ((h.2 c1).1) ?_
          refine mK_iconst dX9_score_123 rfl qic_2 ?_
          refine mK_idiv dX9_score_124 rfl (by decide) ?_
          refine mK_goto (tgt := 129) dX9_score_125 (by decide) ?_
          refine mK_iadd dX9_score_129 rfl ?_
          refine ru_istore_n (lv1 := [(0, .ref 26), (1, .int x1), (2, .ref 54), (3, .int (x3 + ((σ.1 38 (x4).toNatClampNeg) / 2))), (4, .int x4), (5, .int x5)]) dX9_score_130 rfl rfl (by decide) rfl ?_
          exact ((((h.2 c1).2.1 c2).2 c3).1 c4)
      · refine mK_aload_n dX9_score_93 rfl rfl (.head _) ?_
        refine ru_getR (k := 11) (ci := 8) (a := 32) dX9_score_94 rfl rfl rfl kw_1138 ?_
        refine ru_getRN (k := 7) (ci := 7) (a := 38) dX9_score_97 rfl rfl rfl kn_1094 ?_
        refine mK_iload dX9_score_100 rfl (.tail _ (.tail _ (.tail _ (.tail _ (.head _))))) ?_
        refine ru_iald (n := 40) dX9_score_102 rfl rfl ((h.2 c1).1) ?_
        refine mK_goto (tgt := 129) dX9_score_103 (by decide) ?_
        refine mK_iadd dX9_score_129 rfl ?_
        refine ru_istore_n (lv1 := [(0, .ref 26), (1, .int x1), (2, .ref 54), (3, .int (x3 + (σ.1 38 (x4).toNatClampNeg))), (4, .int x4), (5, .int x5)]) dX9_score_130 rfl rfl (by decide) rfl ?_
        exact (((h.2 c1).2.1 c2).1 c3)
set_option maxRecDepth 20000 in
theorem T_X9_score_26_54_131 {Γ : Nat × (Nat → Int32)} {d n0 bc bs : Nat} {Q : mQ} {σ : mS} (x1 : Int32) (x3 : Int32) (x4 : Int32) (x5 : Int32) (h : ((vp_in x4 40) ∧ (((σ.1 54 (x4).toNatClampNeg) = 1 → ((x5 = 0 → mK Γ M_X9_score (d + 2) Q n0 bc bs 174 [(0, .ref 26), (1, .int x1), (2, .ref 54), (3, .int x3), (4, .int x4), (5, .int x5)] [] 60 mSH σ) ∧ (¬ (x5 = 0) → ((((σ.1 36 (x4).toNatClampNeg) = 1) → vp_in (σ.1 40 (x4).toNatClampNeg) 40) ∧ (((f_X8_isStrong_32 σ x4) = 0 → mK Γ M_X9_score (d + 2) Q n0 bc bs 174 [(0, .ref 26), (1, .int x1), (2, .ref 54), (3, .int x3), (4, .int x4), (5, .int x5)] [] 60 mSH σ) ∧ (¬ ((f_X8_isStrong_32 σ x4) = 0) → mK Γ M_X9_score (d + 2) Q n0 bc bs 174 [(0, .ref 26), (1, .int x1), (2, .ref 54), (3, .int (x3 + ((σ.1 38 (x4).toNatClampNeg) / 2))), (4, .int x4), (5, .int x5)] [] 60 mSH σ)))))) ∧ (¬ ((σ.1 54 (x4).toNatClampNeg) = 1) → mK Γ M_X9_score (d + 2) Q n0 bc bs 259 [(0, .ref 26), (1, .int x1), (2, .ref 54), (3, .int x3), (4, .int x4)] [] 60 mSH σ)))) : mK Γ M_X9_score (d + 2) Q n0 bc bs 131 [(0, .ref 26), (1, .int x1), (2, .ref 54), (3, .int x3), (4, .int x4), (5, .int x5)] [] 60 mSH σ := by
  refine mK_aload_n dX9_score_131 rfl rfl (.tail _ (.tail _ (.head _))) ?_
  refine mK_iload dX9_score_132 rfl (.tail _ (.tail _ (.tail _ (.tail _ (.head _))))) ?_
  refine ru_iald (n := 40) dX9_score_134 rfl rfl (h.1) ?_
  refine mK_iconst dX9_score_135 rfl qic_1 ?_
  refine mK_icmp_eq (tgt := 142) dX9_score_136 rfl (by decide) (fun c1 => ?_) (fun c1 => ?_)
  · refine mK_iload dX9_score_142 rfl (.tail _ (.tail _ (.tail _ (.tail _ (.tail _ (.head _)))))) ?_
    refine mK_if_eq (tgt := 174) dX9_score_144 rfl (by decide) (fun c2 => ?_) (fun c2 => ?_)
    · exact ((h.2.1 c1).1 c2)
    · refine mK_aload_n dX9_score_147 rfl rfl (.head _) ?_
      refine ru_getR (k := 11) (ci := 8) (a := 32) dX9_score_148 rfl rfl rfl kw_1138 ?_
      refine mK_iload dX9_score_151 rfl (.tail _ (.tail _ (.tail _ (.tail _ (.head _))))) ?_
      refine mK_invV (J := M_X8_isStrong) (k := 1) (as := [.int x4]) (st := []) (c1 := 0) (s1 := 0) dX9_score_153 rfl jw_X8_isStrong jn_X8_isStrong rfl (Nat.le_of_ble_eq_true rfl) (Nat.zero_le _) (Nat.zero_le _) rfl kw_1429 kw_1430 kw_1431 (b := 32) (Nat.le_of_ble_eq_true rfl) (Nat.le_of_ble_eq_true rfl) rfl ?_
      refine S_X8_isStrong_32 x4 (h.1) (((h.2.1 c1).2 c2).1) ?_
      show mK Γ M_X9_score (d + 2) Q n0 bc bs 156 [(0, .ref 26), (1, .int x1), (2, .ref 54), (3, .int x3), (4, .int x4), (5, .int x5)] [.int (f_X8_isStrong_32 σ x4)] 60 mSH σ
      refine mK_if_eq (tgt := 174) dX9_score_156 rfl (by decide) (fun c3 => ?_) (fun c3 => ?_)
      · exact (((h.2.1 c1).2 c2).2.1 c3)
      · refine mK_iload_n dX9_score_159 rfl rfl (.tail _ (.tail _ (.tail _ (.head _)))) ?_
        refine mK_aload_n dX9_score_160 rfl rfl (.head _) ?_
        refine ru_getR (k := 11) (ci := 8) (a := 32) dX9_score_161 rfl rfl rfl kw_1138 ?_
        refine ru_getRN (k := 7) (ci := 7) (a := 38) dX9_score_164 rfl rfl rfl kn_1094 ?_
        refine mK_iload dX9_score_167 rfl (.tail _ (.tail _ (.tail _ (.tail _ (.head _))))) ?_
        refine ru_iald (n := 40) dX9_score_169 rfl rfl (h.1) ?_
        refine mK_iconst dX9_score_170 rfl qic_2 ?_
        refine mK_idiv dX9_score_171 rfl (by decide) ?_
        refine mK_iadd dX9_score_172 rfl ?_
        refine ru_istore_n (lv1 := [(0, .ref 26), (1, .int x1), (2, .ref 54), (3, .int (x3 + ((σ.1 38 (x4).toNatClampNeg) / 2))), (4, .int x4), (5, .int x5)]) dX9_score_173 rfl rfl (by decide) rfl ?_
        exact (((h.2.1 c1).2 c2).2.2 c3)
  · refine mK_goto (tgt := 259) dX9_score_139 (by decide) ?_
    exact ru_pick [0, 1, 2, 3, 4] rfl (h.2.2 c1)
set_option maxRecDepth 20000 in
theorem T_X9_score_26_54_174 {Γ : Nat × (Nat → Int32)} {d n0 bc bs : Nat} {Q : mQ} {σ : mS} (x1 : Int32) (x3 : Int32) (x4 : Int32) (x5 : Int32) (h : ((vp_in x4 40) ∧ (((σ.1 36 (x4).toNatClampNeg) = 2 → ((x5 = 0 → mK Γ M_X9_score (d + 2) Q n0 bc bs 199 [(0, .ref 26), (1, .int x1), (2, .ref 54), (3, .int x3), (4, .int x4)] [] 60 mSH σ) ∧ (¬ (x5 = 0) → mK Γ M_X9_score (d + 2) Q n0 bc bs 199 [(0, .ref 26), (1, .int x1), (2, .ref 54), (3, .int (x3 + 1)), (4, .int x4)] [] 60 mSH σ))) ∧ (¬ ((σ.1 36 (x4).toNatClampNeg) = 2) → mK Γ M_X9_score (d + 2) Q n0 bc bs 259 [(0, .ref 26), (1, .int x1), (2, .ref 54), (3, .int x3), (4, .int x4)] [] 60 mSH σ)))) : mK Γ M_X9_score (d + 2) Q n0 bc bs 174 [(0, .ref 26), (1, .int x1), (2, .ref 54), (3, .int x3), (4, .int x4), (5, .int x5)] [] 60 mSH σ := by
  refine mK_aload_n dX9_score_174 rfl rfl (.head _) ?_
  refine ru_getR (k := 11) (ci := 8) (a := 32) dX9_score_175 rfl rfl rfl kw_1138 ?_
  refine ru_getRN (k := 5) (ci := 7) (a := 36) dX9_score_178 rfl rfl rfl kn_1090 ?_
  refine mK_iload dX9_score_181 rfl (.tail _ (.tail _ (.tail _ (.tail _ (.head _))))) ?_
  refine ru_iald (n := 40) dX9_score_183 rfl rfl (h.1) ?_
  refine mK_iconst dX9_score_184 rfl qic_2 ?_
  refine mK_icmp_eq (tgt := 191) dX9_score_185 rfl (by decide) (fun c1 => ?_) (fun c1 => ?_)
  · refine mK_iload dX9_score_191 rfl (.tail _ (.tail _ (.tail _ (.tail _ (.tail _ (.head _)))))) ?_
    refine mK_if_eq (tgt := 199) dX9_score_193 rfl (by decide) (fun c2 => ?_) (fun c2 => ?_)
    · exact ru_pick [0, 1, 2, 3, 4] rfl ((h.2.1 c1).1 c2)
    · refine ru_iinc (lv1 := [(0, .ref 26), (1, .int x1), (2, .ref 54), (3, .int (x3 + 1)), (4, .int x4), (5, .int x5)]) dX9_score_196 rfl (.tail _ (.tail _ (.tail _ (.head _)))) qic_1 (by decide) rfl ?_
      exact ru_pick [0, 1, 2, 3, 4] rfl ((h.2.1 c1).2 c2)
  · refine mK_goto (tgt := 259) dX9_score_188 (by decide) ?_
    exact ru_pick [0, 1, 2, 3, 4] rfl (h.2.2 c1)
set_option maxRecDepth 20000 in
theorem T_X9_score_26_54_259 {Γ : Nat × (Nat → Int32)} {d n0 bc bs : Nat} {Q : mQ} {σ : mS} (x1 : Int32) (x3 : Int32) (x4 : Int32) (h : mK Γ M_X9_score (d + 2) Q n0 bc bs 16 [(0, .ref 26), (1, .int x1), (2, .ref 54), (3, .int x3), (4, .int (x4 + 1))] [] 60 mSH σ) : mK Γ M_X9_score (d + 2) Q n0 bc bs 259 [(0, .ref 26), (1, .int x1), (2, .ref 54), (3, .int x3), (4, .int x4)] [] 60 mSH σ := by
  refine ru_iinc (lv1 := [(0, .ref 26), (1, .int x1), (2, .ref 54), (3, .int x3), (4, .int (x4 + 1))]) dX9_score_259 rfl (.tail _ (.tail _ (.tail _ (.tail _ (.head _))))) qic_1 (by decide) rfl ?_
  refine mK_goto (tgt := 16) dX9_score_262 (by decide) ?_
  exact h
set_option maxRecDepth 20000 in
theorem T_X9_score_26_54_199 {Γ : Nat × (Nat → Int32)} {d n0 bc bs : Nat} {Q : mQ} {σ : mS} (x1 : Int32) (x3 : Int32) (x4 : Int32) (h : ((vp_in x4 40) ∧ ((vp_in (σ.1 40 (x4).toNatClampNeg) 40) ∧ (((σ.1 36 (σ.1 40 (x4).toNatClampNeg).toNatClampNeg) = 0 → (((σ.1 37 (σ.1 40 (x4).toNatClampNeg).toNatClampNeg) = x1 → (((σ.1 54 (σ.1 40 (x4).toNatClampNeg).toNatClampNeg) = 1 → mK Γ M_X9_score (d + 2) Q n0 bc bs 259 [(0, .ref 26), (1, .int x1), (2, .ref 54), (3, .int (x3 + (σ.1 38 (x4).toNatClampNeg))), (4, .int x4)] [] 60 mSH σ) ∧ (¬ ((σ.1 54 (σ.1 40 (x4).toNatClampNeg).toNatClampNeg) = 1) → mK Γ M_X9_score (d + 2) Q n0 bc bs 259 [(0, .ref 26), (1, .int x1), (2, .ref 54), (3, .int x3), (4, .int x4)] [] 60 mSH σ))) ∧ (¬ ((σ.1 37 (σ.1 40 (x4).toNatClampNeg).toNatClampNeg) = x1) → mK Γ M_X9_score (d + 2) Q n0 bc bs 259 [(0, .ref 26), (1, .int x1), (2, .ref 54), (3, .int x3), (4, .int x4)] [] 60 mSH σ))) ∧ (¬ ((σ.1 36 (σ.1 40 (x4).toNatClampNeg).toNatClampNeg) = 0) → mK Γ M_X9_score (d + 2) Q n0 bc bs 259 [(0, .ref 26), (1, .int x1), (2, .ref 54), (3, .int x3), (4, .int x4)] [] 60 mSH σ))))) : mK Γ M_X9_score (d + 2) Q n0 bc bs 199 [(0, .ref 26), (1, .int x1), (2, .ref 54), (3, .int x3), (4, .int x4)] [] 60 mSH σ := by
  refine mK_aload_n dX9_score_199 rfl rfl (.head _) ?_
  refine ru_getR (k := 11) (ci := 8) (a := 32) dX9_score_200 rfl rfl rfl kw_1138 ?_
  refine ru_getRN (k := 9) (ci := 7) (a := 40) dX9_score_203 rfl rfl rfl kn_1098 ?_
  refine mK_iload dX9_score_206 rfl (.tail _ (.tail _ (.tail _ (.tail _ (.head _))))) ?_
  refine ru_iald (n := 40) dX9_score_208 rfl rfl (h.1) ?_
  refine ru_istore (lv1 := [(0, .ref 26), (1, .int x1), (2, .ref 54), (3, .int x3), (4, .int x4), (6, .int (σ.1 40 (x4).toNatClampNeg))]) dX9_score_209 rfl (by decide) rfl ?_
  refine mK_aload_n dX9_score_211 rfl rfl (.head _) ?_
  refine ru_getR (k := 11) (ci := 8) (a := 32) dX9_score_212 rfl rfl rfl kw_1138 ?_
  refine ru_getRN (k := 5) (ci := 7) (a := 36) dX9_score_215 rfl rfl rfl kn_1090 ?_
  refine mK_iload dX9_score_218 rfl (.tail _ (.tail _ (.tail _ (.tail _ (.tail _ (.head _)))))) ?_
  refine ru_iald (n := 40) dX9_score_220 rfl rfl (h.2.1) ?_
  refine ru_if_ne (tgt := 259) dX9_score_221 rfl (by decide) (fun c1 => ?_) (fun c1 => ?_)
  · exact ru_pick [0, 1, 2, 3, 4] rfl (h.2.2.2 c1)
  · refine mK_aload_n dX9_score_224 rfl rfl (.head _) ?_
    refine ru_getR (k := 11) (ci := 8) (a := 32) dX9_score_225 rfl rfl rfl kw_1138 ?_
    refine ru_getRN (k := 6) (ci := 7) (a := 37) dX9_score_228 rfl rfl rfl kn_1092 ?_
    refine mK_iload dX9_score_231 rfl (.tail _ (.tail _ (.tail _ (.tail _ (.tail _ (.head _)))))) ?_
    refine ru_iald (n := 40) dX9_score_233 rfl rfl (h.2.1) ?_
    refine mK_iload_n dX9_score_234 rfl rfl (.tail _ (.head _)) ?_
    refine ru_icmp_ne (tgt := 259) dX9_score_235 rfl (by decide) (fun c2 => ?_) (fun c2 => ?_)
    · exact ru_pick [0, 1, 2, 3, 4] rfl ((h.2.2.1 c1).2 c2)
    · refine mK_aload_n dX9_score_238 rfl rfl (.tail _ (.tail _ (.head _))) ?_
      refine mK_iload dX9_score_239 rfl (.tail _ (.tail _ (.tail _ (.tail _ (.tail _ (.head _)))))) ?_
      refine ru_iald (n := 40) dX9_score_241 rfl rfl (h.2.1) ?_
      refine mK_iconst dX9_score_242 rfl qic_1 ?_
      refine ru_icmp_ne (tgt := 259) dX9_score_243 rfl (by decide) (fun c3 => ?_) (fun c3 => ?_)
      · exact ru_pick [0, 1, 2, 3, 4] rfl (((h.2.2.1 c1).1 c2).2 c3)
      · refine mK_iload_n dX9_score_246 rfl rfl (.tail _ (.tail _ (.tail _ (.head _)))) ?_
        refine mK_aload_n dX9_score_247 rfl rfl (.head _) ?_
        refine ru_getR (k := 11) (ci := 8) (a := 32) dX9_score_248 rfl rfl rfl kw_1138 ?_
        refine ru_getRN (k := 7) (ci := 7) (a := 38) dX9_score_251 rfl rfl rfl kn_1094 ?_
        refine mK_iload dX9_score_254 rfl (.tail _ (.tail _ (.tail _ (.tail _ (.head _))))) ?_
        refine ru_iald (n := 40) dX9_score_256 rfl rfl (h.1) ?_
        refine mK_iadd dX9_score_257 rfl ?_
        refine ru_istore_n (lv1 := [(0, .ref 26), (1, .int x1), (2, .ref 54), (3, .int (x3 + (σ.1 38 (x4).toNatClampNeg))), (4, .int x4), (6, .int (σ.1 40 (x4).toNatClampNeg))]) dX9_score_258 rfl rfl (by decide) rfl ?_
        exact ru_pick [0, 1, 2, 3, 4] rfl (((h.2.2.1 c1).1 c2).1 c3)
