set_option maxRecDepth 20000 in
theorem E_X9_finds_26_52 {Γ : Nat × (Nat → Int32)} {d : Nat} {Q : mQ} {σ : mS} (a1 : Int32) (h : ((vp_in a1 40) ∧ (((f_X9_isConceded_26 σ a1) = 0 → ((a1 = (σ.1 26 20) → Q (.inl (some (.int 2))) 60 mSH σ) ∧ (¬ (a1 = (σ.1 26 20)) → (((σ.1 39 (a1).toNatClampNeg) = (-1) → mK Γ M_X9_finds (d + 2) Q 60 0 0 51 [(0, .ref 26), (2, .ref 52), (3, .int (σ.1 39 (a1).toNatClampNeg)), (4, .int 1), (5, .int (σ.1 56 (a1).toNatClampNeg))] [] 60 mSH σ) ∧ (¬ ((σ.1 39 (a1).toNatClampNeg) = (-1)) → ((vp_in (σ.1 39 (a1).toNatClampNeg) 40) ∧ (((σ.1 52 (σ.1 39 (a1).toNatClampNeg).toNatClampNeg) = 2 → Q (.inl (some (.int 2))) 60 mSH σ) ∧ (¬ ((σ.1 52 (σ.1 39 (a1).toNatClampNeg).toNatClampNeg) = 2) → mK Γ M_X9_finds (d + 2) Q 60 0 0 51 [(0, .ref 26), (2, .ref 52), (3, .int (σ.1 39 (a1).toNatClampNeg)), (4, .int 1), (5, .int (σ.1 56 (a1).toNatClampNeg))] [] 60 mSH σ)))))))) ∧ (¬ ((f_X9_isConceded_26 σ a1) = 0) → Q (.inl (some (.int 2))) 60 mSH σ)))) : mCall Γ M_X9_finds (d + 2) 0 0 [.ref 26, .int a1, .ref 52] 60 mSH σ Q := by
  refine mCall_of rfl (by decide) (Nat.le_of_ble_eq_true rfl) (mOkC (mOk_lo (Nat.le_of_ble_eq_true rfl)) (mOkC mOk_i (mOkC (mOk_lo (Nat.le_of_ble_eq_true rfl)) mOkN))) ?_
  show mK Γ M_X9_finds (d + 2) Q 60 0 0 0 [(0, .ref 26), (1, .int a1), (2, .ref 52)] [] 60 mSH σ
  refine mK_aload_n dX9_finds_0 rfl rfl (.head _) ?_
  refine ru_getR (k := 11) (ci := 8) (a := 32) dX9_finds_1 rfl rfl rfl kw_1138 ?_
  refine ru_getRN (k := 8) (ci := 7) (a := 39) dX9_finds_4 rfl rfl rfl kn_1096 ?_
  refine mK_iload_n dX9_finds_7 rfl rfl (.tail _ (.head _)) ?_
  refine ru_iald (n := 40) dX9_finds_8 rfl rfl (h.1) ?_
  refine ru_istore_n (lv1 := [(0, .ref 26), (1, .int a1), (2, .ref 52), (3, .int (σ.1 39 (a1).toNatClampNeg))]) dX9_finds_9 rfl rfl (by decide) rfl ?_
  refine mK_aload_n dX9_finds_10 rfl rfl (.head _) ?_
  refine mK_iload_n dX9_finds_11 rfl rfl (.tail _ (.head _)) ?_
  refine mK_invV (J := M_X9_isConceded) (k := 1) (as := [.int a1]) (st := []) (c1 := 0) (s1 := 0) dX9_finds_12 rfl jw_X9_isConceded jn_X9_isConceded rfl (Nat.le_of_ble_eq_true rfl) (Nat.zero_le _) (Nat.zero_le _) rfl kw_1437 kw_1439 kw_65 (b := 26) (Nat.le_of_ble_eq_true rfl) (Nat.le_of_ble_eq_true rfl) rfl ?_
  refine S_X9_isConceded_26 a1 (h.1) ?_
  show mK Γ M_X9_finds (d + 2) Q 60 0 0 15 [(0, .ref 26), (1, .int a1), (2, .ref 52), (3, .int (σ.1 39 (a1).toNatClampNeg))] [.int (f_X9_isConceded_26 σ a1)] 60 mSH σ
  refine ru_if_ne (tgt := 38) dX9_finds_15 rfl (by decide) (fun c1 => ?_) (fun c1 => ?_)
  · refine mK_iconst dX9_finds_38 rfl qic_2 ?_
    exact mK_iret dX9_finds_39 rfl (h.2.2 c1)
  · refine mK_iload_n dX9_finds_18 rfl rfl (.tail _ (.head _)) ?_
    refine mK_aload_n dX9_finds_19 rfl rfl (.head _) ?_
    refine ru_getI (k := 20) (ci := 8) dX9_finds_20 rfl rfl kw_1147 ?_
    refine mK_icmp_eq (tgt := 38) dX9_finds_23 rfl (by decide) (fun c2 => ?_) (fun c2 => ?_)
    · refine mK_iconst dX9_finds_38 rfl qic_2 ?_
      exact mK_iret dX9_finds_39 rfl ((h.2.1 c1).1 c2)
    · refine mK_iload_n dX9_finds_26 rfl rfl (.tail _ (.tail _ (.tail _ (.head _)))) ?_
      refine mK_iconst dX9_finds_27 rfl qic_m1 ?_
      refine mK_icmp_eq (tgt := 40) dX9_finds_28 rfl (by decide) (fun c3 => ?_) (fun c3 => ?_)
      · refine mK_iconst dX9_finds_40 rfl qic_1 ?_
        refine ru_istore (lv1 := [(0, .ref 26), (1, .int a1), (2, .ref 52), (3, .int (σ.1 39 (a1).toNatClampNeg)), (4, .int 1)]) dX9_finds_41 rfl (by decide) rfl ?_
        refine mK_aload_n dX9_finds_43 rfl rfl (.head _) ?_
        refine ru_getR (k := 21) (ci := 8) (a := 56) dX9_finds_44 rfl rfl rfl kw_1148 ?_
        refine mK_iload_n dX9_finds_47 rfl rfl (.tail _ (.head _)) ?_
        refine ru_iald (n := 40) dX9_finds_48 rfl rfl (h.1) ?_
        refine ru_istore (lv1 := [(0, .ref 26), (1, .int a1), (2, .ref 52), (3, .int (σ.1 39 (a1).toNatClampNeg)), (4, .int 1), (5, .int (σ.1 56 (a1).toNatClampNeg))]) dX9_finds_49 rfl (by decide) rfl ?_
        exact ru_pick [0, 2, 3, 4, 5] rfl (((h.2.1 c1).2 c2).1 c3)
      · refine mK_aload_n dX9_finds_31 rfl rfl (.tail _ (.tail _ (.head _))) ?_
        refine mK_iload_n dX9_finds_32 rfl rfl (.tail _ (.tail _ (.tail _ (.head _)))) ?_
        refine ru_iald (n := 40) dX9_finds_33 rfl rfl ((((h.2.1 c1).2 c2).2 c3).1) ?_
        refine mK_iconst dX9_finds_34 rfl qic_2 ?_
        refine ru_icmp_ne (tgt := 40) dX9_finds_35 rfl (by decide) (fun c4 => ?_) (fun c4 => ?_)
        · refine mK_iconst dX9_finds_40 rfl qic_1 ?_
          refine ru_istore (lv1 := [(0, .ref 26), (1, .int a1), (2, .ref 52), (3, .int (σ.1 39 (a1).toNatClampNeg)), (4, .int 1)]) dX9_finds_41 rfl (by decide) rfl ?_
          refine mK_aload_n dX9_finds_43 rfl rfl (.head _) ?_
          refine ru_getR (k := 21) (ci := 8) (a := 56) dX9_finds_44 rfl rfl rfl kw_1148 ?_
          refine mK_iload_n dX9_finds_47 rfl rfl (.tail _ (.head _)) ?_
          refine ru_iald (n := 40) dX9_finds_48 rfl rfl (h.1) ?_
          refine ru_istore (lv1 := [(0, .ref 26), (1, .int a1), (2, .ref 52), (3, .int (σ.1 39 (a1).toNatClampNeg)), (4, .int 1), (5, .int (σ.1 56 (a1).toNatClampNeg))]) dX9_finds_49 rfl (by decide) rfl ?_
          exact ru_pick [0, 2, 3, 4, 5] rfl ((((h.2.1 c1).2 c2).2 c3).2.2 c4)
        · refine mK_iconst dX9_finds_38 rfl qic_2 ?_
          exact mK_iret dX9_finds_39 rfl ((((h.2.1 c1).2 c2).2 c3).2.1 c4)
set_option maxRecDepth 20000 in
theorem T_X9_finds_26_52_51 {Γ : Nat × (Nat → Int32)} {d n0 bc bs : Nat} {Q : mQ} {σ : mS} (x3 : Int32) (x4 : Int32) (x5 : Int32) (h : ((x5 = (-1) → ((x4 = 0 → Q (.inl (some (.int 0))) 60 mSH σ) ∧ (¬ (x4 = 0) → ((x3 = (-1) → Q (.inl (some (.int 1))) 60 mSH σ) ∧ (¬ (x3 = (-1)) → ((vp_in x3 40) ∧ (((σ.1 52 (x3).toNatClampNeg) = 1 → Q (.inl (some (.int 1))) 60 mSH σ) ∧ (¬ ((σ.1 52 (x3).toNatClampNeg) = 1) → Q (.inl (some (.int 0))) 60 mSH σ)))))))) ∧ (¬ (x5 = (-1)) → ((vp_in x5 40) ∧ (((σ.1 52 (x5).toNatClampNeg) = 1 → Q (.inl (some (.int 2))) 60 mSH σ) ∧ (¬ ((σ.1 52 (x5).toNatClampNeg) = 1) → (((σ.1 52 (x5).toNatClampNeg) = 2 → mK Γ M_X9_finds (d + 2) Q n0 bc bs 51 [(0, .ref 26), (2, .ref 52), (3, .int x3), (4, .int (x4 &&& 1)), (5, .int (σ.1 57 (x5).toNatClampNeg))] [] 60 mSH σ) ∧ (¬ ((σ.1 52 (x5).toNatClampNeg) = 2) → mK Γ M_X9_finds (d + 2) Q n0 bc bs 51 [(0, .ref 26), (2, .ref 52), (3, .int x3), (4, .int (x4 &&& 0)), (5, .int (σ.1 57 (x5).toNatClampNeg))] [] 60 mSH σ)))))))) : mK Γ M_X9_finds (d + 2) Q n0 bc bs 51 [(0, .ref 26), (2, .ref 52), (3, .int x3), (4, .int x4), (5, .int x5)] [] 60 mSH σ := by
  refine mK_iload dX9_finds_51 rfl (.tail _ (.tail _ (.tail _ (.tail _ (.head _))))) ?_
  refine mK_iconst dX9_finds_53 rfl qic_m1 ?_
  refine mK_icmp_eq (tgt := 97) dX9_finds_54 rfl (by decide) (fun c1 => ?_) (fun c1 => ?_)
  · refine mK_iload dX9_finds_97 rfl (.tail _ (.tail _ (.tail _ (.head _)))) ?_
    refine mK_if_eq (tgt := 118) dX9_finds_99 rfl (by decide) (fun c2 => ?_) (fun c2 => ?_)
    · refine mK_iconst dX9_finds_118 rfl qic_0 ?_
      exact mK_iret dX9_finds_119 rfl ((h.1 c1).1 c2)
    · refine mK_iload_n dX9_finds_102 rfl rfl (.tail _ (.tail _ (.head _))) ?_
      refine mK_iconst dX9_finds_103 rfl qic_m1 ?_
      refine mK_icmp_eq (tgt := 114) dX9_finds_104 rfl (by decide) (fun c3 => ?_) (fun c3 => ?_)
      · refine mK_iconst dX9_finds_114 rfl qic_1 ?_
        refine mK_goto (tgt := 119) dX9_finds_115 (by decide) ?_
        exact mK_iret dX9_finds_119 rfl (((h.1 c1).2 c2).1 c3)
      · refine mK_aload_n dX9_finds_107 rfl rfl (.tail _ (.head _)) ?_
        refine mK_iload_n dX9_finds_108 rfl rfl (.tail _ (.tail _ (.head _))) ?_
        refine ru_iald (n := 40) dX9_finds_109 rfl rfl ((((h.1 c1).2 c2).2 c3).1) ?_
        refine mK_iconst dX9_finds_110 rfl qic_1 ?_
        refine ru_icmp_ne (tgt := 118) dX9_finds_111 rfl (by decide) (fun c4 => ?_) (fun c4 => ?_)
        · refine mK_iconst dX9_finds_118 rfl qic_0 ?_
          exact mK_iret dX9_finds_119 rfl ((((h.1 c1).2 c2).2 c3).2.2 c4)
        · refine mK_iconst dX9_finds_114 rfl qic_1 ?_
          refine mK_goto (tgt := 119) dX9_finds_115 (by decide) ?_
          exact mK_iret dX9_finds_119 rfl ((((h.1 c1).2 c2).2 c3).2.1 c4)
  · refine mK_aload_n dX9_finds_57 rfl rfl (.tail _ (.head _)) ?_
    refine mK_iload dX9_finds_58 rfl (.tail _ (.tail _ (.tail _ (.tail _ (.head _))))) ?_
    refine ru_iald (n := 40) dX9_finds_60 rfl rfl ((h.2 c1).1) ?_
    refine mK_iconst dX9_finds_61 rfl qic_1 ?_
    refine ru_icmp_ne (tgt := 67) dX9_finds_62 rfl (by decide) (fun c5 => ?_) (fun c5 => ?_)
    · refine mK_iload dX9_finds_67 rfl (.tail _ (.tail _ (.tail _ (.head _)))) ?_
      refine mK_aload_n dX9_finds_69 rfl rfl (.tail _ (.head _)) ?_
      refine mK_iload dX9_finds_70 rfl (.tail _ (.tail _ (.tail _ (.tail _ (.head _))))) ?_
      refine ru_iald (n := 40) dX9_finds_72 rfl rfl ((h.2 c1).1) ?_
      refine mK_iconst dX9_finds_73 rfl qic_2 ?_
      refine ru_icmp_ne (tgt := 81) dX9_finds_74 rfl (by decide) (fun c6 => ?_) (fun c6 => ?_)
      · refine mK_iconst dX9_finds_81 rfl qic_0 ?_
        refine mK_iand dX9_finds_82 rfl ?_
        refine ru_istore (lv1 := [(0, .ref 26), (2, .ref 52), (3, .int x3), (4, .int (x4 &&& 0)), (5, .int x5)]) dX9_finds_83 rfl (by decide) rfl ?_
        refine mK_aload_n dX9_finds_85 rfl rfl (.head _) ?_
        refine ru_getR (k := 22) (ci := 8) (a := 57) dX9_finds_86 rfl rfl rfl kw_1149 ?_
        refine mK_iload dX9_finds_89 rfl (.tail _ (.tail _ (.tail _ (.tail _ (.head _))))) ?_
        refine ru_iald (n := 40) dX9_finds_91 rfl rfl ((h.2 c1).1) ?_
        refine ru_istore (lv1 := [(0, .ref 26), (2, .ref 52), (3, .int x3), (4, .int (x4 &&& 0)), (5, .int (σ.1 57 (x5).toNatClampNeg))]) dX9_finds_92 rfl (by decide) rfl ?_
        refine mK_goto (tgt := 51) dX9_finds_94 (by decide) ?_
        exact (((h.2 c1).2.2 c5).2 c6)
      · refine mK_iconst dX9_finds_77 rfl qic_1 ?_
        refine mK_goto (tgt := 82) dX9_finds_78 (by decide) ?_
        refine mK_iand dX9_finds_82 rfl ?_
        refine ru_istore (lv1 := [(0, .ref 26), (2, .ref 52), (3, .int x3), (4, .int (x4 &&& 1)), (5, .int x5)]) dX9_finds_83 rfl (by decide) rfl ?_
        refine mK_aload_n dX9_finds_85 rfl rfl (.head _) ?_
        refine ru_getR (k := 22) (ci := 8) (a := 57) dX9_finds_86 rfl rfl rfl kw_1149 ?_
        refine mK_iload dX9_finds_89 rfl (.tail _ (.tail _ (.tail _ (.tail _ (.head _))))) ?_
        refine ru_iald (n := 40) dX9_finds_91 rfl rfl ((h.2 c1).1) ?_
        refine ru_istore (lv1 := [(0, .ref 26), (2, .ref 52), (3, .int x3), (4, .int (x4 &&& 1)), (5, .int (σ.1 57 (x5).toNatClampNeg))]) dX9_finds_92 rfl (by decide) rfl ?_
        refine mK_goto (tgt := 51) dX9_finds_94 (by decide) ?_
        exact (((h.2 c1).2.2 c5).1 c6)
    · refine mK_iconst dX9_finds_65 rfl qic_2 ?_
      exact mK_iret dX9_finds_66 rfl ((h.2 c1).2.1 c5)
set_option maxRecDepth 20000 in
theorem E_X9_finds_26_54 {Γ : Nat × (Nat → Int32)} {d : Nat} {Q : mQ} {σ : mS} (a1 : Int32) (h : ((vp_in a1 40) ∧ (((f_X9_isConceded_26 σ a1) = 0 → ((a1 = (σ.1 26 20) → Q (.inl (some (.int 2))) 60 mSH σ) ∧ (¬ (a1 = (σ.1 26 20)) → (((σ.1 39 (a1).toNatClampNeg) = (-1) → mK Γ M_X9_finds (d + 2) Q 60 0 0 51 [(0, .ref 26), (2, .ref 54), (3, .int (σ.1 39 (a1).toNatClampNeg)), (4, .int 1), (5, .int (σ.1 56 (a1).toNatClampNeg))] [] 60 mSH σ) ∧ (¬ ((σ.1 39 (a1).toNatClampNeg) = (-1)) → ((vp_in (σ.1 39 (a1).toNatClampNeg) 40) ∧ (((σ.1 54 (σ.1 39 (a1).toNatClampNeg).toNatClampNeg) = 2 → Q (.inl (some (.int 2))) 60 mSH σ) ∧ (¬ ((σ.1 54 (σ.1 39 (a1).toNatClampNeg).toNatClampNeg) = 2) → mK Γ M_X9_finds (d + 2) Q 60 0 0 51 [(0, .ref 26), (2, .ref 54), (3, .int (σ.1 39 (a1).toNatClampNeg)), (4, .int 1), (5, .int (σ.1 56 (a1).toNatClampNeg))] [] 60 mSH σ)))))))) ∧ (¬ ((f_X9_isConceded_26 σ a1) = 0) → Q (.inl (some (.int 2))) 60 mSH σ)))) : mCall Γ M_X9_finds (d + 2) 0 0 [.ref 26, .int a1, .ref 54] 60 mSH σ Q := by
  refine mCall_of rfl (by decide) (Nat.le_of_ble_eq_true rfl) (mOkC (mOk_lo (Nat.le_of_ble_eq_true rfl)) (mOkC mOk_i (mOkC (mOk_lo (Nat.le_of_ble_eq_true rfl)) mOkN))) ?_
  show mK Γ M_X9_finds (d + 2) Q 60 0 0 0 [(0, .ref 26), (1, .int a1), (2, .ref 54)] [] 60 mSH σ
  refine mK_aload_n dX9_finds_0 rfl rfl (.head _) ?_
  refine ru_getR (k := 11) (ci := 8) (a := 32) dX9_finds_1 rfl rfl rfl kw_1138 ?_
  refine ru_getRN (k := 8) (ci := 7) (a := 39) dX9_finds_4 rfl rfl rfl kn_1096 ?_
  refine mK_iload_n dX9_finds_7 rfl rfl (.tail _ (.head _)) ?_
  refine ru_iald (n := 40) dX9_finds_8 rfl rfl (h.1) ?_
  refine ru_istore_n (lv1 := [(0, .ref 26), (1, .int a1), (2, .ref 54), (3, .int (σ.1 39 (a1).toNatClampNeg))]) dX9_finds_9 rfl rfl (by decide) rfl ?_
  refine mK_aload_n dX9_finds_10 rfl rfl (.head _) ?_
  refine mK_iload_n dX9_finds_11 rfl rfl (.tail _ (.head _)) ?_
  refine mK_invV (J := M_X9_isConceded) (k := 1) (as := [.int a1]) (st := []) (c1 := 0) (s1 := 0) dX9_finds_12 rfl jw_X9_isConceded jn_X9_isConceded rfl (Nat.le_of_ble_eq_true rfl) (Nat.zero_le _) (Nat.zero_le _) rfl kw_1437 kw_1439 kw_65 (b := 26) (Nat.le_of_ble_eq_true rfl) (Nat.le_of_ble_eq_true rfl) rfl ?_
  refine S_X9_isConceded_26 a1 (h.1) ?_
  show mK Γ M_X9_finds (d + 2) Q 60 0 0 15 [(0, .ref 26), (1, .int a1), (2, .ref 54), (3, .int (σ.1 39 (a1).toNatClampNeg))] [.int (f_X9_isConceded_26 σ a1)] 60 mSH σ
  refine ru_if_ne (tgt := 38) dX9_finds_15 rfl (by decide) (fun c1 => ?_) (fun c1 => ?_)
  · refine mK_iconst dX9_finds_38 rfl qic_2 ?_
    exact mK_iret dX9_finds_39 rfl (h.2.2 c1)
  · refine mK_iload_n dX9_finds_18 rfl rfl (.tail _ (.head _)) ?_
    refine mK_aload_n dX9_finds_19 rfl rfl (.head _) ?_
    refine ru_getI (k := 20) (ci := 8) dX9_finds_20 rfl rfl kw_1147 ?_
    refine mK_icmp_eq (tgt := 38) dX9_finds_23 rfl (by decide) (fun c2 => ?_) (fun c2 => ?_)
    · refine mK_iconst dX9_finds_38 rfl qic_2 ?_
      exact mK_iret dX9_finds_39 rfl ((h.2.1 c1).1 c2)
    · refine mK_iload_n dX9_finds_26 rfl rfl (.tail _ (.tail _ (.tail _ (.head _)))) ?_
      refine mK_iconst dX9_finds_27 rfl qic_m1 ?_
      refine mK_icmp_eq (tgt := 40) dX9_finds_28 rfl (by decide) (fun c3 => ?_) (fun c3 => ?_)
      · refine mK_iconst dX9_finds_40 rfl qic_1 ?_
        refine ru_istore (lv1 := [(0, .ref 26), (1, .int a1), (2, .ref 54), (3, .int (σ.1 39 (a1).toNatClampNeg)), (4, .int 1)]) dX9_finds_41 rfl (by decide) rfl ?_
        refine mK_aload_n dX9_finds_43 rfl rfl (.head _) ?_
        refine ru_getR (k := 21) (ci := 8) (a := 56) dX9_finds_44 rfl rfl rfl kw_1148 ?_
        refine mK_iload_n dX9_finds_47 rfl rfl (.tail _ (.head _)) ?_
        refine ru_iald (n := 40) dX9_finds_48 rfl rfl (h.1) ?_
        refine ru_istore (lv1 := [(0, .ref 26), (1, .int a1), (2, .ref 54), (3, .int (σ.1 39 (a1).toNatClampNeg)), (4, .int 1), (5, .int (σ.1 56 (a1).toNatClampNeg))]) dX9_finds_49 rfl (by decide) rfl ?_
        exact ru_pick [0, 2, 3, 4, 5] rfl (((h.2.1 c1).2 c2).1 c3)
      · refine mK_aload_n dX9_finds_31 rfl rfl (.tail _ (.tail _ (.head _))) ?_
        refine mK_iload_n dX9_finds_32 rfl rfl (.tail _ (.tail _ (.tail _ (.head _)))) ?_
        refine ru_iald (n := 40) dX9_finds_33 rfl rfl ((((h.2.1 c1).2 c2).2 c3).1) ?_
        refine mK_iconst dX9_finds_34 rfl qic_2 ?_
        refine ru_icmp_ne (tgt := 40) dX9_finds_35 rfl (by decide) (fun c4 => ?_) (fun c4 => ?_)
        · refine mK_iconst dX9_finds_40 rfl qic_1 ?_
          refine ru_istore (lv1 := [(0, .ref 26), (1, .int a1), (2, .ref 54), (3, .int (σ.1 39 (a1).toNatClampNeg)), (4, .int 1)]) dX9_finds_41 rfl (by decide) rfl ?_
          refine mK_aload_n dX9_finds_43 rfl rfl (.head _) ?_
          refine ru_getR (k := 21) (ci := 8) (a := 56) dX9_finds_44 rfl rfl rfl kw_1148 ?_
          refine mK_iload_n dX9_finds_47 rfl rfl (.tail _ (.head _)) ?_
          refine ru_iald (n := 40) dX9_finds_48 rfl rfl (h.1) ?_
          refine ru_istore (lv1 := [(0, .ref 26), (1, .int a1), (2, .ref 54), (3, .int (σ.1 39 (a1).toNatClampNeg)), (4, .int 1), (5, .int (σ.1 56 (a1).toNatClampNeg))]) dX9_finds_49 rfl (by decide) rfl ?_
          exact ru_pick [0, 2, 3, 4, 5] rfl ((((h.2.1 c1).2 c2).2 c3).2.2 c4)
        · refine mK_iconst dX9_finds_38 rfl qic_2 ?_
          exact mK_iret dX9_finds_39 rfl ((((h.2.1 c1).2 c2).2 c3).2.1 c4)
set_option maxRecDepth 20000 in
theorem T_X9_finds_26_54_51 {Γ : Nat × (Nat → Int32)} {d n0 bc bs : Nat} {Q : mQ} {σ : mS} (x3 : Int32) (x4 : Int32) (x5 : Int32) (h : ((x5 = (-1) → ((x4 = 0 → Q (.inl (some (.int 0))) 60 mSH σ) ∧ (¬ (x4 = 0) → ((x3 = (-1) → Q (.inl (some (.int 1))) 60 mSH σ) ∧ (¬ (x3 = (-1)) → ((vp_in x3 40) ∧ (((σ.1 54 (x3).toNatClampNeg) = 1 → Q (.inl (some (.int 1))) 60 mSH σ) ∧ (¬ ((σ.1 54 (x3).toNatClampNeg) = 1) → Q (.inl (some (.int 0))) 60 mSH σ)))))))) ∧ (¬ (x5 = (-1)) → ((vp_in x5 40) ∧ (((σ.1 54 (x5).toNatClampNeg) = 1 → Q (.inl (some (.int 2))) 60 mSH σ) ∧ (¬ ((σ.1 54 (x5).toNatClampNeg) = 1) → (((σ.1 54 (x5).toNatClampNeg) = 2 → mK Γ M_X9_finds (d + 2) Q n0 bc bs 51 [(0, .ref 26), (2, .ref 54), (3, .int x3), (4, .int (x4 &&& 1)), (5, .int (σ.1 57 (x5).toNatClampNeg))] [] 60 mSH σ) ∧ (¬ ((σ.1 54 (x5).toNatClampNeg) = 2) → mK Γ M_X9_finds (d + 2) Q n0 bc bs 51 [(0, .ref 26), (2, .ref 54), (3, .int x3), (4, .int (x4 &&& 0)), (5, .int (σ.1 57 (x5).toNatClampNeg))] [] 60 mSH σ)))))))) : mK Γ M_X9_finds (d + 2) Q n0 bc bs 51 [(0, .ref 26), (2, .ref 54), (3, .int x3), (4, .int x4), (5, .int x5)] [] 60 mSH σ := by
  refine mK_iload dX9_finds_51 rfl (.tail _ (.tail _ (.tail _ (.tail _ (.head _))))) ?_
  refine mK_iconst dX9_finds_53 rfl qic_m1 ?_
  refine mK_icmp_eq (tgt := 97) dX9_finds_54 rfl (by decide) (fun c1 => ?_) (fun c1 => ?_)
  · refine mK_iload dX9_finds_97 rfl (.tail _ (.tail _ (.tail _ (.head _)))) ?_
    refine mK_if_eq (tgt := 118) dX9_finds_99 rfl (by decide) (fun c2 => ?_) (fun c2 => ?_)
    · refine mK_iconst dX9_finds_118 rfl qic_0 ?_
      exact mK_iret dX9_finds_119 rfl ((h.1 c1).1 c2)
    · refine mK_iload_n dX9_finds_102 rfl rfl (.tail _ (.tail _ (.head _))) ?_
      refine mK_iconst dX9_finds_103 rfl qic_m1 ?_
      refine mK_icmp_eq (tgt := 114) dX9_finds_104 rfl (by decide) (fun c3 => ?_) (fun c3 => ?_)
      · refine mK_iconst dX9_finds_114 rfl qic_1 ?_
        refine mK_goto (tgt := 119) dX9_finds_115 (by decide) ?_
        exact mK_iret dX9_finds_119 rfl (((h.1 c1).2 c2).1 c3)
      · refine mK_aload_n dX9_finds_107 rfl rfl (.tail _ (.head _)) ?_
        refine mK_iload_n dX9_finds_108 rfl rfl (.tail _ (.tail _ (.head _))) ?_
        refine ru_iald (n := 40) dX9_finds_109 rfl rfl ((((h.1 c1).2 c2).2 c3).1) ?_
        refine mK_iconst dX9_finds_110 rfl qic_1 ?_
        refine ru_icmp_ne (tgt := 118) dX9_finds_111 rfl (by decide) (fun c4 => ?_) (fun c4 => ?_)
        · refine mK_iconst dX9_finds_118 rfl qic_0 ?_
          exact mK_iret dX9_finds_119 rfl ((((h.1 c1).2 c2).2 c3).2.2 c4)
        · refine mK_iconst dX9_finds_114 rfl qic_1 ?_
          refine mK_goto (tgt := 119) dX9_finds_115 (by decide) ?_
          exact mK_iret dX9_finds_119 rfl ((((h.1 c1).2 c2).2 c3).2.1 c4)
  · refine mK_aload_n dX9_finds_57 rfl rfl (.tail _ (.head _)) ?_
    refine mK_iload dX9_finds_58 rfl (.tail _ (.tail _ (.tail _ (.tail _ (.head _))))) ?_
    refine ru_iald (n := 40) dX9_finds_60 rfl rfl ((h.2 c1).1) ?_
    refine mK_iconst dX9_finds_61 rfl qic_1 ?_
    refine ru_icmp_ne (tgt := 67) dX9_finds_62 rfl (by decide) (fun c5 => ?_) (fun c5 => ?_)
    · refine mK_iload dX9_finds_67 rfl (.tail _ (.tail _ (.tail _ (.head _)))) ?_
      refine mK_aload_n dX9_finds_69 rfl rfl (.tail _ (.head _)) ?_
      refine mK_iload dX9_finds_70 rfl (.tail _ (.tail _ (.tail _ (.tail _ (.head _))))) ?_
      refine ru_iald (n := 40) dX9_finds_72 rfl rfl ((h.2 c1).1) ?_
      refine mK_iconst dX9_finds_73 rfl qic_2 ?_
      refine ru_icmp_ne (tgt := 81) dX9_finds_74 rfl (by decide) (fun c6 => ?_) (fun c6 => ?_)
      · refine mK_iconst dX9_finds_81 rfl qic_0 ?_
        refine mK_iand dX9_finds_82 rfl ?_
        refine ru_istore (lv1 := [(0, .ref 26), (2, .ref 54), (3, .int x3), (4, .int (x4 &&& 0)), (5, .int x5)]) dX9_finds_83 rfl (by decide) rfl ?_
        refine mK_aload_n dX9_finds_85 rfl rfl (.head _) ?_
        refine ru_getR (k := 22) (ci := 8) (a := 57) dX9_finds_86 rfl rfl rfl kw_1149 ?_
        refine mK_iload dX9_finds_89 rfl (.tail _ (.tail _ (.tail _ (.tail _ (.head _))))) ?_
        refine ru_iald (n := 40) dX9_finds_91 rfl rfl ((h.2 c1).1) ?_
        refine ru_istore (lv1 := [(0, .ref 26), (2, .ref 54), (3, .int x3), (4, .int (x4 &&& 0)), (5, .int (σ.1 57 (x5).toNatClampNeg))]) dX9_finds_92 rfl (by decide) rfl ?_
        refine mK_goto (tgt := 51) dX9_finds_94 (by decide) ?_
        exact (((h.2 c1).2.2 c5).2 c6)
      · refine mK_iconst dX9_finds_77 rfl qic_1 ?_
        refine mK_goto (tgt := 82) dX9_finds_78 (by decide) ?_
        refine mK_iand dX9_finds_82 rfl ?_
        refine ru_istore (lv1 := [(0, .ref 26), (2, .ref 54), (3, .int x3), (4, .int (x4 &&& 1)), (5, .int x5)]) dX9_finds_83 rfl (by decide) rfl ?_
        refine mK_aload_n dX9_finds_85 rfl rfl (.head _) ?_
        refine ru_getR (k := 22) (ci := 8) (a := 57) dX9_finds_86 rfl rfl rfl kw_1149 ?_
        refine mK_iload dX9_finds_89 rfl (.tail _ (.tail _ (.tail _ (.tail _ (.head _))))) ?_
        refine ru_iald (n := 40) dX9_finds_91 rfl rfl ((h.2 c1).1) ?_
        refine ru_istore (lv1 := [(0, .ref 26), (2, .ref 54), (3, .int x3), (4, .int (x4 &&& 1)), (5, .int (σ.1 57 (x5).toNatClampNeg))]) dX9_finds_92 rfl (by decide) rfl ?_
        refine mK_goto (tgt := 51) dX9_finds_94 (by decide) ?_
        exact (((h.2 c1).2.2 c5).1 c6)
    · refine mK_iconst dX9_finds_65 rfl qic_2 ?_
      exact mK_iret dX9_finds_66 rfl ((h.2 c1).2.1 c5)
set_option maxRecDepth 20000 in
theorem E_X9_stand_26_52_53 {Γ : Nat × (Nat → Int32)} {d : Nat} {Q : mQ} {σ : mS} (h : mK Γ M_X9_stand (d + 2) Q 60 0 0 2 [(0, .ref 26), (1, .ref 52), (2, .ref 53), (3, .int 0)] [] 60 mSH σ) : mCall Γ M_X9_stand (d + 2) 0 0 [.ref 26, .ref 52, .ref 53] 60 mSH σ Q := by
  refine mCall_of rfl (by decide) (Nat.le_of_ble_eq_true rfl) (mOkC (mOk_lo (Nat.le_of_ble_eq_true rfl)) (mOkC (mOk_lo (Nat.le_of_ble_eq_true rfl)) (mOkC (mOk_lo (Nat.le_of_ble_eq_true rfl)) mOkN))) ?_
  show mK Γ M_X9_stand (d + 2) Q 60 0 0 0 [(0, .ref 26), (1, .ref 52), (2, .ref 53)] [] 60 mSH σ
  refine mK_iconst dX9_stand_0 rfl qic_0 ?_
  refine ru_istore_n (lv1 := [(0, .ref 26), (1, .ref 52), (2, .ref 53), (3, .int 0)]) dX9_stand_1 rfl rfl (by decide) rfl ?_
  exact h
set_option maxRecDepth 20000 in
theorem T_X9_stand_26_52_53_2 {Γ : Nat × (Nat → Int32)} {d n0 bc bs : Nat} {Q : mQ} {σ : mS} (x3 : Int32) (h : (((σ.1 32 3) ≤ x3 → mK Γ M_X9_stand (d + 2) Q n0 bc bs 44 [(0, .ref 26), (1, .ref 52), (2, .ref 53), (3, .int ((σ.1 32 3) - 1))] [] 60 mSH σ) ∧ (¬ ((σ.1 32 3) ≤ x3) → ((vp_in x3 40) ∧ mK Γ M_X9_stand (d + 2) Q n0 bc bs 2 [(0, .ref 26), (1, .ref 52), (2, .ref 53), (3, .int (x3 + 1))] [] 60 mSH (mPI (mPI (mPI σ 56 (x3).toNatClampNeg (-1)) 52 (x3).toNatClampNeg 0) 53 (x3).toNatClampNeg 0))))) : mK Γ M_X9_stand (d + 2) Q n0 bc bs 2 [(0, .ref 26), (1, .ref 52), (2, .ref 53), (3, .int x3)] [] 60 mSH σ := by
  refine mK_iload_n dX9_stand_2 rfl rfl (.tail _ (.tail _ (.tail _ (.head _)))) ?_
  refine mK_aload_n dX9_stand_3 rfl rfl (.head _) ?_
  refine ru_getR (k := 11) (ci := 8) (a := 32) dX9_stand_4 rfl rfl rfl kw_1138 ?_
  refine ru_getIN (k := 3) (ci := 7) dX9_stand_7 rfl rfl kn_1086 ?_
  refine mK_icmp_ge (tgt := 34) dX9_stand_10 rfl (by decide) (fun c1 => ?_) (fun c1 => ?_)
  · refine mK_aload_n dX9_stand_34 rfl rfl (.head _) ?_
    refine ru_getR (k := 11) (ci := 8) (a := 32) dX9_stand_35 rfl rfl rfl kw_1138 ?_
    refine ru_getIN (k := 3) (ci := 7) dX9_stand_38 rfl rfl kn_1086 ?_
    refine mK_iconst dX9_stand_41 rfl qic_1 ?_
    refine mK_isub dX9_stand_42 rfl ?_
    refine ru_istore_n (lv1 := [(0, .ref 26), (1, .ref 52), (2, .ref 53), (3, .int ((σ.1 32 3) - 1))]) dX9_stand_43 rfl rfl (by decide) rfl ?_
    exact (h.1 c1)
  · refine mK_aload_n dX9_stand_13 rfl rfl (.head _) ?_
    refine ru_getR (k := 21) (ci := 8) (a := 56) dX9_stand_14 rfl rfl rfl kw_1148 ?_
    refine mK_iload_n dX9_stand_17 rfl rfl (.tail _ (.tail _ (.tail _ (.head _)))) ?_
    refine mK_iconst dX9_stand_18 rfl qic_m1 ?_
    refine ru_iast (n := 40) dX9_stand_19 rfl rfl ((h.2 c1).1) ?_
    refine mK_aload_n dX9_stand_20 rfl rfl (.tail _ (.head _)) ?_
    refine mK_iload_n dX9_stand_21 rfl rfl (.tail _ (.tail _ (.tail _ (.head _)))) ?_
    refine mK_iconst dX9_stand_22 rfl qic_0 ?_
    refine ru_iast (n := 40) dX9_stand_23 rfl rfl ((h.2 c1).1) ?_
    refine mK_aload_n dX9_stand_24 rfl rfl (.tail _ (.tail _ (.head _))) ?_
    refine mK_iload_n dX9_stand_25 rfl rfl (.tail _ (.tail _ (.tail _ (.head _)))) ?_
    refine mK_iconst dX9_stand_26 rfl qic_0 ?_
    refine ru_iast (n := 40) dX9_stand_27 rfl rfl ((h.2 c1).1) ?_
    refine ru_iinc (lv1 := [(0, .ref 26), (1, .ref 52), (2, .ref 53), (3, .int (x3 + 1))]) dX9_stand_28 rfl (.tail _ (.tail _ (.tail _ (.head _)))) qic_1 (by decide) rfl ?_
    refine mK_goto (tgt := 2) dX9_stand_31 (by decide) ?_
    exact (h.2 c1).2
set_option maxRecDepth 20000 in
theorem T_X9_stand_26_52_53_44 {Γ : Nat × (Nat → Int32)} {d n0 bc bs : Nat} {Q : mQ} {σ : mS} (x3 : Int32) (h : ((x3 < 0 → mK Γ M_X9_stand (d + 2) Q n0 bc bs 105 [(0, .ref 26), (1, .ref 52), (2, .ref 53), (3, .int 0)] [] 60 mSH σ) ∧ (¬ (x3 < 0) → ((vp_in x3 40) ∧ ((((σ.1 36 (x3).toNatClampNeg) = 1) → vp_in (σ.1 40 (x3).toNatClampNeg) 40) ∧ (((f_X8_isStrong_32 σ x3) = 0 → mK Γ M_X9_stand (d + 2) Q n0 bc bs 44 [(0, .ref 26), (1, .ref 52), (2, .ref 53), (3, .int (x3 + (-1)))] [] 60 mSH σ) ∧ (¬ ((f_X8_isStrong_32 σ x3) = 0) → ((vp_in (σ.1 40 (x3).toNatClampNeg) 40) ∧ mK Γ M_X9_stand (d + 2) Q n0 bc bs 44 [(0, .ref 26), (1, .ref 52), (2, .ref 53), (3, .int (x3 + (-1)))] [] 60 mSH (mPI (mPI σ 57 (x3).toNatClampNeg (σ.1 56 (σ.1 40 (x3).toNatClampNeg).toNatClampNeg)) 56 (σ.1 40 (x3).toNatClampNeg).toNatClampNeg x3))))))))) : mK Γ M_X9_stand (d + 2) Q n0 bc bs 44 [(0, .ref 26), (1, .ref 52), (2, .ref 53), (3, .int x3)] [] 60 mSH σ := by
  refine mK_iload_n dX9_stand_44 rfl rfl (.tail _ (.tail _ (.tail _ (.head _)))) ?_
  refine mK_if_lt (tgt := 103) dX9_stand_45 rfl (by decide) (fun c1 => ?_) (fun c1 => ?_)
  · refine mK_iconst dX9_stand_103 rfl qic_0 ?_
    refine ru_istore_n (lv1 := [(0, .ref 26), (1, .ref 52), (2, .ref 53), (3, .int 0)]) dX9_stand_104 rfl rfl (by decide) rfl ?_
    exact (h.1 c1)
  · refine mK_aload_n dX9_stand_48 rfl rfl (.head _) ?_
    refine ru_getR (k := 11) (ci := 8) (a := 32) dX9_stand_49 rfl rfl rfl kw_1138 ?_
    refine mK_iload_n dX9_stand_52 rfl rfl (.tail _ (.tail _ (.tail _ (.head _)))) ?_
    refine mK_invV (J := M_X8_isStrong) (k := 1) (as := [.int x3]) (st := []) (c1 := 0) (s1 := 0) dX9_stand_53 rfl jw_X8_isStrong jn_X8_isStrong rfl (Nat.le_of_ble_eq_true rfl) (Nat.zero_le _) (Nat.zero_le _) rfl kw_1429 kw_1430 kw_1431 (b := 32) (Nat.le_of_ble_eq_true rfl) (Nat.le_of_ble_eq_true rfl) rfl ?_
    refine S_X8_isStrong_32 x3 ((h.2 c1).1) ((h.2 c1).2.1) ?_
    show mK Γ M_X9_stand (d + 2) Q n0 bc bs 56 [(0, .ref 26), (1, .ref 52), (2, .ref 53), (3, .int x3)] [.int (f_X8_isStrong_32 σ x3)] 60 mSH σ
    refine ru_if_ne (tgt := 62) dX9_stand_56 rfl (by decide) (fun c2 => ?_) (fun c2 => ?_)
    · refine mK_aload_n dX9_stand_62 rfl rfl (.head _) ?_
      refine ru_getR (k := 22) (ci := 8) (a := 57) dX9_stand_63 rfl rfl rfl kw_1149 ?_
      refine mK_iload_n dX9_stand_66 rfl rfl (.tail _ (.tail _ (.tail _ (.head _)))) ?_
      refine mK_aload_n dX9_stand_67 rfl rfl (.head _) ?_
      refine ru_getR (k := 21) (ci := 8) (a := 56) dX9_stand_68 rfl rfl rfl kw_1148 ?_
      refine mK_aload_n dX9_stand_71 rfl rfl (.head _) ?_
      refine ru_getR (k := 11) (ci := 8) (a := 32) dX9_stand_72 rfl rfl rfl kw_1138 ?_
      refine ru_getRN (k := 9) (ci := 7) (a := 40) dX9_stand_75 rfl rfl rfl kn_1098 ?_
      refine mK_iload_n dX9_stand_78 rfl rfl (.tail _ (.tail _ (.tail _ (.head _)))) ?_
      refine ru_iald (n := 40) dX9_stand_79 rfl rfl ((h.2 c1).1) ?_
      refine ru_iald (n := 40) dX9_stand_80 rfl rfl (((h.2 c1).2.2.2 c2).1) ?_
      refine ru_iast (n := 40) dX9_stand_81 rfl rfl ((h.2 c1).1) ?_
      refine mK_aload_n dX9_stand_82 rfl rfl (.head _) ?_
      refine ru_getR (k := 21) (ci := 8) (a := 56) dX9_stand_83 rfl rfl rfl kw_1148 ?_
      refine mK_aload_n dX9_stand_86 rfl rfl (.head _) ?_
      refine ru_getR (k := 11) (ci := 8) (a := 32) dX9_stand_87 rfl rfl rfl kw_1138 ?_
      refine ru_getRN (k := 9) (ci := 7) (a := 40) dX9_stand_90 rfl rfl rfl kn_1098 ?_
      refine mK_iload_n dX9_stand_93 rfl rfl (.tail _ (.tail _ (.tail _ (.head _)))) ?_
      refine ru_iald (n := 40) dX9_stand_94 rfl rfl ((h.2 c1).1) ?_
      refine mK_iload_n dX9_stand_95 rfl rfl (.tail _ (.tail _ (.tail _ (.head _)))) ?_
      refine ru_iast (n := 40) dX9_stand_96 rfl rfl (((h.2 c1).2.2.2 c2).1) ?_
      refine ru_iinc (lv1 := [(0, .ref 26), (1, .ref 52), (2, .ref 53), (3, .int (x3 + (-1)))]) dX9_stand_97 rfl (.tail _ (.tail _ (.tail _ (.head _)))) qic_m1 (by decide) rfl ?_
      refine mK_goto (tgt := 44) dX9_stand_100 (by decide) ?_
      exact ((h.2 c1).2.2.2 c2).2
    · refine mK_goto (tgt := 97) dX9_stand_59 (by decide) ?_
      refine ru_iinc (lv1 := [(0, .ref 26), (1, .ref 52), (2, .ref 53), (3, .int (x3 + (-1)))]) dX9_stand_97 rfl (.tail _ (.tail _ (.tail _ (.head _)))) qic_m1 (by decide) rfl ?_
      refine mK_goto (tgt := 44) dX9_stand_100 (by decide) ?_
      exact ((h.2 c1).2.2.1 c2)
set_option maxRecDepth 20000 in
theorem T_X9_stand_26_52_53_105 {Γ : Nat × (Nat → Int32)} {d n0 bc bs : Nat} {Q : mQ} {σ : mS} (x3 : Int32) (h : mK Γ M_X9_stand (d + 2) Q n0 bc bs 111 [(0, .ref 26), (1, .ref 52), (2, .ref 53), (3, .int x3), (4, .int 0), (5, .int 0)] [] 60 mSH σ) : mK Γ M_X9_stand (d + 2) Q n0 bc bs 105 [(0, .ref 26), (1, .ref 52), (2, .ref 53), (3, .int x3)] [] 60 mSH σ := by
  refine mK_iconst dX9_stand_105 rfl qic_0 ?_
  refine ru_istore (lv1 := [(0, .ref 26), (1, .ref 52), (2, .ref 53), (3, .int x3), (4, .int 0)]) dX9_stand_106 rfl (by decide) rfl ?_
  refine mK_iconst dX9_stand_108 rfl qic_0 ?_
  refine ru_istore (lv1 := [(0, .ref 26), (1, .ref 52), (2, .ref 53), (3, .int x3), (4, .int 0), (5, .int 0)]) dX9_stand_109 rfl (by decide) rfl ?_
  exact h
set_option maxRecDepth 20000 in
theorem T_X9_stand_26_52_53_111 {Γ : Nat × (Nat → Int32)} {d n0 bc bs : Nat} {Q : mQ} {σ : mS} (x3 : Int32) (x4 : Int32) (x5 : Int32) (h : (((σ.1 32 3) ≤ x5 → mK Γ M_X9_stand (d + 2) Q n0 bc bs 157 [(0, .ref 26), (1, .ref 52), (2, .ref 53), (3, .int x3), (4, .int x4), (5, .int 0)] [] 60 mSH σ) ∧ (¬ ((σ.1 32 3) ≤ x5) → ((vp_in x5 40) ∧ (((σ.1 52 (x5).toNatClampNeg) = 0 → mCall Γ M_X9_finds (d + 1) 0 0 [.ref 26, .int x5, .ref 52] 60 mSH σ (mRt Γ M_X9_stand (d + 2) Q n0 bc bs 143 [(0, .ref 26), (1, .ref 52), (2, .ref 53), (3, .int x3), (4, .int x4), (5, .int x5)] [.int x5, .ref 58])) ∧ (¬ ((σ.1 52 (x5).toNatClampNeg) = 0) → mK Γ M_X9_stand (d + 2) Q n0 bc bs 111 [(0, .ref 26), (1, .ref 52), (2, .ref 53), (3, .int x3), (4, .int x4), (5, .int (x5 + 1))] [] 60 mSH (mPI σ 58 (x5).toNatClampNeg 0))))))) : mK Γ M_X9_stand (d + 2) Q n0 bc bs 111 [(0, .ref 26), (1, .ref 52), (2, .ref 53), (3, .int x3), (4, .int x4), (5, .int x5)] [] 60 mSH σ := by
  refine mK_iload dX9_stand_111 rfl (.tail _ (.tail _ (.tail _ (.tail _ (.tail _ (.head _)))))) ?_
  refine mK_aload_n dX9_stand_113 rfl rfl (.head _) ?_
  refine ru_getR (k := 11) (ci := 8) (a := 32) dX9_stand_114 rfl rfl rfl kw_1138 ?_
  refine ru_getIN (k := 3) (ci := 7) dX9_stand_117 rfl rfl kn_1086 ?_
  refine mK_icmp_ge (tgt := 154) dX9_stand_120 rfl (by decide) (fun c1 => ?_) (fun c1 => ?_)
  · refine mK_iconst dX9_stand_154 rfl qic_0 ?_
    refine ru_istore (lv1 := [(0, .ref 26), (1, .ref 52), (2, .ref 53), (3, .int x3), (4, .int x4), (5, .int 0)]) dX9_stand_155 rfl (by decide) rfl ?_
    exact (h.1 c1)
  · refine mK_aload_n dX9_stand_123 rfl rfl (.head _) ?_
    refine ru_getR (k := 23) (ci := 8) (a := 58) dX9_stand_124 rfl rfl rfl kw_1150 ?_
    refine mK_iload dX9_stand_127 rfl (.tail _ (.tail _ (.tail _ (.tail _ (.tail _ (.head _)))))) ?_
    refine mK_aload_n dX9_stand_129 rfl rfl (.tail _ (.head _)) ?_
    refine mK_iload dX9_stand_130 rfl (.tail _ (.tail _ (.tail _ (.tail _ (.tail _ (.head _)))))) ?_
    refine ru_iald (n := 40) dX9_stand_132 rfl rfl ((h.2 c1).1) ?_
    refine ru_if_ne (tgt := 146) dX9_stand_133 rfl (by decide) (fun c2 => ?_) (fun c2 => ?_)
    · refine mK_iconst dX9_stand_146 rfl qic_0 ?_
      refine ru_iast (n := 40) dX9_stand_147 rfl rfl ((h.2 c1).1) ?_
      refine ru_iinc (lv1 := [(0, .ref 26), (1, .ref 52), (2, .ref 53), (3, .int x3), (4, .int x4), (5, .int (x5 + 1))]) dX9_stand_148 rfl (.tail _ (.tail _ (.tail _ (.tail _ (.tail _ (.head _)))))) qic_1 (by decide) rfl ?_
      refine mK_goto (tgt := 111) dX9_stand_151 (by decide) ?_
      exact ((h.2 c1).2.2 c2)
    · refine mK_aload_n dX9_stand_136 rfl rfl (.head _) ?_
      refine mK_iload dX9_stand_137 rfl (.tail _ (.tail _ (.tail _ (.tail _ (.tail _ (.head _)))))) ?_
      refine mK_aload_n dX9_stand_139 rfl rfl (.tail _ (.head _)) ?_
      refine mK_invV (J := M_X9_finds) (k := 2) (as := [.int x5, .ref 52]) (st := [.int x5, .ref 58]) (c1 := 0) (s1 := 0) dX9_stand_140 rfl jw_X9_finds jn_X9_finds rfl (Nat.le_of_ble_eq_true rfl) (Nat.zero_le _) (Nat.zero_le _) rfl kw_1433 kw_1435 kw_64 (b := 26) (Nat.le_of_ble_eq_true rfl) (Nat.le_of_ble_eq_true rfl) rfl ?_
      exact ((h.2 c1).2.1 c2)
set_option maxRecDepth 20000 in
theorem T_X9_stand_26_52_53_157 {Γ : Nat × (Nat → Int32)} {d n0 bc bs : Nat} {Q : mQ} {σ : mS} (x3 : Int32) (x4 : Int32) (x5 : Int32) (h : (((σ.1 32 3) ≤ x5 → ((x4 = 0 → Q (.inl (some (.int x3))) 60 mSH σ) ∧ (¬ (x4 = 0) → mK Γ M_X9_stand (d + 2) Q n0 bc bs 105 [(0, .ref 26), (1, .ref 52), (2, .ref 53), (3, .int (x3 + 1))] [] 60 mSH σ))) ∧ (¬ ((σ.1 32 3) ≤ x5) → ((vp_in x5 40) ∧ (((σ.1 58 (x5).toNatClampNeg) = 0 → mK Γ M_X9_stand (d + 2) Q n0 bc bs 157 [(0, .ref 26), (1, .ref 52), (2, .ref 53), (3, .int x3), (4, .int x4), (5, .int (x5 + 1))] [] 60 mSH σ) ∧ (¬ ((σ.1 58 (x5).toNatClampNeg) = 0) → mK Γ M_X9_stand (d + 2) Q n0 bc bs 157 [(0, .ref 26), (1, .ref 52), (2, .ref 53), (3, .int x3), (4, .int 1), (5, .int (x5 + 1))] [] 60 mSH (mPI (mPI σ 52 (x5).toNatClampNeg (σ.1 58 (x5).toNatClampNeg)) 53 (x5).toNatClampNeg (x3 + 1)))))))) : mK Γ M_X9_stand (d + 2) Q n0 bc bs 157 [(0, .ref 26), (1, .ref 52), (2, .ref 53), (3, .int x3), (4, .int x4), (5, .int x5)] [] 60 mSH σ := by
  refine mK_iload dX9_stand_157 rfl (.tail _ (.tail _ (.tail _ (.tail _ (.tail _ (.head _)))))) ?_
  refine mK_aload_n dX9_stand_159 rfl rfl (.head _) ?_
  refine ru_getR (k := 11) (ci := 8) (a := 32) dX9_stand_160 rfl rfl rfl kw_1138 ?_
  refine ru_getIN (k := 3) (ci := 7) dX9_stand_163 rfl rfl kn_1086 ?_
  refine mK_icmp_ge (tgt := 209) dX9_stand_166 rfl (by decide) (fun c1 => ?_) (fun c1 => ?_)
  · refine mK_iload dX9_stand_209 rfl (.tail _ (.tail _ (.tail _ (.tail _ (.head _))))) ?_
    refine ru_if_ne (tgt := 216) dX9_stand_211 rfl (by decide) (fun c2 => ?_) (fun c2 => ?_)
    · refine ru_iinc (lv1 := [(0, .ref 26), (1, .ref 52), (2, .ref 53), (3, .int (x3 + 1)), (4, .int x4), (5, .int x5)]) dX9_stand_216 rfl (.tail _ (.tail _ (.tail _ (.head _)))) qic_1 (by decide) rfl ?_
      refine mK_goto (tgt := 105) dX9_stand_219 (by decide) ?_
      exact ru_pick [0, 1, 2, 3] rfl ((h.1 c1).2 c2)
    · refine mK_iload_n dX9_stand_214 rfl rfl (.tail _ (.tail _ (.tail _ (.head _)))) ?_
      exact mK_iret dX9_stand_215 rfl ((h.1 c1).1 c2)
  · refine mK_aload_n dX9_stand_169 rfl rfl (.head _) ?_
    refine ru_getR (k := 23) (ci := 8) (a := 58) dX9_stand_170 rfl rfl rfl kw_1150 ?_
    refine mK_iload dX9_stand_173 rfl (.tail _ (.tail _ (.tail _ (.tail _ (.tail _ (.head _)))))) ?_
    refine ru_iald (n := 40) dX9_stand_175 rfl rfl ((h.2 c1).1) ?_
    refine ru_if_ne (tgt := 182) dX9_stand_176 rfl (by decide) (fun c3 => ?_) (fun c3 => ?_)
    · refine mK_aload_n dX9_stand_182 rfl rfl (.tail _ (.head _)) ?_
      refine mK_iload dX9_stand_183 rfl (.tail _ (.tail _ (.tail _ (.tail _ (.tail _ (.head _)))))) ?_
      refine mK_aload_n dX9_stand_185 rfl rfl (.head _) ?_
      refine ru_getR (k := 23) (ci := 8) (a := 58) dX9_stand_186 rfl rfl rfl kw_1150 ?_
      refine mK_iload dX9_stand_189 rfl (.tail _ (.tail _ (.tail _ (.tail _ (.tail _ (.head _)))))) ?_
      refine ru_iald (n := 40) dX9_stand_191 rfl rfl ((h.2 c1).1) ?_
      refine ru_iast (n := 40) dX9_stand_192 rfl rfl ((h.2 c1).1) ?_
      refine mK_aload_n dX9_stand_193 rfl rfl (.tail _ (.tail _ (.head _))) ?_
      refine mK_iload dX9_stand_194 rfl (.tail _ (.tail _ (.tail _ (.tail _ (.tail _ (.head _)))))) ?_
      refine mK_iload_n dX9_stand_196 rfl rfl (.tail _ (.tail _ (.tail _ (.head _)))) ?_
      refine mK_iconst dX9_stand_197 rfl qic_1 ?_
      refine mK_iadd dX9_stand_198 rfl ?_
      refine ru_iast (n := 40) dX9_stand_199 rfl rfl ((h.2 c1).1) ?_
      refine mK_iconst dX9_stand_200 rfl qic_1 ?_
      refine ru_istore (lv1 := [(0, .ref 26), (1, .ref 52), (2, .ref 53), (3, .int x3), (4, .int 1), (5, .int x5)]) dX9_stand_201 rfl (by decide) rfl ?_
      refine ru_iinc (lv1 := [(0, .ref 26), (1, .ref 52), (2, .ref 53), (3, .int x3), (4, .int 1), (5, .int (x5 + 1))]) dX9_stand_203 rfl (.tail _ (.tail _ (.tail _ (.tail _ (.tail _ (.head _)))))) qic_1 (by decide) rfl ?_
      refine mK_goto (tgt := 157) dX9_stand_206 (by decide) ?_
      exact ((h.2 c1).2.2 c3)
    · refine mK_goto (tgt := 203) dX9_stand_179 (by decide) ?_
      refine ru_iinc (lv1 := [(0, .ref 26), (1, .ref 52), (2, .ref 53), (3, .int x3), (4, .int x4), (5, .int (x5 + 1))]) dX9_stand_203 rfl (.tail _ (.tail _ (.tail _ (.tail _ (.tail _ (.head _)))))) qic_1 (by decide) rfl ?_
      refine mK_goto (tgt := 157) dX9_stand_206 (by decide) ?_
      exact ((h.2 c1).2.1 c3)
set_option maxRecDepth 20000 in
theorem T_X9_stand_26_52_53_143a {Γ : Nat × (Nat → Int32)} {d n0 bc bs : Nat} {Q : mQ} {σ : mS} (x3 : Int32) (x4 : Int32) (x5 : Int32) (y0 : Int32) (r : Int32) (h : ((vp_in y0 40) ∧ mK Γ M_X9_stand (d + 2) Q n0 bc bs 111 [(0, .ref 26), (1, .ref 52), (2, .ref 53), (3, .int x3), (4, .int x4), (5, .int (x5 + 1))] [] 60 mSH (mPI σ 58 (y0).toNatClampNeg r))) : mRt Γ M_X9_stand (d + 2) Q n0 bc bs 143 [(0, .ref 26), (1, .ref 52), (2, .ref 53), (3, .int x3), (4, .int x4), (5, .int x5)] [.int y0, .ref 58] (.inl (some (.int r))) 60 mSH σ := by
  show mK Γ M_X9_stand (d + 2) Q n0 bc bs 143 [(0, .ref 26), (1, .ref 52), (2, .ref 53), (3, .int x3), (4, .int x4), (5, .int x5)] [.int r, .int y0, .ref 58] 60 mSH σ
  refine mK_goto (tgt := 147) dX9_stand_143 (by decide) ?_
  refine ru_iast (n := 40) dX9_stand_147 rfl rfl (h.1) ?_
  refine ru_iinc (lv1 := [(0, .ref 26), (1, .ref 52), (2, .ref 53), (3, .int x3), (4, .int x4), (5, .int (x5 + 1))]) dX9_stand_148 rfl (.tail _ (.tail _ (.tail _ (.tail _ (.tail _ (.head _)))))) qic_1 (by decide) rfl ?_
  refine mK_goto (tgt := 111) dX9_stand_151 (by decide) ?_
  exact h.2
set_option maxRecDepth 20000 in
theorem E_X9_stand_26_54_55 {Γ : Nat × (Nat → Int32)} {d : Nat} {Q : mQ} {σ : mS} (h : mK Γ M_X9_stand (d + 2) Q 60 0 0 2 [(0, .ref 26), (1, .ref 54), (2, .ref 55), (3, .int 0)] [] 60 mSH σ) : mCall Γ M_X9_stand (d + 2) 0 0 [.ref 26, .ref 54, .ref 55] 60 mSH σ Q := by
  refine mCall_of rfl (by decide) (Nat.le_of_ble_eq_true rfl) (mOkC (mOk_lo (Nat.le_of_ble_eq_true rfl)) (mOkC (mOk_lo (Nat.le_of_ble_eq_true rfl)) (mOkC (mOk_lo (Nat.le_of_ble_eq_true rfl)) mOkN))) ?_
  show mK Γ M_X9_stand (d + 2) Q 60 0 0 0 [(0, .ref 26), (1, .ref 54), (2, .ref 55)] [] 60 mSH σ
  refine mK_iconst dX9_stand_0 rfl qic_0 ?_
  refine ru_istore_n (lv1 := [(0, .ref 26), (1, .ref 54), (2, .ref 55), (3, .int 0)]) dX9_stand_1 rfl rfl (by decide) rfl ?_
  exact h
set_option maxRecDepth 20000 in
theorem T_X9_stand_26_54_55_2 {Γ : Nat × (Nat → Int32)} {d n0 bc bs : Nat} {Q : mQ} {σ : mS} (x3 : Int32) (h : (((σ.1 32 3) ≤ x3 → mK Γ M_X9_stand (d + 2) Q n0 bc bs 44 [(0, .ref 26), (1, .ref 54), (2, .ref 55), (3, .int ((σ.1 32 3) - 1))] [] 60 mSH σ) ∧ (¬ ((σ.1 32 3) ≤ x3) → ((vp_in x3 40) ∧ mK Γ M_X9_stand (d + 2) Q n0 bc bs 2 [(0, .ref 26), (1, .ref 54), (2, .ref 55), (3, .int (x3 + 1))] [] 60 mSH (mPI (mPI (mPI σ 56 (x3).toNatClampNeg (-1)) 54 (x3).toNatClampNeg 0) 55 (x3).toNatClampNeg 0))))) : mK Γ M_X9_stand (d + 2) Q n0 bc bs 2 [(0, .ref 26), (1, .ref 54), (2, .ref 55), (3, .int x3)] [] 60 mSH σ := by
  refine mK_iload_n dX9_stand_2 rfl rfl (.tail _ (.tail _ (.tail _ (.head _)))) ?_
  refine mK_aload_n dX9_stand_3 rfl rfl (.head _) ?_
  refine ru_getR (k := 11) (ci := 8) (a := 32) dX9_stand_4 rfl rfl rfl kw_1138 ?_
  refine ru_getIN (k := 3) (ci := 7) dX9_stand_7 rfl rfl kn_1086 ?_
  refine mK_icmp_ge (tgt := 34) dX9_stand_10 rfl (by decide) (fun c1 => ?_) (fun c1 => ?_)
  · refine mK_aload_n dX9_stand_34 rfl rfl (.head _) ?_
    refine ru_getR (k := 11) (ci := 8) (a := 32) dX9_stand_35 rfl rfl rfl kw_1138 ?_
    refine ru_getIN (k := 3) (ci := 7) dX9_stand_38 rfl rfl kn_1086 ?_
    refine mK_iconst dX9_stand_41 rfl qic_1 ?_
    refine mK_isub dX9_stand_42 rfl ?_
    refine ru_istore_n (lv1 := [(0, .ref 26), (1, .ref 54), (2, .ref 55), (3, .int ((σ.1 32 3) - 1))]) dX9_stand_43 rfl rfl (by decide) rfl ?_
    exact (h.1 c1)
  · refine mK_aload_n dX9_stand_13 rfl rfl (.head _) ?_
    refine ru_getR (k := 21) (ci := 8) (a := 56) dX9_stand_14 rfl rfl rfl kw_1148 ?_
    refine mK_iload_n dX9_stand_17 rfl rfl (.tail _ (.tail _ (.tail _ (.head _)))) ?_
    refine mK_iconst dX9_stand_18 rfl qic_m1 ?_
    refine ru_iast (n := 40) dX9_stand_19 rfl rfl ((h.2 c1).1) ?_
    refine mK_aload_n dX9_stand_20 rfl rfl (.tail _ (.head _)) ?_
    refine mK_iload_n dX9_stand_21 rfl rfl (.tail _ (.tail _ (.tail _ (.head _)))) ?_
    refine mK_iconst dX9_stand_22 rfl qic_0 ?_
    refine ru_iast (n := 40) dX9_stand_23 rfl rfl ((h.2 c1).1) ?_
    refine mK_aload_n dX9_stand_24 rfl rfl (.tail _ (.tail _ (.head _))) ?_
    refine mK_iload_n dX9_stand_25 rfl rfl (.tail _ (.tail _ (.tail _ (.head _)))) ?_
    refine mK_iconst dX9_stand_26 rfl qic_0 ?_
    refine ru_iast (n := 40) dX9_stand_27 rfl rfl ((h.2 c1).1) ?_
    refine ru_iinc (lv1 := [(0, .ref 26), (1, .ref 54), (2, .ref 55), (3, .int (x3 + 1))]) dX9_stand_28 rfl (.tail _ (.tail _ (.tail _ (.head _)))) qic_1 (by decide) rfl ?_
    refine mK_goto (tgt := 2) dX9_stand_31 (by decide) ?_
    exact (h.2 c1).2
set_option maxRecDepth 20000 in
theorem T_X9_stand_26_54_55_44 {Γ : Nat × (Nat → Int32)} {d n0 bc bs : Nat} {Q : mQ} {σ : mS} (x3 : Int32) (h : ((x3 < 0 → mK Γ M_X9_stand (d + 2) Q n0 bc bs 105 [(0, .ref 26), (1, .ref 54), (2, .ref 55), (3, .int 0)] [] 60 mSH σ) ∧ (¬ (x3 < 0) → ((vp_in x3 40) ∧ ((((σ.1 36 (x3).toNatClampNeg) = 1) → vp_in (σ.1 40 (x3).toNatClampNeg) 40) ∧ (((f_X8_isStrong_32 σ x3) = 0 → mK Γ M_X9_stand (d + 2) Q n0 bc bs 44 [(0, .ref 26), (1, .ref 54), (2, .ref 55), (3, .int (x3 + (-1)))] [] 60 mSH σ) ∧ (¬ ((f_X8_isStrong_32 σ x3) = 0) → ((vp_in (σ.1 40 (x3).toNatClampNeg) 40) ∧ mK Γ M_X9_stand (d + 2) Q n0 bc bs 44 [(0, .ref 26), (1, .ref 54), (2, .ref 55), (3, .int (x3 + (-1)))] [] 60 mSH (mPI (mPI σ 57 (x3).toNatClampNeg (σ.1 56 (σ.1 40 (x3).toNatClampNeg).toNatClampNeg)) 56 (σ.1 40 (x3).toNatClampNeg).toNatClampNeg x3))))))))) : mK Γ M_X9_stand (d + 2) Q n0 bc bs 44 [(0, .ref 26), (1, .ref 54), (2, .ref 55), (3, .int x3)] [] 60 mSH σ := by
  refine mK_iload_n dX9_stand_44 rfl rfl (.tail _ (.tail _ (.tail _ (.head _)))) ?_
  refine mK_if_lt (tgt := 103) dX9_stand_45 rfl (by decide) (fun c1 => ?_) (fun c1 => ?_)
  · refine mK_iconst dX9_stand_103 rfl qic_0 ?_
    refine ru_istore_n (lv1 := [(0, .ref 26), (1, .ref 54), (2, .ref 55), (3, .int 0)]) dX9_stand_104 rfl rfl (by decide) rfl ?_
    exact (h.1 c1)
  · refine mK_aload_n dX9_stand_48 rfl rfl (.head _) ?_
    refine ru_getR (k := 11) (ci := 8) (a := 32) dX9_stand_49 rfl rfl rfl kw_1138 ?_
    refine mK_iload_n dX9_stand_52 rfl rfl (.tail _ (.tail _ (.tail _ (.head _)))) ?_
    refine mK_invV (J := M_X8_isStrong) (k := 1) (as := [.int x3]) (st := []) (c1 := 0) (s1 := 0) dX9_stand_53 rfl jw_X8_isStrong jn_X8_isStrong rfl (Nat.le_of_ble_eq_true rfl) (Nat.zero_le _) (Nat.zero_le _) rfl kw_1429 kw_1430 kw_1431 (b := 32) (Nat.le_of_ble_eq_true rfl) (Nat.le_of_ble_eq_true rfl) rfl ?_
    refine S_X8_isStrong_32 x3 ((h.2 c1).1) ((h.2 c1).2.1) ?_
    show mK Γ M_X9_stand (d + 2) Q n0 bc bs 56 [(0, .ref 26), (1, .ref 54), (2, .ref 55), (3, .int x3)] [.int (f_X8_isStrong_32 σ x3)] 60 mSH σ
    refine ru_if_ne (tgt := 62) dX9_stand_56 rfl (by decide) (fun c2 => ?_) (fun c2 => ?_)
    · refine mK_aload_n dX9_stand_62 rfl rfl (.head _) ?_
      refine ru_getR (k := 22) (ci := 8) (a := 57) dX9_stand_63 rfl rfl rfl kw_1149 ?_
      refine mK_iload_n dX9_stand_66 rfl rfl (.tail _ (.tail _ (.tail _ (.head _)))) ?_
      refine mK_aload_n dX9_stand_67 rfl rfl (.head _) ?_
      refine ru_getR (k := 21) (ci := 8) (a := 56) dX9_stand_68 rfl rfl rfl kw_1148 ?_
      refine mK_aload_n dX9_stand_71 rfl rfl (.head _) ?_
      refine ru_getR (k := 11) (ci := 8) (a := 32) dX9_stand_72 rfl rfl rfl kw_1138 ?_
      refine ru_getRN (k := 9) (ci := 7) (a := 40) dX9_stand_75 rfl rfl rfl kn_1098 ?_
      refine mK_iload_n dX9_stand_78 rfl rfl (.tail _ (.tail _ (.tail _ (.head _)))) ?_
      refine ru_iald (n := 40) dX9_stand_79 rfl rfl ((h.2 c1).1) ?_
      refine ru_iald (n := 40) dX9_stand_80 rfl rfl (((h.2 c1).2.2.2 c2).1) ?_
      refine ru_iast (n := 40) dX9_stand_81 rfl rfl ((h.2 c1).1) ?_
      refine mK_aload_n dX9_stand_82 rfl rfl (.head _) ?_
      refine ru_getR (k := 21) (ci := 8) (a := 56) dX9_stand_83 rfl rfl rfl kw_1148 ?_
      refine mK_aload_n dX9_stand_86 rfl rfl (.head _) ?_
      refine ru_getR (k := 11) (ci := 8) (a := 32) dX9_stand_87 rfl rfl rfl kw_1138 ?_
      refine ru_getRN (k := 9) (ci := 7) (a := 40) dX9_stand_90 rfl rfl rfl kn_1098 ?_
      refine mK_iload_n dX9_stand_93 rfl rfl (.tail _ (.tail _ (.tail _ (.head _)))) ?_
      refine ru_iald (n := 40) dX9_stand_94 rfl rfl ((h.2 c1).1) ?_
      refine mK_iload_n dX9_stand_95 rfl rfl (.tail _ (.tail _ (.tail _ (.head _)))) ?_
      refine ru_iast (n := 40) dX9_stand_96 rfl rfl (((h.2 c1).2.2.2 c2).1) ?_
      refine ru_iinc (lv1 := [(0, .ref 26), (1, .ref 54), (2, .ref 55), (3, .int (x3 + (-1)))]) dX9_stand_97 rfl (.tail _ (.tail _ (.tail _ (.head _)))) qic_m1 (by decide) rfl ?_
      refine mK_goto (tgt := 44) dX9_stand_100 (by decide) ?_
      exact ((h.2 c1).2.2.2 c2).2
    · refine mK_goto (tgt := 97) dX9_stand_59 (by decide) ?_
      refine ru_iinc (lv1 := [(0, .ref 26), (1, .ref 54), (2, .ref 55), (3, .int (x3 + (-1)))]) dX9_stand_97 rfl (.tail _ (.tail _ (.tail _ (.head _)))) qic_m1 (by decide) rfl ?_
      refine mK_goto (tgt := 44) dX9_stand_100 (by decide) ?_
      exact ((h.2 c1).2.2.1 c2)
set_option maxRecDepth 20000 in
theorem T_X9_stand_26_54_55_105 {Γ : Nat × (Nat → Int32)} {d n0 bc bs : Nat} {Q : mQ} {σ : mS} (x3 : Int32) (h : mK Γ M_X9_stand (d + 2) Q n0 bc bs 111 [(0, .ref 26), (1, .ref 54), (2, .ref 55), (3, .int x3), (4, .int 0), (5, .int 0)] [] 60 mSH σ) : mK Γ M_X9_stand (d + 2) Q n0 bc bs 105 [(0, .ref 26), (1, .ref 54), (2, .ref 55), (3, .int x3)] [] 60 mSH σ := by
  refine mK_iconst dX9_stand_105 rfl qic_0 ?_
  refine ru_istore (lv1 := [(0, .ref 26), (1, .ref 54), (2, .ref 55), (3, .int x3), (4, .int 0)]) dX9_stand_106 rfl (by decide) rfl ?_
  refine mK_iconst dX9_stand_108 rfl qic_0 ?_
  refine ru_istore (lv1 := [(0, .ref 26), (1, .ref 54), (2, .ref 55), (3, .int x3), (4, .int 0), (5, .int 0)]) dX9_stand_109 rfl (by decide) rfl ?_
  exact h
set_option maxRecDepth 20000 in
theorem T_X9_stand_26_54_55_111 {Γ : Nat × (Nat → Int32)} {d n0 bc bs : Nat} {Q : mQ} {σ : mS} (x3 : Int32) (x4 : Int32) (x5 : Int32) (h : (((σ.1 32 3) ≤ x5 → mK Γ M_X9_stand (d + 2) Q n0 bc bs 157 [(0, .ref 26), (1, .ref 54), (2, .ref 55), (3, .int x3), (4, .int x4), (5, .int 0)] [] 60 mSH σ) ∧ (¬ ((σ.1 32 3) ≤ x5) → ((vp_in x5 40) ∧ (((σ.1 54 (x5).toNatClampNeg) = 0 → mCall Γ M_X9_finds (d + 1) 0 0 [.ref 26, .int x5, .ref 54] 60 mSH σ (mRt Γ M_X9_stand (d + 2) Q n0 bc bs 143 [(0, .ref 26), (1, .ref 54), (2, .ref 55), (3, .int x3), (4, .int x4), (5, .int x5)] [.int x5, .ref 58])) ∧ (¬ ((σ.1 54 (x5).toNatClampNeg) = 0) → mK Γ M_X9_stand (d + 2) Q n0 bc bs 111 [(0, .ref 26), (1, .ref 54), (2, .ref 55), (3, .int x3), (4, .int x4), (5, .int (x5 + 1))] [] 60 mSH (mPI σ 58 (x5).toNatClampNeg 0))))))) : mK Γ M_X9_stand (d + 2) Q n0 bc bs 111 [(0, .ref 26), (1, .ref 54), (2, .ref 55), (3, .int x3), (4, .int x4), (5, .int x5)] [] 60 mSH σ := by
  refine mK_iload dX9_stand_111 rfl (.tail _ (.tail _ (.tail _ (.tail _ (.tail _ (.head _)))))) ?_
  refine mK_aload_n dX9_stand_113 rfl rfl (.head _) ?_
  refine ru_getR (k := 11) (ci := 8) (a := 32) dX9_stand_114 rfl rfl rfl kw_1138 ?_
  refine ru_getIN (k := 3) (ci := 7) dX9_stand_117 rfl rfl kn_1086 ?_
  refine mK_icmp_ge (tgt := 154) dX9_stand_120 rfl (by decide) (fun c1 => ?_) (fun c1 => ?_)
  · refine mK_iconst dX9_stand_154 rfl qic_0 ?_
    refine ru_istore (lv1 := [(0, .ref 26), (1, .ref 54), (2, .ref 55), (3, .int x3), (4, .int x4), (5, .int 0)]) dX9_stand_155 rfl (by decide) rfl ?_
    exact (h.1 c1)
  · refine mK_aload_n dX9_stand_123 rfl rfl (.head _) ?_
    refine ru_getR (k := 23) (ci := 8) (a := 58) dX9_stand_124 rfl rfl rfl kw_1150 ?_
    refine mK_iload dX9_stand_127 rfl (.tail _ (.tail _ (.tail _ (.tail _ (.tail _ (.head _)))))) ?_
    refine mK_aload_n dX9_stand_129 rfl rfl (.tail _ (.head _)) ?_
    refine mK_iload dX9_stand_130 rfl (.tail _ (.tail _ (.tail _ (.tail _ (.tail _ (.head _)))))) ?_
    refine ru_iald (n := 40) dX9_stand_132 rfl rfl ((h.2 c1).1) ?_
    refine ru_if_ne (tgt := 146) dX9_stand_133 rfl (by decide) (fun c2 => ?_) (fun c2 => ?_)
    · refine mK_iconst dX9_stand_146 rfl qic_0 ?_
      refine ru_iast (n := 40) dX9_stand_147 rfl rfl ((h.2 c1).1) ?_
      refine ru_iinc (lv1 := [(0, .ref 26), (1, .ref 54), (2, .ref 55), (3, .int x3), (4, .int x4), (5, .int (x5 + 1))]) dX9_stand_148 rfl (.tail _ (.tail _ (.tail _ (.tail _ (.tail _ (.head _)))))) qic_1 (by decide) rfl ?_
      refine mK_goto (tgt := 111) dX9_stand_151 (by decide) ?_
      exact ((h.2 c1).2.2 c2)
    · refine mK_aload_n dX9_stand_136 rfl rfl (.head _) ?_
      refine mK_iload dX9_stand_137 rfl (.tail _ (.tail _ (.tail _ (.tail _ (.tail _ (.head _)))))) ?_
      refine mK_aload_n dX9_stand_139 rfl rfl (.tail _ (.head _)) ?_
      refine mK_invV (J := M_X9_finds) (k := 2) (as := [.int x5, .ref 54]) (st := [.int x5, .ref 58]) (c1 := 0) (s1 := 0) dX9_stand_140 rfl jw_X9_finds jn_X9_finds rfl (Nat.le_of_ble_eq_true rfl) (Nat.zero_le _) (Nat.zero_le _) rfl kw_1433 kw_1435 kw_64 (b := 26) (Nat.le_of_ble_eq_true rfl) (Nat.le_of_ble_eq_true rfl) rfl ?_
      exact ((h.2 c1).2.1 c2)
set_option maxRecDepth 20000 in
theorem T_X9_stand_26_54_55_157 {Γ : Nat × (Nat → Int32)} {d n0 bc bs : Nat} {Q : mQ} {σ : mS} (x3 : Int32) (x4 : Int32) (x5 : Int32) (h : (((σ.1 32 3) ≤ x5 → ((x4 = 0 → Q (.inl (some (.int x3))) 60 mSH σ) ∧ (¬ (x4 = 0) → mK Γ M_X9_stand (d + 2) Q n0 bc bs 105 [(0, .ref 26), (1, .ref 54), (2, .ref 55), (3, .int (x3 + 1))] [] 60 mSH σ))) ∧ (¬ ((σ.1 32 3) ≤ x5) → ((vp_in x5 40) ∧ (((σ.1 58 (x5).toNatClampNeg) = 0 → mK Γ M_X9_stand (d + 2) Q n0 bc bs 157 [(0, .ref 26), (1, .ref 54), (2, .ref 55), (3, .int x3), (4, .int x4), (5, .int (x5 + 1))] [] 60 mSH σ) ∧ (¬ ((σ.1 58 (x5).toNatClampNeg) = 0) → mK Γ M_X9_stand (d + 2) Q n0 bc bs 157 [(0, .ref 26), (1, .ref 54), (2, .ref 55), (3, .int x3), (4, .int 1), (5, .int (x5 + 1))] [] 60 mSH (mPI (mPI σ 54 (x5).toNatClampNeg (σ.1 58 (x5).toNatClampNeg)) 55 (x5).toNatClampNeg (x3 + 1)))))))) : mK Γ M_X9_stand (d + 2) Q n0 bc bs 157 [(0, .ref 26), (1, .ref 54), (2, .ref 55), (3, .int x3), (4, .int x4), (5, .int x5)] [] 60 mSH σ := by
  refine mK_iload dX9_stand_157 rfl (.tail _ (.tail _ (.tail _ (.tail _ (.tail _ (.head _)))))) ?_
  refine mK_aload_n dX9_stand_159 rfl rfl (.head _) ?_
  refine ru_getR (k := 11) (ci := 8) (a := 32) dX9_stand_160 rfl rfl rfl kw_1138 ?_
  refine ru_getIN (k := 3) (ci := 7) dX9_stand_163 rfl rfl kn_1086 ?_
  refine mK_icmp_ge (tgt := 209) dX9_stand_166 rfl (by decide) (fun c1 => ?_) (fun c1 => ?_)
  · refine mK_iload dX9_stand_209 rfl (.tail _ (.tail _ (.tail _ (.tail _ (.head _))))) ?_
    refine ru_if_ne (tgt := 216) dX9_stand_211 rfl (by decide) (fun c2 => ?_) (fun c2 => ?_)
    · refine ru_iinc (lv1 := [(0, .ref 26), (1, .ref 54), (2, .ref 55), (3, .int (x3 + 1)), (4, .int x4), (5, .int x5)]) dX9_stand_216 rfl (.tail _ (.tail _ (.tail _ (.head _)))) qic_1 (by decide) rfl ?_
      refine mK_goto (tgt := 105) dX9_stand_219 (by decide) ?_
      exact ru_pick [0, 1, 2, 3] rfl ((h.1 c1).2 c2)
    · refine mK_iload_n dX9_stand_214 rfl rfl (.tail _ (.tail _ (.tail _ (.head _)))) ?_
      exact mK_iret dX9_stand_215 rfl ((h.1 c1).1 c2)
  · refine mK_aload_n dX9_stand_169 rfl rfl (.head _) ?_
    refine ru_getR (k := 23) (ci := 8) (a := 58) dX9_stand_170 rfl rfl rfl kw_1150 ?_
    refine mK_iload dX9_stand_173 rfl (.tail _ (.tail _ (.tail _ (.tail _ (.tail _ (.head _)))))) ?_
    refine ru_iald (n := 40) dX9_stand_175 rfl rfl ((h.2 c1).1) ?_
    refine ru_if_ne (tgt := 182) dX9_stand_176 rfl (by decide) (fun c3 => ?_) (fun c3 => ?_)
    · refine mK_aload_n dX9_stand_182 rfl rfl (.tail _ (.head _)) ?_
      refine mK_iload dX9_stand_183 rfl (.tail _ (.tail _ (.tail _ (.tail _ (.tail _ (.head _)))))) ?_
      refine mK_aload_n dX9_stand_185 rfl rfl (.head _) ?_
      refine ru_getR (k := 23) (ci := 8) (a := 58) dX9_stand_186 rfl rfl rfl kw_1150 ?_
      refine mK_iload dX9_stand_189 rfl (.tail _ (.tail _ (.tail _ (.tail _ (.tail _ (.head _)))))) ?_
      refine ru_iald (n := 40) dX9_stand_191 rfl rfl ((h.2 c1).1) ?_
      refine ru_iast (n := 40) dX9_stand_192 rfl rfl ((h.2 c1).1) ?_
      refine mK_aload_n dX9_stand_193 rfl rfl (.tail _ (.tail _ (.head _))) ?_
      refine mK_iload dX9_stand_194 rfl (.tail _ (.tail _ (.tail _ (.tail _ (.tail _ (.head _)))))) ?_
      refine mK_iload_n dX9_stand_196 rfl rfl (.tail _ (.tail _ (.tail _ (.head _)))) ?_
      refine mK_iconst dX9_stand_197 rfl qic_1 ?_
      refine mK_iadd dX9_stand_198 rfl ?_
      refine ru_iast (n := 40) dX9_stand_199 rfl rfl ((h.2 c1).1) ?_
      refine mK_iconst dX9_stand_200 rfl qic_1 ?_
      refine ru_istore (lv1 := [(0, .ref 26), (1, .ref 54), (2, .ref 55), (3, .int x3), (4, .int 1), (5, .int x5)]) dX9_stand_201 rfl (by decide) rfl ?_
      refine ru_iinc (lv1 := [(0, .ref 26), (1, .ref 54), (2, .ref 55), (3, .int x3), (4, .int 1), (5, .int (x5 + 1))]) dX9_stand_203 rfl (.tail _ (.tail _ (.tail _ (.tail _ (.tail _ (.head _)))))) qic_1 (by decide) rfl ?_
      refine mK_goto (tgt := 157) dX9_stand_206 (by decide) ?_
      exact ((h.2 c1).2.2 c3)
    · refine mK_goto (tgt := 203) dX9_stand_179 (by decide) ?_
      refine ru_iinc (lv1 := [(0, .ref 26), (1, .ref 54), (2, .ref 55), (3, .int x3), (4, .int x4), (5, .int (x5 + 1))]) dX9_stand_203 rfl (.tail _ (.tail _ (.tail _ (.tail _ (.tail _ (.head _)))))) qic_1 (by decide) rfl ?_
      refine mK_goto (tgt := 157) dX9_stand_206 (by decide) ?_
      exact ((h.2 c1).2.1 c3)
set_option maxRecDepth 20000 in
theorem T_X9_stand_26_54_55_143a {Γ : Nat × (Nat → Int32)} {d n0 bc bs : Nat} {Q : mQ} {σ : mS} (x3 : Int32) (x4 : Int32) (x5 : Int32) (y0 : Int32) (r : Int32) (h : ((vp_in y0 40) ∧ mK Γ M_X9_stand (d + 2) Q n0 bc bs 111 [(0, .ref 26), (1, .ref 54), (2, .ref 55), (3, .int x3), (4, .int x4), (5, .int (x5 + 1))] [] 60 mSH (mPI σ 58 (y0).toNatClampNeg r))) : mRt Γ M_X9_stand (d + 2) Q n0 bc bs 143 [(0, .ref 26), (1, .ref 54), (2, .ref 55), (3, .int x3), (4, .int x4), (5, .int x5)] [.int y0, .ref 58] (.inl (some (.int r))) 60 mSH σ := by
  show mK Γ M_X9_stand (d + 2) Q n0 bc bs 143 [(0, .ref 26), (1, .ref 54), (2, .ref 55), (3, .int x3), (4, .int x4), (5, .int x5)] [.int r, .int y0, .ref 58] 60 mSH σ
  refine mK_goto (tgt := 147) dX9_stand_143 (by decide) ?_
  refine ru_iast (n := 40) dX9_stand_147 rfl rfl (h.1) ?_
  refine ru_iinc (lv1 := [(0, .ref 26), (1, .ref 54), (2, .ref 55), (3, .int x3), (4, .int x4), (5, .int (x5 + 1))]) dX9_stand_148 rfl (.tail _ (.tail _ (.tail _ (.tail _ (.tail _ (.head _)))))) qic_1 (by decide) rfl ?_
  refine mK_goto (tgt := 111) dX9_stand_151 (by decide) ?_
  exact h.2
