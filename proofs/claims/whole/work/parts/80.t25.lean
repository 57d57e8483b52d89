
set_option maxRecDepth 20000 in
theorem E_X5_takeSingle_25 {Γ : Nat × (Nat → Int32)} {d : Nat} {Q : mQ} {σ : mS} (a1 : Int32) (h : mCall Γ M_X6_kindAt (d + 1) 0 0 [.ref 20, .int (σ.1 25 3)] 60 mSH σ (mRt Γ M_X5_takeSingle (d + 2) Q 60 0 0 11 [(0, .ref 25), (1, .int a1)] [])) : mCall Γ M_X5_takeSingle (d + 2) 0 0 [.ref 25, .int a1] 60 mSH σ Q := by
  refine mCall_of rfl (by decide) (Nat.le_of_ble_eq_true rfl) (mOkC (mOk_lo (Nat.le_of_ble_eq_true rfl)) (mOkC mOk_i mOkN)) ?_
  show mK Γ M_X5_takeSingle (d + 2) Q 60 0 0 0 [(0, .ref 25), (1, .int a1)] [] 60 mSH σ
  refine mK_aload_n dX5_takeSingle_0 rfl rfl (.head _) ?_
  refine ru_getR (k := 0) (ci := 4) (a := 20) dX5_takeSingle_1 rfl rfl rfl kw_262 ?_
  refine mK_aload_n dX5_takeSingle_4 rfl rfl (.head _) ?_
  refine ru_getI (k := 3) (ci := 4) dX5_takeSingle_5 rfl rfl kw_265 ?_
  refine mK_invV (J := M_X6_kindAt) (k := 1) (as := [.int (σ.1 25 3)]) (st := []) (c1 := 0) (s1 := 0) dX5_takeSingle_8 rfl jw_X6_kindAt jn_X6_kindAt rfl (Nat.le_of_ble_eq_true rfl) (Nat.zero_le _) (Nat.zero_le _) rfl kw_484 kw_379 kw_380 (b := 20) (Nat.le_of_ble_eq_true rfl) (Nat.le_of_ble_eq_true rfl) rfl ?_
  exact h
set_option maxRecDepth 20000 in
theorem T_X5_takeSingle_25_11a {Γ : Nat × (Nat → Int32)} {d n0 bc bs : Nat} {Q : mQ} {σ : mS} (x1 : Int32) (r : Nat) (ha_r : 1000 ≤ r ∧ r < 1028) (h : ((6 ≤ x1 → mCall Γ M_X5_seeItem (d + 1) 0 0 [.ref 25] 60 mSH (mPI σ 25 3 ((σ.1 25 3) + 1)) (mRt Γ M_X5_takeSingle (d + 2) Q n0 bc bs 88 [(0, .ref 25), (1, .int x1), (2, .ref r)] [])) ∧ (¬ (6 ≤ x1) → ((r = 1018 → mCall Γ M_X5_takeSingle (d + 1) 0 0 [.ref 25, .int (x1 + 1)] 60 mSH (mPI σ 25 3 ((σ.1 25 3) + 1)) (mRt Γ M_X5_takeSingle (d + 2) Q n0 bc bs 42 [(0, .ref 25), (1, .int x1), (2, .ref r)] [])) ∧ (¬ (r = 1018) → ((r = 1021 → mCall Γ M_X5_takeTest (d + 1) 0 0 [.ref 25, .int (x1 + 1)] 60 mSH (mPI σ 25 3 ((σ.1 25 3) + 1)) (mRt Γ M_X5_takeSingle (d + 2) Q n0 bc bs 71 [(0, .ref 25), (1, .int x1), (2, .ref r)] [])) ∧ (¬ (r = 1021) → mCall Γ M_X5_seeItem (d + 1) 0 0 [.ref 25] 60 mSH (mPI σ 25 3 ((σ.1 25 3) + 1)) (mRt Γ M_X5_takeSingle (d + 2) Q n0 bc bs 88 [(0, .ref 25), (1, .int x1), (2, .ref r)] [])))))))) : mRt Γ M_X5_takeSingle (d + 2) Q n0 bc bs 11 [(0, .ref 25), (1, .int x1)] [] (.inl (some (.ref r))) 60 mSH σ := by
  show mK Γ M_X5_takeSingle (d + 2) Q n0 bc bs 11 [(0, .ref 25), (1, .int x1)] [.ref r] 60 mSH σ
  refine ru_astore_n (lv1 := [(0, .ref 25), (1, .int x1), (2, .ref r)]) dX5_takeSingle_11 rfl rfl (by decide) rfl ?_
  refine mK_aload_n dX5_takeSingle_12 rfl rfl (.head _) ?_
  refine mK_dup dX5_takeSingle_13 rfl rfl ?_
  refine ru_getI (k := 3) (ci := 4) dX5_takeSingle_14 rfl rfl kw_265 ?_
  refine mK_iconst dX5_takeSingle_17 rfl qic_1 ?_
  refine mK_iadd dX5_takeSingle_18 rfl ?_
  refine ru_putI (k := 3) (ci := 4) dX5_takeSingle_19 rfl rfl rfl kw_265 ?_
  refine mK_iload_n dX5_takeSingle_22 rfl rfl (.tail _ (.head _)) ?_
  refine mK_bipush dX5_takeSingle_23 rfl qbi_6 ?_
  refine mK_icmp_ge (tgt := 51) dX5_takeSingle_25 rfl (by decide) (fun c1 => ?_) (fun c1 => ?_)
  · refine mK_iload_n dX5_takeSingle_51 rfl rfl (.tail _ (.head _)) ?_
    refine mK_bipush dX5_takeSingle_52 rfl qbi_6 ?_
    refine mK_icmp_ge (tgt := 84) dX5_takeSingle_54 rfl (by decide) (fun c2 => ?_) (fun c2 => ?_)
    · refine mK_aload_n dX5_takeSingle_84 rfl rfl (.head _) ?_
      refine mK_invV (J := M_X5_seeItem) (k := 0) (as := []) (st := []) (c1 := 0) (s1 := 0) dX5_takeSingle_85 rfl jw_X5_seeItem jn_X5_seeItem rfl (Nat.le_of_ble_eq_true rfl) (Nat.zero_le _) (Nat.zero_le _) rfl kw_579 kw_581 kw_22 (b := 25) (Nat.le_of_ble_eq_true rfl) (Nat.le_of_ble_eq_true rfl) rfl ?_
      exact (h.1 c1)
    · exact absurd c1 c2
  · refine mK_aload_n dX5_takeSingle_28 rfl rfl (.tail _ (.tail _ (.head _))) ?_
    refine mK_getE (i := 18) dX5_takeSingle_29 rfl (by decide) kw_652 ?_
    refine ru_acmp_ne (tgt := 51) dX5_takeSingle_32 rfl (by decide) ha_r (by decide) (fun c3 => ?_) (fun c3 => ?_)
    · refine mK_aload_n dX5_takeSingle_35 rfl rfl (.head _) ?_
      refine mK_iload_n dX5_takeSingle_36 rfl rfl (.tail _ (.head _)) ?_
      refine mK_iconst dX5_takeSingle_37 rfl qic_1 ?_
      refine mK_iadd dX5_takeSingle_38 rfl ?_
      refine mK_invV (J := M_X5_takeSingle) (k := 1) (as := [.int (x1 + 1)]) (st := []) (c1 := 0) (s1 := 0) dX5_takeSingle_39 rfl jw_X5_takeSingle jn_X5_takeSingle rfl (Nat.le_of_ble_eq_true rfl) (Nat.zero_le _) (Nat.zero_le _) rfl kw_648 kw_650 kw_27 (b := 25) (Nat.le_of_ble_eq_true rfl) (Nat.le_of_ble_eq_true rfl) rfl ?_
      exact ((h.2 c1).1 c3)
    · refine mK_iload_n dX5_takeSingle_51 rfl rfl (.tail _ (.head _)) ?_
      refine mK_bipush dX5_takeSingle_52 rfl qbi_6 ?_
      refine mK_icmp_ge (tgt := 84) dX5_takeSingle_54 rfl (by decide) (fun c4 => ?_) (fun c4 => ?_)
      · exact absurd c4 c1
      · refine mK_aload_n dX5_takeSingle_57 rfl rfl (.tail _ (.tail _ (.head _))) ?_
        refine mK_getE (i := 21) dX5_takeSingle_58 rfl (by decide) kw_653 ?_
        refine ru_acmp_ne (tgt := 84) dX5_takeSingle_61 rfl (by decide) ha_r (by decide) (fun c5 => ?_) (fun c5 => ?_)
        · refine mK_aload_n dX5_takeSingle_64 rfl rfl (.head _) ?_
          refine mK_iload_n dX5_takeSingle_65 rfl rfl (.tail _ (.head _)) ?_
          refine mK_iconst dX5_takeSingle_66 rfl qic_1 ?_
          refine mK_iadd dX5_takeSingle_67 rfl ?_
          refine mK_invV (J := M_X5_takeTest) (k := 1) (as := [.int (x1 + 1)]) (st := []) (c1 := 0) (s1 := 0) dX5_takeSingle_68 rfl jw_X5_takeTest jn_X5_takeTest rfl (Nat.le_of_ble_eq_true rfl) (Nat.zero_le _) (Nat.zero_le _) rfl kw_640 kw_642 kw_25 (b := 25) (Nat.le_of_ble_eq_true rfl) (Nat.le_of_ble_eq_true rfl) rfl ?_
          exact (((h.2 c1).2 c3).1 c5)
        · refine mK_aload_n dX5_takeSingle_84 rfl rfl (.head _) ?_
          refine mK_invV (J := M_X5_seeItem) (k := 0) (as := []) (st := []) (c1 := 0) (s1 := 0) dX5_takeSingle_85 rfl jw_X5_seeItem jn_X5_seeItem rfl (Nat.le_of_ble_eq_true rfl) (Nat.zero_le _) (Nat.zero_le _) rfl kw_579 kw_581 kw_22 (b := 25) (Nat.le_of_ble_eq_true rfl) (Nat.le_of_ble_eq_true rfl) rfl ?_
          exact (((h.2 c1).2 c3).2 c5)
set_option maxRecDepth 20000 in
theorem T_X5_takeSingle_25_88a {Γ : Nat × (Nat → Int32)} {d n0 bc bs : Nat} {Q : mQ} {σ : mS} (x1 : Int32) (x2 : Nat) (r : Int32) (ha_x2 : 1000 ≤ x2 ∧ x2 < 1028) (h : ((x2 = 1017 → mCall Γ M_X0_isConceded (d + 1) 0 0 [.ref 5, .int r] 60 mSH (mPI σ 25 3 ((σ.1 25 3) + 1)) (mRt Γ M_X5_takeSingle (d + 2) Q n0 bc bs 114 [(0, .ref 25), (1, .int x1), (2, .ref x2), (3, .int r)] [])) ∧ (¬ (x2 = 1017) → mCall Γ M_X4_wordFor (d + 1) 0 0 [.ref 16, .int r] 60 mSH (mPI σ 25 3 ((σ.1 25 3) + 1)) (mRt Γ M_X5_takeSingle (d + 2) Q n0 bc bs 125 [(0, .ref 25), (1, .int x1), (2, .ref x2), (3, .int r)] [])))) : mRt Γ M_X5_takeSingle (d + 2) Q n0 bc bs 88 [(0, .ref 25), (1, .int x1), (2, .ref x2)] [] (.inl (some (.int r))) 60 mSH σ := by
  show mK Γ M_X5_takeSingle (d + 2) Q n0 bc bs 88 [(0, .ref 25), (1, .int x1), (2, .ref x2)] [.int r] 60 mSH σ
  refine ru_istore_n (lv1 := [(0, .ref 25), (1, .int x1), (2, .ref x2), (3, .int r)]) dX5_takeSingle_88 rfl rfl (by decide) rfl ?_
  refine mK_aload_n dX5_takeSingle_89 rfl rfl (.head _) ?_
  refine mK_dup dX5_takeSingle_90 rfl rfl ?_
  refine ru_getI (k := 3) (ci := 4) dX5_takeSingle_91 rfl rfl kw_265 ?_
  refine mK_iconst dX5_takeSingle_94 rfl qic_1 ?_
  refine mK_iadd dX5_takeSingle_95 rfl ?_
  refine ru_putI (k := 3) (ci := 4) dX5_takeSingle_96 rfl rfl rfl kw_265 ?_
  refine mK_aload_n dX5_takeSingle_99 rfl rfl (.tail _ (.tail _ (.head _))) ?_
  refine mK_getE (i := 17) dX5_takeSingle_100 rfl (by decide) kw_654 ?_
  refine ru_acmp_ne (tgt := 117) dX5_takeSingle_103 rfl (by decide) ha_x2 (by decide) (fun c1 => ?_) (fun c1 => ?_)
  · refine mK_aload_n dX5_takeSingle_106 rfl rfl (.head _) ?_
    refine ru_getR (k := 1) (ci := 4) (a := 5) dX5_takeSingle_107 rfl rfl rfl kw_263 ?_
    refine mK_iload_n dX5_takeSingle_110 rfl rfl (.tail _ (.tail _ (.tail _ (.head _)))) ?_
    refine mK_invV (J := M_X0_isConceded) (k := 1) (as := [.int r]) (st := []) (c1 := 0) (s1 := 0) dX5_takeSingle_111 rfl jw_X0_isConceded jn_X0_isConceded rfl (Nat.le_of_ble_eq_true rfl) (Nat.zero_le _) (Nat.zero_le _) rfl kw_655 kw_656 kw_657 (b := 5) (Nat.le_of_ble_eq_true rfl) (Nat.le_of_ble_eq_true rfl) rfl ?_
    exact (h.1 c1)
  · refine mK_aload_n dX5_takeSingle_117 rfl rfl (.head _) ?_
    refine ru_getR (k := 2) (ci := 4) (a := 16) dX5_takeSingle_118 rfl rfl rfl kw_264 ?_
    refine mK_iload_n dX5_takeSingle_121 rfl rfl (.tail _ (.tail _ (.tail _ (.head _)))) ?_
    refine mK_invV (J := M_X4_wordFor) (k := 1) (as := [.int r]) (st := []) (c1 := 0) (s1 := 0) dX5_takeSingle_122 rfl jw_X4_wordFor jn_X4_wordFor rfl (Nat.le_of_ble_eq_true rfl) (Nat.zero_le _) (Nat.zero_le _) rfl kw_659 kw_660 kw_661 (b := 16) (Nat.le_of_ble_eq_true rfl) (Nat.le_of_ble_eq_true rfl) rfl ?_
    exact (h.2 c1)
set_option maxRecDepth 20000 in
theorem T_X5_takeSingle_25_42a {Γ : Nat × (Nat → Int32)} {d n0 bc bs : Nat} {Q : mQ} {σ : mS} (x1 : Int32) (x2 : Nat) (r : Int32) (ha_x2 : 1000 ≤ x2 ∧ x2 < 1028) (h : ((r = 0 → Q (.inl (some (.int 1))) 60 mSH σ) ∧ (¬ (r = 0) → Q (.inl (some (.int 0))) 60 mSH σ))) : mRt Γ M_X5_takeSingle (d + 2) Q n0 bc bs 42 [(0, .ref 25), (1, .int x1), (2, .ref x2)] [] (.inl (some (.int r))) 60 mSH σ := by
  show mK Γ M_X5_takeSingle (d + 2) Q n0 bc bs 42 [(0, .ref 25), (1, .int x1), (2, .ref x2)] [.int r] 60 mSH σ
  refine ru_if_ne (tgt := 49) dX5_takeSingle_42 rfl (by decide) (fun c1 => ?_) (fun c1 => ?_)
  · refine mK_iconst dX5_takeSingle_49 rfl qic_0 ?_
    exact mK_zret dX5_takeSingle_50 rfl (by decide) (h.2 c1)
  · refine mK_iconst dX5_takeSingle_45 rfl qic_1 ?_
    refine mK_goto (tgt := 50) dX5_takeSingle_46 (by decide) ?_
    exact mK_zret dX5_takeSingle_50 rfl (by decide) (h.1 c1)
set_option maxRecDepth 20000 in
theorem T_X5_takeSingle_25_71a {Γ : Nat × (Nat → Int32)} {d n0 bc bs : Nat} {Q : mQ} {σ : mS} (x1 : Int32) (x2 : Nat) (r : Int32) (ha_x2 : 1000 ≤ x2 ∧ x2 < 1028) (h : ((r = 0 ∨ r = 1) ∧ Q (.inl (some (.int r))) 60 mSH (mPI σ 25 3 ((σ.1 25 3) + 1)))) : mRt Γ M_X5_takeSingle (d + 2) Q n0 bc bs 71 [(0, .ref 25), (1, .int x1), (2, .ref x2)] [] (.inl (some (.int r))) 60 mSH σ := by
  show mK Γ M_X5_takeSingle (d + 2) Q n0 bc bs 71 [(0, .ref 25), (1, .int x1), (2, .ref x2)] [.int r] 60 mSH σ
  refine ru_istore_n (lv1 := [(0, .ref 25), (1, .int x1), (2, .ref x2), (3, .int r)]) dX5_takeSingle_71 rfl rfl (by decide) rfl ?_
  refine mK_aload_n dX5_takeSingle_72 rfl rfl (.head _) ?_
  refine mK_dup dX5_takeSingle_73 rfl rfl ?_
  refine ru_getI (k := 3) (ci := 4) dX5_takeSingle_74 rfl rfl kw_265 ?_
  refine mK_iconst dX5_takeSingle_77 rfl qic_1 ?_
  refine mK_iadd dX5_takeSingle_78 rfl ?_
  refine ru_putI (k := 3) (ci := 4) dX5_takeSingle_79 rfl rfl rfl kw_265 ?_
  refine mK_iload_n dX5_takeSingle_82 rfl rfl (.tail _ (.tail _ (.tail _ (.head _)))) ?_
  exact mK_zret dX5_takeSingle_83 rfl (h.1) h.2
set_option maxRecDepth 20000 in
theorem T_X5_takeSingle_25_114a {Γ : Nat × (Nat → Int32)} {d n0 bc bs : Nat} {Q : mQ} {σ : mS} (x1 : Int32) (x2 : Nat) (x3 : Int32) (r : Int32) (ha_x2 : 1000 ≤ x2 ∧ x2 < 1028) (h : ((r = 0 ∨ r = 1) ∧ Q (.inl (some (.int r))) 60 mSH σ)) : mRt Γ M_X5_takeSingle (d + 2) Q n0 bc bs 114 [(0, .ref 25), (1, .int x1), (2, .ref x2), (3, .int x3)] [] (.inl (some (.int r))) 60 mSH σ := by
  show mK Γ M_X5_takeSingle (d + 2) Q n0 bc bs 114 [(0, .ref 25), (1, .int x1), (2, .ref x2), (3, .int x3)] [.int r] 60 mSH σ
  refine mK_goto (tgt := 134) dX5_takeSingle_114 (by decide) ?_
  exact mK_zret dX5_takeSingle_134 rfl (h.1) h.2
set_option maxRecDepth 20000 in
theorem T_X5_takeSingle_25_125a {Γ : Nat × (Nat → Int32)} {d n0 bc bs : Nat} {Q : mQ} {σ : mS} (x1 : Int32) (x2 : Nat) (x3 : Int32) (r : Nat) (ha_x2 : 1000 ≤ x2 ∧ x2 < 1028) (ha_r : 1000 ≤ r ∧ r < 1028) (h : ((r = x2 → Q (.inl (some (.int 1))) 60 mSH σ) ∧ (¬ (r = x2) → Q (.inl (some (.int 0))) 60 mSH σ))) : mRt Γ M_X5_takeSingle (d + 2) Q n0 bc bs 125 [(0, .ref 25), (1, .int x1), (2, .ref x2), (3, .int x3)] [] (.inl (some (.ref r))) 60 mSH σ := by
  show mK Γ M_X5_takeSingle (d + 2) Q n0 bc bs 125 [(0, .ref 25), (1, .int x1), (2, .ref x2), (3, .int x3)] [.ref r] 60 mSH σ
  refine mK_aload_n dX5_takeSingle_125 rfl rfl (.tail _ (.tail _ (.head _))) ?_
  refine ru_acmp_ne (tgt := 133) dX5_takeSingle_126 rfl (by decide) ha_r ha_x2 (fun c1 => ?_) (fun c1 => ?_)
  · refine mK_iconst dX5_takeSingle_129 rfl qic_1 ?_
    refine mK_goto (tgt := 134) dX5_takeSingle_130 (by decide) ?_
    exact mK_zret dX5_takeSingle_134 rfl (by decide) (h.1 c1)
  · refine mK_iconst dX5_takeSingle_133 rfl qic_0 ?_
    exact mK_zret dX5_takeSingle_134 rfl (by decide) (h.2 c1)
set_option maxRecDepth 20000 in
theorem E_X5_takeBoth_25 {Γ : Nat × (Nat → Int32)} {d : Nat} {Q : mQ} {σ : mS} (a1 : Int32) (h : mCall Γ M_X5_takeSingle (d + 1) 0 0 [.ref 25, .int a1] 60 mSH σ (mRt Γ M_X5_takeBoth (d + 2) Q 60 0 0 5 [(0, .ref 25), (1, .int a1)] [])) : mCall Γ M_X5_takeBoth (d + 2) 0 0 [.ref 25, .int a1] 60 mSH σ Q := by
  refine mCall_of rfl (by decide) (Nat.le_of_ble_eq_true rfl) (mOkC (mOk_lo (Nat.le_of_ble_eq_true rfl)) (mOkC mOk_i mOkN)) ?_
  show mK Γ M_X5_takeBoth (d + 2) Q 60 0 0 0 [(0, .ref 25), (1, .int a1)] [] 60 mSH σ
  refine mK_aload_n dX5_takeBoth_0 rfl rfl (.head _) ?_
  refine mK_iload_n dX5_takeBoth_1 rfl rfl (.tail _ (.head _)) ?_
  refine mK_invV (J := M_X5_takeSingle) (k := 1) (as := [.int a1]) (st := []) (c1 := 0) (s1 := 0) dX5_takeBoth_2 rfl jw_X5_takeSingle jn_X5_takeSingle rfl (Nat.le_of_ble_eq_true rfl) (Nat.zero_le _) (Nat.zero_le _) rfl kw_648 kw_650 kw_27 (b := 25) (Nat.le_of_ble_eq_true rfl) (Nat.le_of_ble_eq_true rfl) rfl ?_
  exact h
set_option maxRecDepth 20000 in
theorem T_X5_takeBoth_25_5a {Γ : Nat × (Nat → Int32)} {d n0 bc bs : Nat} {Q : mQ} {σ : mS} (x1 : Int32) (r : Int32) (h : mK Γ M_X5_takeBoth (d + 2) Q n0 bc bs 8 [(0, .ref 25), (1, .int x1), (2, .int r), (3, .int 0)] [] 60 mSH σ) : mRt Γ M_X5_takeBoth (d + 2) Q n0 bc bs 5 [(0, .ref 25), (1, .int x1)] [] (.inl (some (.int r))) 60 mSH σ := by
  show mK Γ M_X5_takeBoth (d + 2) Q n0 bc bs 5 [(0, .ref 25), (1, .int x1)] [.int r] 60 mSH σ
  refine ru_istore_n (lv1 := [(0, .ref 25), (1, .int x1), (2, .int r)]) dX5_takeBoth_5 rfl rfl (by decide) rfl ?_
  refine mK_iconst dX5_takeBoth_6 rfl qic_0 ?_
  refine ru_istore_n (lv1 := [(0, .ref 25), (1, .int x1), (2, .int r), (3, .int 0)]) dX5_takeBoth_7 rfl rfl (by decide) rfl ?_
  exact h
set_option maxRecDepth 20000 in
theorem T_X5_takeBoth_25_8 {Γ : Nat × (Nat → Int32)} {d n0 bc bs : Nat} {Q : mQ} {σ : mS} (x1 : Int32) (x2 : Int32) (x3 : Int32) (h : ((400 ≤ x3 → ((x2 = 0 ∨ x2 = 1) ∧ Q (.inl (some (.int x2))) 60 mSH σ)) ∧ (¬ (400 ≤ x3) → mCall Γ M_X5_sees (d + 1) 0 0 [.ref 25, .ref 1019] 60 mSH σ (mRt Γ M_X5_takeBoth (d + 2) Q n0 bc bs 22 [(0, .ref 25), (1, .int x1), (2, .int x2), (3, .int x3)] [])))) : mK Γ M_X5_takeBoth (d + 2) Q n0 bc bs 8 [(0, .ref 25), (1, .int x1), (2, .int x2), (3, .int x3)] [] 60 mSH σ := by
  refine mK_iload_n dX5_takeBoth_8 rfl rfl (.tail _ (.tail _ (.tail _ (.head _)))) ?_
  refine mK_sipush dX5_takeBoth_9 rfl qsi_400 ?_
  refine mK_icmp_ge (tgt := 49) dX5_takeBoth_12 rfl (by decide) (fun c1 => ?_) (fun c1 => ?_)
  · refine mK_iload_n dX5_takeBoth_49 rfl rfl (.tail _ (.tail _ (.head _))) ?_
    exact mK_zret dX5_takeBoth_50 rfl ((h.1 c1).1) (h.1 c1).2
  · refine mK_aload_n dX5_takeBoth_15 rfl rfl (.head _) ?_
    refine mK_getE (i := 19) dX5_takeBoth_16 rfl (by decide) kw_666 ?_
    refine mK_invV (J := M_X5_sees) (k := 1) (as := [.ref 1019]) (st := []) (c1 := 0) (s1 := 0) dX5_takeBoth_19 rfl jw_X5_sees jn_X5_sees rfl (Nat.le_of_ble_eq_true rfl) (Nat.zero_le _) (Nat.zero_le _) rfl kw_480 kw_482 kw_13 (b := 25) (Nat.le_of_ble_eq_true rfl) (Nat.le_of_ble_eq_true rfl) rfl ?_
    exact (h.2 c1)
set_option maxRecDepth 20000 in
theorem T_X5_takeBoth_25_22a {Γ : Nat × (Nat → Int32)} {d n0 bc bs : Nat} {Q : mQ} {σ : mS} (x1 : Int32) (x2 : Int32) (x3 : Int32) (r : Int32) (h : ((r = 0 → ((x2 = 0 ∨ x2 = 1) ∧ Q (.inl (some (.int x2))) 60 mSH σ)) ∧ (¬ (r = 0) → mCall Γ M_X5_takeSingle (d + 1) 0 0 [.ref 25, .int x1] 60 mSH (mPI σ 25 3 ((σ.1 25 3) + 1)) (mRt Γ M_X5_takeBoth (d + 2) Q n0 bc bs 41 [(0, .ref 25), (1, .int x1), (2, .int x2), (3, .int x3)] [.int x2])))) : mRt Γ M_X5_takeBoth (d + 2) Q n0 bc bs 22 [(0, .ref 25), (1, .int x1), (2, .int x2), (3, .int x3)] [] (.inl (some (.int r))) 60 mSH σ := by
  show mK Γ M_X5_takeBoth (d + 2) Q n0 bc bs 22 [(0, .ref 25), (1, .int x1), (2, .int x2), (3, .int x3)] [.int r] 60 mSH σ
  refine mK_if_eq (tgt := 49) dX5_takeBoth_22 rfl (by decide) (fun c1 => ?_) (fun c1 => ?_)
  · refine mK_iload_n dX5_takeBoth_49 rfl rfl (.tail _ (.tail _ (.head _))) ?_
    exact mK_zret dX5_takeBoth_50 rfl ((h.1 c1).1) (h.1 c1).2
  · refine mK_aload_n dX5_takeBoth_25 rfl rfl (.head _) ?_
    refine mK_dup dX5_takeBoth_26 rfl rfl ?_
    refine ru_getI (k := 3) (ci := 4) dX5_takeBoth_27 rfl rfl kw_265 ?_
    refine mK_iconst dX5_takeBoth_30 rfl qic_1 ?_
    refine mK_iadd dX5_takeBoth_31 rfl ?_
    refine ru_putI (k := 3) (ci := 4) dX5_takeBoth_32 rfl rfl rfl kw_265 ?_
    refine mK_iload_n dX5_takeBoth_35 rfl rfl (.tail _ (.tail _ (.head _))) ?_
    refine mK_aload_n dX5_takeBoth_36 rfl rfl (.head _) ?_
    refine mK_iload_n dX5_takeBoth_37 rfl rfl (.tail _ (.head _)) ?_
    refine mK_invV (J := M_X5_takeSingle) (k := 1) (as := [.int x1]) (st := [.int x2]) (c1 := 0) (s1 := 0) dX5_takeBoth_38 rfl jw_X5_takeSingle jn_X5_takeSingle rfl (Nat.le_of_ble_eq_true rfl) (Nat.zero_le _) (Nat.zero_le _) rfl kw_648 kw_650 kw_27 (b := 25) (Nat.le_of_ble_eq_true rfl) (Nat.le_of_ble_eq_true rfl) rfl ?_
    exact (h.2 c1)
set_option maxRecDepth 20000 in
theorem T_X5_takeBoth_25_41a {Γ : Nat × (Nat → Int32)} {d n0 bc bs : Nat} {Q : mQ} {σ : mS} (x1 : Int32) (x2 : Int32) (x3 : Int32) (y0 : Int32) (r : Int32) (h : mK Γ M_X5_takeBoth (d + 2) Q n0 bc bs 8 [(0, .ref 25), (1, .int x1), (2, .int (y0 &&& r)), (3, .int (x3 + 1))] [] 60 mSH σ) : mRt Γ M_X5_takeBoth (d + 2) Q n0 bc bs 41 [(0, .ref 25), (1, .int x1), (2, .int x2), (3, .int x3)] [.int y0] (.inl (some (.int r))) 60 mSH σ := by
  show mK Γ M_X5_takeBoth (d + 2) Q n0 bc bs 41 [(0, .ref 25), (1, .int x1), (2, .int x2), (3, .int x3)] [.int r, .int y0] 60 mSH σ
  refine mK_iand dX5_takeBoth_41 rfl ?_
  refine ru_istore_n (lv1 := [(0, .ref 25), (1, .int x1), (2, .int (y0 &&& r)), (3, .int x3)]) dX5_takeBoth_42 rfl rfl (by decide) rfl ?_
  refine ru_iinc (lv1 := [(0, .ref 25), (1, .int x1), (2, .int (y0 &&& r)), (3, .int (x3 + 1))]) dX5_takeBoth_43 rfl (.tail _ (.tail _ (.tail _ (.head _)))) qic_1 (by decide) rfl ?_
  refine mK_goto (tgt := 8) dX5_takeBoth_46 (by decide) ?_
  exact h
set_option maxRecDepth 20000 in
theorem E_X5_takeTest_25 {Γ : Nat × (Nat → Int32)} {d : Nat} {Q : mQ} {σ : mS} (a1 : Int32) (h : mCall Γ M_X5_takeBoth (d + 1) 0 0 [.ref 25, .int a1] 60 mSH σ (mRt Γ M_X5_takeTest (d + 2) Q 60 0 0 5 [(0, .ref 25), (1, .int a1)] [])) : mCall Γ M_X5_takeTest (d + 2) 0 0 [.ref 25, .int a1] 60 mSH σ Q := by
  refine mCall_of rfl (by decide) (Nat.le_of_ble_eq_true rfl) (mOkC (mOk_lo (Nat.le_of_ble_eq_true rfl)) (mOkC mOk_i mOkN)) ?_
  show mK Γ M_X5_takeTest (d + 2) Q 60 0 0 0 [(0, .ref 25), (1, .int a1)] [] 60 mSH σ
  refine mK_aload_n dX5_takeTest_0 rfl rfl (.head _) ?_
  refine mK_iload_n dX5_takeTest_1 rfl rfl (.tail _ (.head _)) ?_
  refine mK_invV (J := M_X5_takeBoth) (k := 1) (as := [.int a1]) (st := []) (c1 := 0) (s1 := 0) dX5_takeTest_2 rfl jw_X5_takeBoth jn_X5_takeBoth rfl (Nat.le_of_ble_eq_true rfl) (Nat.zero_le _) (Nat.zero_le _) rfl kw_644 kw_646 kw_26 (b := 25) (Nat.le_of_ble_eq_true rfl) (Nat.le_of_ble_eq_true rfl) rfl ?_
  exact h
set_option maxRecDepth 20000 in
theorem T_X5_takeTest_25_5a {Γ : Nat × (Nat → Int32)} {d n0 bc bs : Nat} {Q : mQ} {σ : mS} (x1 : Int32) (r : Int32) (h : mK Γ M_X5_takeTest (d + 2) Q n0 bc bs 8 [(0, .ref 25), (1, .int x1), (2, .int r), (3, .int 0)] [] 60 mSH σ) : mRt Γ M_X5_takeTest (d + 2) Q n0 bc bs 5 [(0, .ref 25), (1, .int x1)] [] (.inl (some (.int r))) 60 mSH σ := by
  show mK Γ M_X5_takeTest (d + 2) Q n0 bc bs 5 [(0, .ref 25), (1, .int x1)] [.int r] 60 mSH σ
  refine ru_istore_n (lv1 := [(0, .ref 25), (1, .int x1), (2, .int r)]) dX5_takeTest_5 rfl rfl (by decide) rfl ?_
  refine mK_iconst dX5_takeTest_6 rfl qic_0 ?_
  refine ru_istore_n (lv1 := [(0, .ref 25), (1, .int x1), (2, .int r), (3, .int 0)]) dX5_takeTest_7 rfl rfl (by decide) rfl ?_
  exact h
set_option maxRecDepth 20000 in
theorem T_X5_takeTest_25_8 {Γ : Nat × (Nat → Int32)} {d n0 bc bs : Nat} {Q : mQ} {σ : mS} (x1 : Int32) (x2 : Int32) (x3 : Int32) (h : ((400 ≤ x3 → ((x2 = 0 ∨ x2 = 1) ∧ Q (.inl (some (.int x2))) 60 mSH σ)) ∧ (¬ (400 ≤ x3) → mCall Γ M_X5_sees (d + 1) 0 0 [.ref 25, .ref 1020] 60 mSH σ (mRt Γ M_X5_takeTest (d + 2) Q n0 bc bs 22 [(0, .ref 25), (1, .int x1), (2, .int x2), (3, .int x3)] [])))) : mK Γ M_X5_takeTest (d + 2) Q n0 bc bs 8 [(0, .ref 25), (1, .int x1), (2, .int x2), (3, .int x3)] [] 60 mSH σ := by
  refine mK_iload_n dX5_takeTest_8 rfl rfl (.tail _ (.tail _ (.tail _ (.head _)))) ?_
  refine mK_sipush dX5_takeTest_9 rfl qsi_400 ?_
  refine mK_icmp_ge (tgt := 49) dX5_takeTest_12 rfl (by decide) (fun c1 => ?_) (fun c1 => ?_)
  · refine mK_iload_n dX5_takeTest_49 rfl rfl (.tail _ (.tail _ (.head _))) ?_
    exact mK_zret dX5_takeTest_50 rfl ((h.1 c1).1) (h.1 c1).2
  · refine mK_aload_n dX5_takeTest_15 rfl rfl (.head _) ?_
    refine mK_getE (i := 20) dX5_takeTest_16 rfl (by decide) kw_667 ?_
    refine mK_invV (J := M_X5_sees) (k := 1) (as := [.ref 1020]) (st := []) (c1 := 0) (s1 := 0) dX5_takeTest_19 rfl jw_X5_sees jn_X5_sees rfl (Nat.le_of_ble_eq_true rfl) (Nat.zero_le _) (Nat.zero_le _) rfl kw_480 kw_482 kw_13 (b := 25) (Nat.le_of_ble_eq_true rfl) (Nat.le_of_ble_eq_true rfl) rfl ?_
    exact (h.2 c1)
set_option maxRecDepth 20000 in
theorem T_X5_takeTest_25_22a {Γ : Nat × (Nat → Int32)} {d n0 bc bs : Nat} {Q : mQ} {σ : mS} (x1 : Int32) (x2 : Int32) (x3 : Int32) (r : Int32) (h : ((r = 0 → ((x2 = 0 ∨ x2 = 1) ∧ Q (.inl (some (.int x2))) 60 mSH σ)) ∧ (¬ (r = 0) → mCall Γ M_X5_takeBoth (d + 1) 0 0 [.ref 25, .int x1] 60 mSH (mPI σ 25 3 ((σ.1 25 3) + 1)) (mRt Γ M_X5_takeTest (d + 2) Q n0 bc bs 41 [(0, .ref 25), (1, .int x1), (2, .int x2), (3, .int x3)] [.int x2])))) : mRt Γ M_X5_takeTest (d + 2) Q n0 bc bs 22 [(0, .ref 25), (1, .int x1), (2, .int x2), (3, .int x3)] [] (.inl (some (.int r))) 60 mSH σ := by
  show mK Γ M_X5_takeTest (d + 2) Q n0 bc bs 22 [(0, .ref 25), (1, .int x1), (2, .int x2), (3, .int x3)] [.int r] 60 mSH σ
  refine mK_if_eq (tgt := 49) dX5_takeTest_22 rfl (by decide) (fun c1 => ?_) (fun c1 => ?_)
  · refine mK_iload_n dX5_takeTest_49 rfl rfl (.tail _ (.tail _ (.head _))) ?_
    exact mK_zret dX5_takeTest_50 rfl ((h.1 c1).1) (h.1 c1).2
  · refine mK_aload_n dX5_takeTest_25 rfl rfl (.head _) ?_
    refine mK_dup dX5_takeTest_26 rfl rfl ?_
    refine ru_getI (k := 3) (ci := 4) dX5_takeTest_27 rfl rfl kw_265 ?_
    refine mK_iconst dX5_takeTest_30 rfl qic_1 ?_
    refine mK_iadd dX5_takeTest_31 rfl ?_
    refine ru_putI (k := 3) (ci := 4) dX5_takeTest_32 rfl rfl rfl kw_265 ?_
    refine mK_iload_n dX5_takeTest_35 rfl rfl (.tail _ (.tail _ (.head _))) ?_
    refine mK_aload_n dX5_takeTest_36 rfl rfl (.head _) ?_
    refine mK_iload_n dX5_takeTest_37 rfl rfl (.tail _ (.head _)) ?_
    refine mK_invV (J := M_X5_takeBoth) (k := 1) (as := [.int x1]) (st := [.int x2]) (c1 := 0) (s1 := 0) dX5_takeTest_38 rfl jw_X5_takeBoth jn_X5_takeBoth rfl (Nat.le_of_ble_eq_true rfl) (Nat.zero_le _) (Nat.zero_le _) rfl kw_644 kw_646 kw_26 (b := 25) (Nat.le_of_ble_eq_true rfl) (Nat.le_of_ble_eq_true rfl) rfl ?_
    exact (h.2 c1)
set_option maxRecDepth 20000 in
theorem T_X5_takeTest_25_41a {Γ : Nat × (Nat → Int32)} {d n0 bc bs : Nat} {Q : mQ} {σ : mS} (x1 : Int32) (x2 : Int32) (x3 : Int32) (y0 : Int32) (r : Int32) (h : mK Γ M_X5_takeTest (d + 2) Q n0 bc bs 8 [(0, .ref 25), (1, .int x1), (2, .int (y0 ||| r)), (3, .int (x3 + 1))] [] 60 mSH σ) : mRt Γ M_X5_takeTest (d + 2) Q n0 bc bs 41 [(0, .ref 25), (1, .int x1), (2, .int x2), (3, .int x3)] [.int y0] (.inl (some (.int r))) 60 mSH σ := by
  show mK Γ M_X5_takeTest (d + 2) Q n0 bc bs 41 [(0, .ref 25), (1, .int x1), (2, .int x2), (3, .int x3)] [.int r, .int y0] 60 mSH σ
  refine mK_ior dX5_takeTest_41 rfl ?_
  refine ru_istore_n (lv1 := [(0, .ref 25), (1, .int x1), (2, .int (y0 ||| r)), (3, .int x3)]) dX5_takeTest_42 rfl rfl (by decide) rfl ?_
  refine ru_iinc (lv1 := [(0, .ref 25), (1, .int x1), (2, .int (y0 ||| r)), (3, .int (x3 + 1))]) dX5_takeTest_43 rfl (.tail _ (.tail _ (.tail _ (.head _)))) qic_1 (by decide) rfl ?_
  refine mK_goto (tgt := 8) dX5_takeTest_46 (by decide) ?_
  exact h
set_option maxRecDepth 20000 in
theorem E_X5_tellSpeaker_25 {Γ : Nat × (Nat → Int32)} {d : Nat} {Q : mQ} {σ : mS} (h : mCall Γ M_X6_valueAt (d + 1) 0 0 [.ref 20, .int (σ.1 25 3)] 60 mSH σ (mRt Γ M_X5_tellSpeaker (d + 2) Q 60 0 0 11 [(0, .ref 25)] [])) : mCall Γ M_X5_tellSpeaker (d + 2) 0 0 [.ref 25] 60 mSH σ Q := by
  refine mCall_of rfl (by decide) (Nat.le_of_ble_eq_true rfl) (mOkC (mOk_lo (Nat.le_of_ble_eq_true rfl)) mOkN) ?_
  show mK Γ M_X5_tellSpeaker (d + 2) Q 60 0 0 0 [(0, .ref 25)] [] 60 mSH σ
  refine mK_aload_n dX5_tellSpeaker_0 rfl rfl (.head _) ?_
  refine ru_getR (k := 0) (ci := 4) (a := 20) dX5_tellSpeaker_1 rfl rfl rfl kw_262 ?_
  refine mK_aload_n dX5_tellSpeaker_4 rfl rfl (.head _) ?_
  refine ru_getI (k := 3) (ci := 4) dX5_tellSpeaker_5 rfl rfl kw_265 ?_
  refine mK_invV (J := M_X6_valueAt) (k := 1) (as := [.int (σ.1 25 3)]) (st := []) (c1 := 0) (s1 := 0) dX5_tellSpeaker_8 rfl jw_X6_valueAt jn_X6_valueAt rfl (Nat.le_of_ble_eq_true rfl) (Nat.zero_le _) (Nat.zero_le _) rfl kw_490 kw_491 kw_492 (b := 20) (Nat.le_of_ble_eq_true rfl) (Nat.le_of_ble_eq_true rfl) rfl ?_
  exact h
set_option maxRecDepth 20000 in
theorem T_X5_tellSpeaker_25_11a {Γ : Nat × (Nat → Int32)} {d n0 bc bs : Nat} {Q : mQ} {σ : mS} (r : Int64) (h : mCall Γ M_X0_findSpeaker (d + 1) 0 0 [.ref 5, .long r] 60 mSH σ (mRt Γ M_X5_tellSpeaker (d + 2) Q n0 bc bs 21 [(0, .ref 25), (1, .long r)] [.ref 25])) : mRt Γ M_X5_tellSpeaker (d + 2) Q n0 bc bs 11 [(0, .ref 25)] [] (.inl (some (.long r))) 60 mSH σ := by
  show mK Γ M_X5_tellSpeaker (d + 2) Q n0 bc bs 11 [(0, .ref 25)] [.long r] 60 mSH σ
  refine ru_lstore_n (lv1 := [(0, .ref 25), (1, .long r)]) dX5_tellSpeaker_11 rfl rfl (by decide) rfl ?_
  refine mK_aload_n dX5_tellSpeaker_12 rfl rfl (.head _) ?_
  refine mK_aload_n dX5_tellSpeaker_13 rfl rfl (.head _) ?_
  refine ru_getR (k := 1) (ci := 4) (a := 5) dX5_tellSpeaker_14 rfl rfl rfl kw_263 ?_
  refine mK_lload_n dX5_tellSpeaker_17 rfl rfl (.tail _ (.head _)) ?_
  refine mK_invV (J := M_X0_findSpeaker) (k := 1) (as := [.long r]) (st := [.ref 25]) (c1 := 0) (s1 := 0) dX5_tellSpeaker_18 rfl jw_X0_findSpeaker jn_X0_findSpeaker rfl (Nat.le_of_ble_eq_true rfl) (Nat.zero_le _) (Nat.zero_le _) rfl kw_494 kw_495 kw_496 (b := 5) (Nat.le_of_ble_eq_true rfl) (Nat.le_of_ble_eq_true rfl) rfl ?_
  exact h
set_option maxRecDepth 20000 in
theorem T_X5_tellSpeaker_25_21a {Γ : Nat × (Nat → Int32)} {d n0 bc bs : Nat} {Q : mQ} {σ : mS} (x1 : Int64) (r : Int32) (h : ((r = (-1) → mCall Γ M_X5_failIf (d + 1) 0 0 [.ref 25, .int 0, .int 2] 60 mSH σ (mRt Γ M_X5_tellSpeaker (d + 2) Q n0 bc bs 34 [(0, .ref 25), (1, .long x1)] [])) ∧ (¬ (r = (-1)) → mCall Γ M_X5_failIf (d + 1) 0 0 [.ref 25, .int 1, .int 2] 60 mSH σ (mRt Γ M_X5_tellSpeaker (d + 2) Q n0 bc bs 34 [(0, .ref 25), (1, .long x1)] [])))) : mRt Γ M_X5_tellSpeaker (d + 2) Q n0 bc bs 21 [(0, .ref 25), (1, .long x1)] [.ref 25] (.inl (some (.int r))) 60 mSH σ := by
  show mK Γ M_X5_tellSpeaker (d + 2) Q n0 bc bs 21 [(0, .ref 25), (1, .long x1)] [.int r, .ref 25] 60 mSH σ
  refine mK_iconst dX5_tellSpeaker_21 rfl qic_m1 ?_
  refine mK_icmp_eq (tgt := 29) dX5_tellSpeaker_22 rfl (by decide) (fun c1 => ?_) (fun c1 => ?_)
  · refine mK_iconst dX5_tellSpeaker_29 rfl qic_0 ?_
    refine mK_iconst dX5_tellSpeaker_30 rfl qic_2 ?_
    refine mK_invV (J := M_X5_failIf) (k := 2) (as := [.int 0, .int 2]) (st := []) (c1 := 0) (s1 := 0) dX5_tellSpeaker_31 rfl jw_X5_failIf jn_X5_failIf rfl (Nat.le_of_ble_eq_true rfl) (Nat.zero_le _) (Nat.zero_le _) rfl kw_498 kw_500 kw_15 (b := 25) (Nat.le_of_ble_eq_true rfl) (Nat.le_of_ble_eq_true rfl) rfl ?_
    exact (h.1 c1)
  · refine mK_iconst dX5_tellSpeaker_25 rfl qic_1 ?_
    refine mK_goto (tgt := 30) dX5_tellSpeaker_26 (by decide) ?_
    refine mK_iconst dX5_tellSpeaker_30 rfl qic_2 ?_
    refine mK_invV (J := M_X5_failIf) (k := 2) (as := [.int 1, .int 2]) (st := []) (c1 := 0) (s1 := 0) dX5_tellSpeaker_31 rfl jw_X5_failIf jn_X5_failIf rfl (Nat.le_of_ble_eq_true rfl) (Nat.zero_le _) (Nat.zero_le _) rfl kw_498 kw_500 kw_15 (b := 25) (Nat.le_of_ble_eq_true rfl) (Nat.le_of_ble_eq_true rfl) rfl ?_
    exact (h.2 c1)
set_option maxRecDepth 20000 in
theorem T_X5_tellSpeaker_25_34a {Γ : Nat × (Nat → Int32)} {d n0 bc bs : Nat} {Q : mQ} {σ : mS} (x1 : Int64) (h : (((f_X0_speakers_5 σ) < 6 → mCall Γ M_X5_failIf (d + 1) 0 0 [.ref 25, .int 0, .int 4] 60 mSH σ (mRt Γ M_X5_tellSpeaker (d + 2) Q n0 bc bs 56 [(0, .ref 25), (1, .long x1)] [])) ∧ (¬ ((f_X0_speakers_5 σ) < 6) → mCall Γ M_X5_failIf (d + 1) 0 0 [.ref 25, .int 1, .int 4] 60 mSH σ (mRt Γ M_X5_tellSpeaker (d + 2) Q n0 bc bs 56 [(0, .ref 25), (1, .long x1)] [])))) : mRt Γ M_X5_tellSpeaker (d + 2) Q n0 bc bs 34 [(0, .ref 25), (1, .long x1)] [] (.inl none) 60 mSH σ := by
  show mK Γ M_X5_tellSpeaker (d + 2) Q n0 bc bs 34 [(0, .ref 25), (1, .long x1)] [] 60 mSH σ
  refine mK_aload_n dX5_tellSpeaker_34 rfl rfl (.head _) ?_
  refine mK_aload_n dX5_tellSpeaker_35 rfl rfl (.head _) ?_
  refine ru_getR (k := 1) (ci := 4) (a := 5) dX5_tellSpeaker_36 rfl rfl rfl kw_263 ?_
  refine mK_invV (J := M_X0_speakers) (k := 0) (as := []) (st := [.ref 25]) (c1 := 0) (s1 := 0) dX5_tellSpeaker_39 rfl jw_X0_speakers jn_X0_speakers rfl (Nat.le_of_ble_eq_true rfl) (Nat.zero_le _) (Nat.zero_le _) rfl kw_502 kw_503 kw_504 (b := 5) (Nat.le_of_ble_eq_true rfl) (Nat.le_of_ble_eq_true rfl) rfl ?_
  refine S_X0_speakers_5  ?_
  show mK Γ M_X5_tellSpeaker (d + 2) Q n0 bc bs 42 [(0, .ref 25), (1, .long x1)] [.int (f_X0_speakers_5 σ), .ref 25] 60 mSH σ
  refine mK_bipush dX5_tellSpeaker_42 rfl qbi_6 ?_
  refine mK_icmp_lt (tgt := 51) dX5_tellSpeaker_44 rfl (by decide) (fun c1 => ?_) (fun c1 => ?_)
  · refine mK_iconst dX5_tellSpeaker_51 rfl qic_0 ?_
    refine mK_iconst dX5_tellSpeaker_52 rfl qic_4 ?_
    refine mK_invV (J := M_X5_failIf) (k := 2) (as := [.int 0, .int 4]) (st := []) (c1 := 0) (s1 := 0) dX5_tellSpeaker_53 rfl jw_X5_failIf jn_X5_failIf rfl (Nat.le_of_ble_eq_true rfl) (Nat.zero_le _) (Nat.zero_le _) rfl kw_498 kw_500 kw_15 (b := 25) (Nat.le_of_ble_eq_true rfl) (Nat.le_of_ble_eq_true rfl) rfl ?_
    exact (h.1 c1)
  · refine mK_iconst dX5_tellSpeaker_47 rfl qic_1 ?_
    refine mK_goto (tgt := 52) dX5_tellSpeaker_48 (by decide) ?_
    refine mK_iconst dX5_tellSpeaker_52 rfl qic_4 ?_
    refine mK_invV (J := M_X5_failIf) (k := 2) (as := [.int 1, .int 4]) (st := []) (c1 := 0) (s1 := 0) dX5_tellSpeaker_53 rfl jw_X5_failIf jn_X5_failIf rfl (Nat.le_of_ble_eq_true rfl) (Nat.zero_le _) (Nat.zero_le _) rfl kw_498 kw_500 kw_15 (b := 25) (Nat.le_of_ble_eq_true rfl) (Nat.le_of_ble_eq_true rfl) rfl ?_
    exact (h.2 c1)
set_option maxRecDepth 20000 in
theorem T_X5_tellSpeaker_25_56a {Γ : Nat × (Nat → Int32)} {d n0 bc bs : Nat} {Q : mQ} {σ : mS} (x1 : Int64) (h : mCall Γ M_X5_takeNumberBehind (d + 1) 0 0 [.ref 25, .ref 1001, .int 300, .int 0, .int 3600] 60 mSH (mPI σ 25 3 ((σ.1 25 3) + 1)) (mRt Γ M_X5_tellSpeaker (d + 2) Q n0 bc bs 80 [(0, .ref 25), (1, .long x1)] [])) : mRt Γ M_X5_tellSpeaker (d + 2) Q n0 bc bs 56 [(0, .ref 25), (1, .long x1)] [] (.inl none) 60 mSH σ := by
  show mK Γ M_X5_tellSpeaker (d + 2) Q n0 bc bs 56 [(0, .ref 25), (1, .long x1)] [] 60 mSH σ
  refine mK_aload_n dX5_tellSpeaker_56 rfl rfl (.head _) ?_
  refine mK_dup dX5_tellSpeaker_57 rfl rfl ?_
  refine ru_getI (k := 3) (ci := 4) dX5_tellSpeaker_58 rfl rfl kw_265 ?_
  refine mK_iconst dX5_tellSpeaker_61 rfl qic_1 ?_
  refine mK_iadd dX5_tellSpeaker_62 rfl ?_
  refine ru_putI (k := 3) (ci := 4) dX5_tellSpeaker_63 rfl rfl rfl kw_265 ?_
  refine mK_aload_n dX5_tellSpeaker_66 rfl rfl (.head _) ?_
  refine mK_getE (i := 1) dX5_tellSpeaker_67 rfl (by decide) kw_506 ?_
  refine mK_sipush dX5_tellSpeaker_70 rfl qsi_300 ?_
  refine mK_iconst dX5_tellSpeaker_73 rfl qic_0 ?_
  refine mK_sipush dX5_tellSpeaker_74 rfl qsi_3600 ?_
  refine mK_invV (J := M_X5_takeNumberBehind) (k := 4) (as := [.ref 1001, .int 300, .int 0, .int 3600]) (st := []) (c1 := 0) (s1 := 0) dX5_tellSpeaker_77 rfl jw_X5_takeNumberBehind jn_X5_takeNumberBehind rfl (Nat.le_of_ble_eq_true rfl) (Nat.zero_le _) (Nat.zero_le _) rfl kw_507 kw_509 kw_16 (b := 25) (Nat.le_of_ble_eq_true rfl) (Nat.le_of_ble_eq_true rfl) rfl ?_
  exact h
set_option maxRecDepth 20000 in
theorem T_X5_tellSpeaker_25_80a {Γ : Nat × (Nat → Int32)} {d n0 bc bs : Nat} {Q : mQ} {σ : mS} (x1 : Int64) (r : Int32) (h : (((σ.1 25 4) = 0 → mCall Γ M_X0_addSpeaker (d + 1) 0 0 [.ref 5, .long x1, .int r] 60 mSH σ (mRt Γ M_X5_tellSpeaker (d + 2) Q n0 bc bs 97 [(0, .ref 25), (1, .long x1), (3, .int r)] [])) ∧ (¬ ((σ.1 25 4) = 0) → Q (.inl none) 60 mSH σ))) : mRt Γ M_X5_tellSpeaker (d + 2) Q n0 bc bs 80 [(0, .ref 25), (1, .long x1)] [] (.inl (some (.int r))) 60 mSH σ := by
  show mK Γ M_X5_tellSpeaker (d + 2) Q n0 bc bs 80 [(0, .ref 25), (1, .long x1)] [.int r] 60 mSH σ
  refine ru_istore_n (lv1 := [(0, .ref 25), (1, .long x1), (3, .int r)]) dX5_tellSpeaker_80 rfl rfl (by decide) rfl ?_
  refine mK_aload_n dX5_tellSpeaker_81 rfl rfl (.head _) ?_
  refine ru_getI (k := 4) (ci := 4) dX5_tellSpeaker_82 rfl rfl kw_266 ?_
  refine ru_if_ne (tgt := 97) dX5_tellSpeaker_85 rfl (by decide) (fun c1 => ?_) (fun c1 => ?_)
  · exact mK_vret dX5_tellSpeaker_97 rfl (h.2 c1)
  · refine mK_aload_n dX5_tellSpeaker_88 rfl rfl (.head _) ?_
    refine ru_getR (k := 1) (ci := 4) (a := 5) dX5_tellSpeaker_89 rfl rfl rfl kw_263 ?_
    refine mK_lload_n dX5_tellSpeaker_92 rfl rfl (.tail _ (.head _)) ?_
    refine mK_iload_n dX5_tellSpeaker_93 rfl rfl (.tail _ (.tail _ (.head _))) ?_
    refine mK_invV (J := M_X0_addSpeaker) (k := 2) (as := [.long x1, .int r]) (st := []) (c1 := 0) (s1 := 0) dX5_tellSpeaker_94 rfl jw_X0_addSpeaker jn_X0_addSpeaker rfl (Nat.le_of_ble_eq_true rfl) (Nat.zero_le _) (Nat.zero_le _) rfl kw_511 kw_512 kw_513 (b := 5) (Nat.le_of_ble_eq_true rfl) (Nat.le_of_ble_eq_true rfl) rfl ?_
    exact (h.1 c1)
set_option maxRecDepth 20000 in
theorem T_X5_tellSpeaker_25_97a {Γ : Nat × (Nat → Int32)} {d n0 bc bs : Nat} {Q : mQ} {σ : mS} (x1 : Int64) (x3 : Int32) (h : Q (.inl none) 60 mSH σ) : mRt Γ M_X5_tellSpeaker (d + 2) Q n0 bc bs 97 [(0, .ref 25), (1, .long x1), (3, .int x3)] [] (.inl none) 60 mSH σ := by
  show mK Γ M_X5_tellSpeaker (d + 2) Q n0 bc bs 97 [(0, .ref 25), (1, .long x1), (3, .int x3)] [] 60 mSH σ
  exact mK_vret dX5_tellSpeaker_97 rfl h
set_option maxRecDepth 20000 in
theorem E_X5_tellClaim_25 {Γ : Nat × (Nat → Int32)} {d : Nat} {Q : mQ} {σ : mS} (h : mCall Γ M_X5_takeNewItem (d + 1) 0 0 [.ref 25] 60 mSH σ (mRt Γ M_X5_tellClaim (d + 2) Q 60 0 0 4 [(0, .ref 25)] [])) : mCall Γ M_X5_tellClaim (d + 2) 0 0 [.ref 25] 60 mSH σ Q := by
  refine mCall_of rfl (by decide) (Nat.le_of_ble_eq_true rfl) (mOkC (mOk_lo (Nat.le_of_ble_eq_true rfl)) mOkN) ?_
  show mK Γ M_X5_tellClaim (d + 2) Q 60 0 0 0 [(0, .ref 25)] [] 60 mSH σ
  refine mK_aload_n dX5_tellClaim_0 rfl rfl (.head _) ?_
  refine mK_invV (J := M_X5_takeNewItem) (k := 0) (as := []) (st := []) (c1 := 0) (s1 := 0) dX5_tellClaim_1 rfl jw_X5_takeNewItem jn_X5_takeNewItem rfl (Nat.le_of_ble_eq_true rfl) (Nat.zero_le _) (Nat.zero_le _) rfl kw_520 kw_522 kw_18 (b := 25) (Nat.le_of_ble_eq_true rfl) (Nat.le_of_ble_eq_true rfl) rfl ?_
  exact h
set_option maxRecDepth 20000 in
theorem T_X5_tellClaim_25_4a {Γ : Nat × (Nat → Int32)} {d n0 bc bs : Nat} {Q : mQ} {σ : mS} (r : Int64) (h : mCall Γ M_X6_valueAt (d + 1) 0 0 [.ref 20, .int ((σ.1 25 3) + 1)] 60 mSH (mPI σ 25 3 ((σ.1 25 3) + 1)) (mRt Γ M_X5_tellClaim (d + 2) Q n0 bc bs 30 [(0, .ref 25), (1, .long r)] [.ref 5])) : mRt Γ M_X5_tellClaim (d + 2) Q n0 bc bs 4 [(0, .ref 25)] [] (.inl (some (.long r))) 60 mSH σ := by
  show mK Γ M_X5_tellClaim (d + 2) Q n0 bc bs 4 [(0, .ref 25)] [.long r] 60 mSH σ
  refine ru_lstore_n (lv1 := [(0, .ref 25), (1, .long r)]) dX5_tellClaim_4 rfl rfl (by decide) rfl ?_
  refine mK_aload_n dX5_tellClaim_5 rfl rfl (.head _) ?_
  refine mK_dup dX5_tellClaim_6 rfl rfl ?_
  refine ru_getI (k := 3) (ci := 4) dX5_tellClaim_7 rfl rfl kw_265 ?_
  refine mK_iconst dX5_tellClaim_10 rfl qic_1 ?_
  refine mK_iadd dX5_tellClaim_11 rfl ?_
  refine ru_putI (k := 3) (ci := 4) dX5_tellClaim_12 rfl rfl rfl kw_265 ?_
  refine mK_aload_n dX5_tellClaim_15 rfl rfl (.head _) ?_
  refine ru_getR (k := 1) (ci := 4) (a := 5) dX5_tellClaim_16 rfl rfl rfl kw_263 ?_
  refine mK_aload_n dX5_tellClaim_19 rfl rfl (.head _) ?_
  refine ru_getR (k := 0) (ci := 4) (a := 20) dX5_tellClaim_20 rfl rfl rfl kw_262 ?_
  refine mK_aload_n dX5_tellClaim_23 rfl rfl (.head _) ?_
  refine ru_getI (k := 3) (ci := 4) dX5_tellClaim_24 rfl rfl kw_265 ?_
  refine mK_invV (J := M_X6_valueAt) (k := 1) (as := [.int ((σ.1 25 3) + 1)]) (st := [.ref 5]) (c1 := 0) (s1 := 0) dX5_tellClaim_27 rfl jw_X6_valueAt jn_X6_valueAt rfl (Nat.le_of_ble_eq_true rfl) (Nat.zero_le _) (Nat.zero_le _) rfl kw_490 kw_491 kw_492 (b := 20) (Nat.le_of_ble_eq_true rfl) (Nat.le_of_ble_eq_true rfl) rfl ?_
  exact h
set_option maxRecDepth 20000 in
theorem T_X5_tellClaim_25_30a {Γ : Nat × (Nat → Int32)} {d n0 bc bs : Nat} {Q : mQ} {σ : mS} (x1 : Int64) (r : Int64) (h : mCall Γ M_X0_findSpeaker (d + 1) 0 0 [.ref 5, .long r] 60 mSH σ (mRt Γ M_X5_tellClaim (d + 2) Q n0 bc bs 33 [(0, .ref 25), (1, .long x1)] [])) : mRt Γ M_X5_tellClaim (d + 2) Q n0 bc bs 30 [(0, .ref 25), (1, .long x1)] [.ref 5] (.inl (some (.long r))) 60 mSH σ := by
  show mK Γ M_X5_tellClaim (d + 2) Q n0 bc bs 30 [(0, .ref 25), (1, .long x1)] [.long r, .ref 5] 60 mSH σ
  refine mK_invV (J := M_X0_findSpeaker) (k := 1) (as := [.long r]) (st := []) (c1 := 0) (s1 := 0) dX5_tellClaim_30 rfl jw_X0_findSpeaker jn_X0_findSpeaker rfl (Nat.le_of_ble_eq_true rfl) (Nat.zero_le _) (Nat.zero_le _) rfl kw_494 kw_495 kw_496 (b := 5) (Nat.le_of_ble_eq_true rfl) (Nat.le_of_ble_eq_true rfl) rfl ?_
  exact h
set_option maxRecDepth 20000 in
theorem T_X5_tellClaim_25_33a {Γ : Nat × (Nat → Int32)} {d n0 bc bs : Nat} {Q : mQ} {σ : mS} (x1 : Int64) (r : Int32) (h : ((r = (-1) → mCall Γ M_X5_failIf (d + 1) 0 0 [.ref 25, .int 1, .int 3] 60 mSH σ (mRt Γ M_X5_tellClaim (d + 2) Q n0 bc bs 49 [(0, .ref 25), (1, .long x1), (3, .int r)] [])) ∧ (¬ (r = (-1)) → mCall Γ M_X5_failIf (d + 1) 0 0 [.ref 25, .int 0, .int 3] 60 mSH σ (mRt Γ M_X5_tellClaim (d + 2) Q n0 bc bs 49 [(0, .ref 25), (1, .long x1), (3, .int r)] [])))) : mRt Γ M_X5_tellClaim (d + 2) Q n0 bc bs 33 [(0, .ref 25), (1, .long x1)] [] (.inl (some (.int r))) 60 mSH σ := by
  show mK Γ M_X5_tellClaim (d + 2) Q n0 bc bs 33 [(0, .ref 25), (1, .long x1)] [.int r] 60 mSH σ
  refine ru_istore_n (lv1 := [(0, .ref 25), (1, .long x1), (3, .int r)]) dX5_tellClaim_33 rfl rfl (by decide) rfl ?_
  refine mK_aload_n dX5_tellClaim_34 rfl rfl (.head _) ?_
  refine mK_iload_n dX5_tellClaim_35 rfl rfl (.tail _ (.tail _ (.head _))) ?_
  refine mK_iconst dX5_tellClaim_36 rfl qic_m1 ?_
  refine ru_icmp_ne (tgt := 44) dX5_tellClaim_37 rfl (by decide) (fun c1 => ?_) (fun c1 => ?_)
  · refine mK_iconst dX5_tellClaim_44 rfl qic_0 ?_
    refine mK_iconst dX5_tellClaim_45 rfl qic_3 ?_
    refine mK_invV (J := M_X5_failIf) (k := 2) (as := [.int 0, .int 3]) (st := []) (c1 := 0) (s1 := 0) dX5_tellClaim_46 rfl jw_X5_failIf jn_X5_failIf rfl (Nat.le_of_ble_eq_true rfl) (Nat.zero_le _) (Nat.zero_le _) rfl kw_498 kw_500 kw_15 (b := 25) (Nat.le_of_ble_eq_true rfl) (Nat.le_of_ble_eq_true rfl) rfl ?_
    exact (h.2 c1)
  · refine mK_iconst dX5_tellClaim_40 rfl qic_1 ?_
    refine mK_goto (tgt := 45) dX5_tellClaim_41 (by decide) ?_
    refine mK_iconst dX5_tellClaim_45 rfl qic_3 ?_
    refine mK_invV (J := M_X5_failIf) (k := 2) (as := [.int 1, .int 3]) (st := []) (c1 := 0) (s1 := 0) dX5_tellClaim_46 rfl jw_X5_failIf jn_X5_failIf rfl (Nat.le_of_ble_eq_true rfl) (Nat.zero_le _) (Nat.zero_le _) rfl kw_498 kw_500 kw_15 (b := 25) (Nat.le_of_ble_eq_true rfl) (Nat.le_of_ble_eq_true rfl) rfl ?_
    exact (h.1 c1)
set_option maxRecDepth 20000 in
theorem T_X5_tellClaim_25_49a {Γ : Nat × (Nat → Int32)} {d n0 bc bs : Nat} {Q : mQ} {σ : mS} (x1 : Int64) (x3 : Int32) (h : mCall Γ M_X5_takeNumberBehind (d + 1) 0 0 [.ref 25, .ref 1004, .int 10, .int 1, .int 50] 60 mSH (mPI σ 25 3 ((σ.1 25 3) + 1)) (mRt Γ M_X5_tellClaim (d + 2) Q n0 bc bs 71 [(0, .ref 25), (1, .long x1), (3, .int x3)] [])) : mRt Γ M_X5_tellClaim (d + 2) Q n0 bc bs 49 [(0, .ref 25), (1, .long x1), (3, .int x3)] [] (.inl none) 60 mSH σ := by
  show mK Γ M_X5_tellClaim (d + 2) Q n0 bc bs 49 [(0, .ref 25), (1, .long x1), (3, .int x3)] [] 60 mSH σ
  refine mK_aload_n dX5_tellClaim_49 rfl rfl (.head _) ?_
  refine mK_dup dX5_tellClaim_50 rfl rfl ?_
  refine ru_getI (k := 3) (ci := 4) dX5_tellClaim_51 rfl rfl kw_265 ?_
  refine mK_iconst dX5_tellClaim_54 rfl qic_1 ?_
  refine mK_iadd dX5_tellClaim_55 rfl ?_
  refine ru_putI (k := 3) (ci := 4) dX5_tellClaim_56 rfl rfl rfl kw_265 ?_
  refine mK_aload_n dX5_tellClaim_59 rfl rfl (.head _) ?_
  refine mK_getE (i := 4) dX5_tellClaim_60 rfl (by decide) kw_532 ?_
  refine mK_bipush dX5_tellClaim_63 rfl qbi_10 ?_
  refine mK_iconst dX5_tellClaim_65 rfl qic_1 ?_
  refine mK_bipush dX5_tellClaim_66 rfl qbi_50 ?_
  refine mK_invV (J := M_X5_takeNumberBehind) (k := 4) (as := [.ref 1004, .int 10, .int 1, .int 50]) (st := []) (c1 := 0) (s1 := 0) dX5_tellClaim_68 rfl jw_X5_takeNumberBehind jn_X5_takeNumberBehind rfl (Nat.le_of_ble_eq_true rfl) (Nat.zero_le _) (Nat.zero_le _) rfl kw_507 kw_509 kw_16 (b := 25) (Nat.le_of_ble_eq_true rfl) (Nat.le_of_ble_eq_true rfl) rfl ?_
  exact h
set_option maxRecDepth 20000 in
theorem T_X5_tellClaim_25_71a {Γ : Nat × (Nat → Int32)} {d n0 bc bs : Nat} {Q : mQ} {σ : mS} (x1 : Int64) (x3 : Int32) (r : Int32) (h : mCall Γ M_X5_takeTime (d + 1) 0 0 [.ref 25, .int x3, .int (10 + r)] 60 mSH σ (mRt Γ M_X5_tellClaim (d + 2) Q n0 bc bs 83 [(0, .ref 25), (1, .long x1), (3, .int x3), (4, .int r)] [])) : mRt Γ M_X5_tellClaim (d + 2) Q n0 bc bs 71 [(0, .ref 25), (1, .long x1), (3, .int x3)] [] (.inl (some (.int r))) 60 mSH σ := by
  show mK Γ M_X5_tellClaim (d + 2) Q n0 bc bs 71 [(0, .ref 25), (1, .long x1), (3, .int x3)] [.int r] 60 mSH σ
  refine ru_istore (lv1 := [(0, .ref 25), (1, .long x1), (3, .int x3), (4, .int r)]) dX5_tellClaim_71 rfl (by decide) rfl ?_
  refine mK_aload_n dX5_tellClaim_73 rfl rfl (.head _) ?_
  refine mK_iload_n dX5_tellClaim_74 rfl rfl (.tail _ (.tail _ (.head _))) ?_
  refine mK_bipush dX5_tellClaim_75 rfl qbi_10 ?_
  refine mK_iload dX5_tellClaim_77 rfl (.tail _ (.tail _ (.tail _ (.head _)))) ?_
  refine mK_iadd dX5_tellClaim_79 rfl ?_
  refine mK_invV (J := M_X5_takeTime) (k := 2) (as := [.int x3, .int (10 + r)]) (st := []) (c1 := 0) (s1 := 0) dX5_tellClaim_80 rfl jw_X5_takeTime jn_X5_takeTime rfl (Nat.le_of_ble_eq_true rfl) (Nat.zero_le _) (Nat.zero_le _) rfl kw_533 kw_535 kw_19 (b := 25) (Nat.le_of_ble_eq_true rfl) (Nat.le_of_ble_eq_true rfl) rfl ?_
  exact h
set_option maxRecDepth 20000 in
theorem T_X5_tellClaim_25_83a {Γ : Nat × (Nat → Int32)} {d n0 bc bs : Nat} {Q : mQ} {σ : mS} (x1 : Int64) (x3 : Int32) (x4 : Int32) (h : (((σ.1 25 4) = 0 → mCall Γ M_X0_addClaim (d + 1) 0 0 [.ref 5, .long x1, .int x3, .int x4] 60 mSH σ (mRt Γ M_X5_tellClaim (d + 2) Q n0 bc bs 101 [(0, .ref 25), (1, .long x1), (3, .int x3), (4, .int x4)] [])) ∧ (¬ ((σ.1 25 4) = 0) → Q (.inl none) 60 mSH σ))) : mRt Γ M_X5_tellClaim (d + 2) Q n0 bc bs 83 [(0, .ref 25), (1, .long x1), (3, .int x3), (4, .int x4)] [] (.inl none) 60 mSH σ := by
  show mK Γ M_X5_tellClaim (d + 2) Q n0 bc bs 83 [(0, .ref 25), (1, .long x1), (3, .int x3), (4, .int x4)] [] 60 mSH σ
  refine mK_aload_n dX5_tellClaim_83 rfl rfl (.head _) ?_
  refine ru_getI (k := 4) (ci := 4) dX5_tellClaim_84 rfl rfl kw_266 ?_
  refine ru_if_ne (tgt := 101) dX5_tellClaim_87 rfl (by decide) (fun c1 => ?_) (fun c1 => ?_)
  · exact mK_vret dX5_tellClaim_101 rfl (h.2 c1)
  · refine mK_aload_n dX5_tellClaim_90 rfl rfl (.head _) ?_
    refine ru_getR (k := 1) (ci := 4) (a := 5) dX5_tellClaim_91 rfl rfl rfl kw_263 ?_
    refine mK_lload_n dX5_tellClaim_94 rfl rfl (.tail _ (.head _)) ?_
    refine mK_iload_n dX5_tellClaim_95 rfl rfl (.tail _ (.tail _ (.head _))) ?_
    refine mK_iload dX5_tellClaim_96 rfl (.tail _ (.tail _ (.tail _ (.head _)))) ?_
    refine mK_invV (J := M_X0_addClaim) (k := 3) (as := [.long x1, .int x3, .int x4]) (st := []) (c1 := 0) (s1 := 0) dX5_tellClaim_98 rfl jw_X0_addClaim jn_X0_addClaim rfl (Nat.le_of_ble_eq_true rfl) (Nat.zero_le _) (Nat.zero_le _) rfl kw_549 kw_550 kw_551 (b := 5) (Nat.le_of_ble_eq_true rfl) (Nat.le_of_ble_eq_true rfl) rfl ?_
    exact (h.1 c1)
set_option maxRecDepth 20000 in
theorem T_X5_tellClaim_25_101a {Γ : Nat × (Nat → Int32)} {d n0 bc bs : Nat} {Q : mQ} {σ : mS} (x1 : Int64) (x3 : Int32) (x4 : Int32) (h : Q (.inl none) 60 mSH σ) : mRt Γ M_X5_tellClaim (d + 2) Q n0 bc bs 101 [(0, .ref 25), (1, .long x1), (3, .int x3), (4, .int x4)] [] (.inl none) 60 mSH σ := by
  show mK Γ M_X5_tellClaim (d + 2) Q n0 bc bs 101 [(0, .ref 25), (1, .long x1), (3, .int x3), (4, .int x4)] [] 60 mSH σ
  exact mK_vret dX5_tellClaim_101 rfl h
set_option maxRecDepth 20000 in
theorem E_X5_tellMove_25 {Γ : Nat × (Nat → Int32)} {d : Nat} {Q : mQ} {σ : mS} (a1 : Int32) (h : mCall Γ M_X5_takeNewItem (d + 1) 0 0 [.ref 25] 60 mSH σ (mRt Γ M_X5_tellMove (d + 2) Q 60 0 0 4 [(0, .ref 25), (1, .int a1)] [])) : mCall Γ M_X5_tellMove (d + 2) 0 0 [.ref 25, .int a1] 60 mSH σ Q := by
  refine mCall_of rfl (by decide) (Nat.le_of_ble_eq_true rfl) (mOkC (mOk_lo (Nat.le_of_ble_eq_true rfl)) (mOkC mOk_i mOkN)) ?_
  show mK Γ M_X5_tellMove (d + 2) Q 60 0 0 0 [(0, .ref 25), (1, .int a1)] [] 60 mSH σ
  refine mK_aload_n dX5_tellMove_0 rfl rfl (.head _) ?_
  refine mK_invV (J := M_X5_takeNewItem) (k := 0) (as := []) (st := []) (c1 := 0) (s1 := 0) dX5_tellMove_1 rfl jw_X5_takeNewItem jn_X5_takeNewItem rfl (Nat.le_of_ble_eq_true rfl) (Nat.zero_le _) (Nat.zero_le _) rfl kw_520 kw_522 kw_18 (b := 25) (Nat.le_of_ble_eq_true rfl) (Nat.le_of_ble_eq_true rfl) rfl ?_
  exact h
set_option maxRecDepth 20000 in
theorem T_X5_tellMove_25_4a {Γ : Nat × (Nat → Int32)} {d n0 bc bs : Nat} {Q : mQ} {σ : mS} (x1 : Int32) (r : Int64) (h : mCall Γ M_X5_seeItem (d + 1) 0 0 [.ref 25] 60 mSH (mPI σ 25 3 ((σ.1 25 3) + 1)) (mRt Γ M_X5_tellMove (d + 2) Q n0 bc bs 19 [(0, .ref 25), (1, .int x1), (2, .long r)] [])) : mRt Γ M_X5_tellMove (d + 2) Q n0 bc bs 4 [(0, .ref 25), (1, .int x1)] [] (.inl (some (.long r))) 60 mSH σ := by
  show mK Γ M_X5_tellMove (d + 2) Q n0 bc bs 4 [(0, .ref 25), (1, .int x1)] [.long r] 60 mSH σ
  refine ru_lstore_n (lv1 := [(0, .ref 25), (1, .int x1), (2, .long r)]) dX5_tellMove_4 rfl rfl (by decide) rfl ?_
  refine mK_aload_n dX5_tellMove_5 rfl rfl (.head _) ?_
  refine mK_dup dX5_tellMove_6 rfl rfl ?_
  refine ru_getI (k := 3) (ci := 4) dX5_tellMove_7 rfl rfl kw_265 ?_
  refine mK_iconst dX5_tellMove_10 rfl qic_1 ?_
  refine mK_iadd dX5_tellMove_11 rfl ?_
  refine ru_putI (k := 3) (ci := 4) dX5_tellMove_12 rfl rfl rfl kw_265 ?_
  refine mK_aload_n dX5_tellMove_15 rfl rfl (.head _) ?_
  refine mK_invV (J := M_X5_seeItem) (k := 0) (as := []) (st := []) (c1 := 0) (s1 := 0) dX5_tellMove_16 rfl jw_X5_seeItem jn_X5_seeItem rfl (Nat.le_of_ble_eq_true rfl) (Nat.zero_le _) (Nat.zero_le _) rfl kw_579 kw_581 kw_22 (b := 25) (Nat.le_of_ble_eq_true rfl) (Nat.le_of_ble_eq_true rfl) rfl ?_
  exact h
set_option maxRecDepth 20000 in
theorem T_X5_tellMove_25_19a {Γ : Nat × (Nat → Int32)} {d n0 bc bs : Nat} {Q : mQ} {σ : mS} (x1 : Int32) (x2 : Int64) (r : Int32) (h : mCall Γ M_X0_kindOf (d + 1) 0 0 [.ref 5, .int r] 60 mSH σ (mRt Γ M_X5_tellMove (d + 2) Q n0 bc bs 31 [(0, .ref 25), (1, .int x1), (2, .long x2), (4, .int r)] [.ref 25])) : mRt Γ M_X5_tellMove (d + 2) Q n0 bc bs 19 [(0, .ref 25), (1, .int x1), (2, .long x2)] [] (.inl (some (.int r))) 60 mSH σ := by
  show mK Γ M_X5_tellMove (d + 2) Q n0 bc bs 19 [(0, .ref 25), (1, .int x1), (2, .long x2)] [.int r] 60 mSH σ
  refine ru_istore (lv1 := [(0, .ref 25), (1, .int x1), (2, .long x2), (4, .int r)]) dX5_tellMove_19 rfl (by decide) rfl ?_
  refine mK_aload_n dX5_tellMove_21 rfl rfl (.head _) ?_
  refine mK_aload_n dX5_tellMove_22 rfl rfl (.head _) ?_
  refine ru_getR (k := 1) (ci := 4) (a := 5) dX5_tellMove_23 rfl rfl rfl kw_263 ?_
  refine mK_iload dX5_tellMove_26 rfl (.tail _ (.tail _ (.tail _ (.head _)))) ?_
  refine mK_invV (J := M_X0_kindOf) (k := 1) (as := [.int r]) (st := [.ref 25]) (c1 := 0) (s1 := 0) dX5_tellMove_28 rfl jw_X0_kindOf jn_X0_kindOf rfl (Nat.le_of_ble_eq_true rfl) (Nat.zero_le _) (Nat.zero_le _) rfl kw_583 kw_570 kw_571 (b := 5) (Nat.le_of_ble_eq_true rfl) (Nat.le_of_ble_eq_true rfl) rfl ?_
  exact h
set_option maxRecDepth 20000 in
theorem T_X5_tellMove_25_31a {Γ : Nat × (Nat → Int32)} {d n0 bc bs : Nat} {Q : mQ} {σ : mS} (x1 : Int32) (x2 : Int64) (x4 : Int32) (r : Int32) (h : ((r = 0 → mCall Γ M_X5_failIf (d + 1) 0 0 [.ref 25, .int 0, .int 3] 60 mSH σ (mRt Γ M_X5_tellMove (d + 2) Q n0 bc bs 43 [(0, .ref 25), (1, .int x1), (2, .long x2), (4, .int x4)] [])) ∧ (¬ (r = 0) → mCall Γ M_X5_failIf (d + 1) 0 0 [.ref 25, .int 1, .int 3] 60 mSH σ (mRt Γ M_X5_tellMove (d + 2) Q n0 bc bs 43 [(0, .ref 25), (1, .int x1), (2, .long x2), (4, .int x4)] [])))) : mRt Γ M_X5_tellMove (d + 2) Q n0 bc bs 31 [(0, .ref 25), (1, .int x1), (2, .long x2), (4, .int x4)] [.ref 25] (.inl (some (.int r))) 60 mSH σ := by
  show mK Γ M_X5_tellMove (d + 2) Q n0 bc bs 31 [(0, .ref 25), (1, .int x1), (2, .long x2), (4, .int x4)] [.int r, .ref 25] 60 mSH σ
  refine mK_if_eq (tgt := 38) dX5_tellMove_31 rfl (by decide) (fun c1 => ?_) (fun c1 => ?_)
  · refine mK_iconst dX5_tellMove_38 rfl qic_0 ?_
    refine mK_iconst dX5_tellMove_39 rfl qic_3 ?_
    refine mK_invV (J := M_X5_failIf) (k := 2) (as := [.int 0, .int 3]) (st := []) (c1 := 0) (s1 := 0) dX5_tellMove_40 rfl jw_X5_failIf jn_X5_failIf rfl (Nat.le_of_ble_eq_true rfl) (Nat.zero_le _) (Nat.zero_le _) rfl kw_498 kw_500 kw_15 (b := 25) (Nat.le_of_ble_eq_true rfl) (Nat.le_of_ble_eq_true rfl) rfl ?_
    exact (h.1 c1)
  · refine mK_iconst dX5_tellMove_34 rfl qic_1 ?_
    refine mK_goto (tgt := 39) dX5_tellMove_35 (by decide) ?_
    refine mK_iconst dX5_tellMove_39 rfl qic_3 ?_
    refine mK_invV (J := M_X5_failIf) (k := 2) (as := [.int 1, .int 3]) (st := []) (c1 := 0) (s1 := 0) dX5_tellMove_40 rfl jw_X5_failIf jn_X5_failIf rfl (Nat.le_of_ble_eq_true rfl) (Nat.zero_le _) (Nat.zero_le _) rfl kw_498 kw_500 kw_15 (b := 25) (Nat.le_of_ble_eq_true rfl) (Nat.le_of_ble_eq_true rfl) rfl ?_
    exact (h.2 c1)
set_option maxRecDepth 20000 in
theorem T_X5_tellMove_25_43a {Γ : Nat × (Nat → Int32)} {d n0 bc bs : Nat} {Q : mQ} {σ : mS} (x1 : Int32) (x2 : Int64) (x4 : Int32) (h : mCall Γ M_X0_speakerOf (d + 1) 0 0 [.ref 5, .int x4] 60 mSH σ (mRt Γ M_X5_tellMove (d + 2) Q n0 bc bs 52 [(0, .ref 25), (1, .int x1), (2, .long x2), (4, .int x4)] [])) : mRt Γ M_X5_tellMove (d + 2) Q n0 bc bs 43 [(0, .ref 25), (1, .int x1), (2, .long x2), (4, .int x4)] [] (.inl none) 60 mSH σ := by
  show mK Γ M_X5_tellMove (d + 2) Q n0 bc bs 43 [(0, .ref 25), (1, .int x1), (2, .long x2), (4, .int x4)] [] 60 mSH σ
  refine mK_aload_n dX5_tellMove_43 rfl rfl (.head _) ?_
  refine ru_getR (k := 1) (ci := 4) (a := 5) dX5_tellMove_44 rfl rfl rfl kw_263 ?_
  refine mK_iload dX5_tellMove_47 rfl (.tail _ (.tail _ (.tail _ (.head _)))) ?_
  refine mK_invV (J := M_X0_speakerOf) (k := 1) (as := [.int x4]) (st := []) (c1 := 0) (s1 := 0) dX5_tellMove_49 rfl jw_X0_speakerOf jn_X0_speakerOf rfl (Nat.le_of_ble_eq_true rfl) (Nat.zero_le _) (Nat.zero_le _) rfl kw_584 kw_585 kw_586 (b := 5) (Nat.le_of_ble_eq_true rfl) (Nat.le_of_ble_eq_true rfl) rfl ?_
  exact h
set_option maxRecDepth 20000 in
theorem T_X5_tellMove_25_52a {Γ : Nat × (Nat → Int32)} {d n0 bc bs : Nat} {Q : mQ} {σ : mS} (x1 : Int32) (x2 : Int64) (x4 : Int32) (r : Int32) (h : mCall Γ M_X5_seeItem (d + 1) 0 0 [.ref 25] 60 mSH (mPI σ 25 3 ((σ.1 25 3) + 2)) (mRt Γ M_X5_tellMove (d + 2) Q n0 bc bs 68 [(0, .ref 25), (1, .int x1), (2, .long x2), (4, .int x4), (5, .int r)] [])) : mRt Γ M_X5_tellMove (d + 2) Q n0 bc bs 52 [(0, .ref 25), (1, .int x1), (2, .long x2), (4, .int x4)] [] (.inl (some (.int r))) 60 mSH σ := by
  show mK Γ M_X5_tellMove (d + 2) Q n0 bc bs 52 [(0, .ref 25), (1, .int x1), (2, .long x2), (4, .int x4)] [.int r] 60 mSH σ
  refine ru_istore (lv1 := [(0, .ref 25), (1, .int x1), (2, .long x2), (4, .int x4), (5, .int r)]) dX5_tellMove_52 rfl (by decide) rfl ?_
  refine mK_aload_n dX5_tellMove_54 rfl rfl (.head _) ?_
  refine mK_dup dX5_tellMove_55 rfl rfl ?_
  refine ru_getI (k := 3) (ci := 4) dX5_tellMove_56 rfl rfl kw_265 ?_
  refine mK_iconst dX5_tellMove_59 rfl qic_2 ?_
  refine mK_iadd dX5_tellMove_60 rfl ?_
  refine ru_putI (k := 3) (ci := 4) dX5_tellMove_61 rfl rfl rfl kw_265 ?_
  refine mK_aload_n dX5_tellMove_64 rfl rfl (.head _) ?_
  refine mK_invV (J := M_X5_seeItem) (k := 0) (as := []) (st := []) (c1 := 0) (s1 := 0) dX5_tellMove_65 rfl jw_X5_seeItem jn_X5_seeItem rfl (Nat.le_of_ble_eq_true rfl) (Nat.zero_le _) (Nat.zero_le _) rfl kw_579 kw_581 kw_22 (b := 25) (Nat.le_of_ble_eq_true rfl) (Nat.le_of_ble_eq_true rfl) rfl ?_
  exact h
set_option maxRecDepth 20000 in
theorem T_X5_tellMove_25_68a {Γ : Nat × (Nat → Int32)} {d n0 bc bs : Nat} {Q : mQ} {σ : mS} (x1 : Int32) (x2 : Int64) (x4 : Int32) (x5 : Int32) (r : Int32) (h : ((x1 = 1 → mCall Γ M_X0_speakerOf (d + 1) 0 0 [.ref 5, .int r] 60 mSH σ (mRt Γ M_X5_tellMove (d + 2) Q n0 bc bs 85 [(0, .ref 25), (1, .int x1), (2, .long x2), (4, .int x4), (5, .int x5), (6, .int r)] [.ref 25])) ∧ (¬ (x1 = 1) → mCall Γ M_X5_failIf (d + 1) 0 0 [.ref 25, .int 0, .int 6] 60 mSH σ (mRt Γ M_X5_tellMove (d + 2) Q n0 bc bs 100 [(0, .ref 25), (1, .int x1), (2, .long x2), (4, .int x4), (5, .int x5), (6, .int r)] [])))) : mRt Γ M_X5_tellMove (d + 2) Q n0 bc bs 68 [(0, .ref 25), (1, .int x1), (2, .long x2), (4, .int x4), (5, .int x5)] [] (.inl (some (.int r))) 60 mSH σ := by
  show mK Γ M_X5_tellMove (d + 2) Q n0 bc bs 68 [(0, .ref 25), (1, .int x1), (2, .long x2), (4, .int x4), (5, .int x5)] [.int r] 60 mSH σ
  refine ru_istore (lv1 := [(0, .ref 25), (1, .int x1), (2, .long x2), (4, .int x4), (5, .int x5), (6, .int r)]) dX5_tellMove_68 rfl (by decide) rfl ?_
  refine mK_aload_n dX5_tellMove_70 rfl rfl (.head _) ?_
  refine mK_iload_n dX5_tellMove_71 rfl rfl (.tail _ (.head _)) ?_
  refine mK_iconst dX5_tellMove_72 rfl qic_1 ?_
  refine ru_icmp_ne (tgt := 94) dX5_tellMove_73 rfl (by decide) (fun c1 => ?_) (fun c1 => ?_)
  · refine mK_iconst dX5_tellMove_94 rfl qic_0 ?_
    refine mK_bipush dX5_tellMove_95 rfl qbi_6 ?_
    refine mK_invV (J := M_X5_failIf) (k := 2) (as := [.int 0, .int 6]) (st := []) (c1 := 0) (s1 := 0) dX5_tellMove_97 rfl jw_X5_failIf jn_X5_failIf rfl (Nat.le_of_ble_eq_true rfl) (Nat.zero_le _) (Nat.zero_le _) rfl kw_498 kw_500 kw_15 (b := 25) (Nat.le_of_ble_eq_true rfl) (Nat.le_of_ble_eq_true rfl) rfl ?_
    exact (h.2 c1)
  · refine mK_aload_n dX5_tellMove_76 rfl rfl (.head _) ?_
    refine ru_getR (k := 1) (ci := 4) (a := 5) dX5_tellMove_77 rfl rfl rfl kw_263 ?_
    refine mK_iload dX5_tellMove_80 rfl (.tail _ (.tail _ (.tail _ (.tail _ (.tail _ (.head _)))))) ?_
    refine mK_invV (J := M_X0_speakerOf) (k := 1) (as := [.int r]) (st := [.ref 25]) (c1 := 0) (s1 := 0) dX5_tellMove_82 rfl jw_X0_speakerOf jn_X0_speakerOf rfl (Nat.le_of_ble_eq_true rfl) (Nat.zero_le _) (Nat.zero_le _) rfl kw_584 kw_585 kw_586 (b := 5) (Nat.le_of_ble_eq_true rfl) (Nat.le_of_ble_eq_true rfl) rfl ?_
    exact (h.1 c1)
set_option maxRecDepth 20000 in
theorem T_X5_tellMove_25_85a {Γ : Nat × (Nat → Int32)} {d n0 bc bs : Nat} {Q : mQ} {σ : mS} (x1 : Int32) (x2 : Int64) (x4 : Int32) (x5 : Int32) (x6 : Int32) (r : Int32) (h : ((r = x5 → mCall Γ M_X5_failIf (d + 1) 0 0 [.ref 25, .int 1, .int 6] 60 mSH σ (mRt Γ M_X5_tellMove (d + 2) Q n0 bc bs 100 [(0, .ref 25), (1, .int x1), (2, .long x2), (4, .int x4), (5, .int x5), (6, .int x6)] [])) ∧ (¬ (r = x5) → mCall Γ M_X5_failIf (d + 1) 0 0 [.ref 25, .int 0, .int 6] 60 mSH σ (mRt Γ M_X5_tellMove (d + 2) Q n0 bc bs 100 [(0, .ref 25), (1, .int x1), (2, .long x2), (4, .int x4), (5, .int x5), (6, .int x6)] [])))) : mRt Γ M_X5_tellMove (d + 2) Q n0 bc bs 85 [(0, .ref 25), (1, .int x1), (2, .long x2), (4, .int x4), (5, .int x5), (6, .int x6)] [.ref 25] (.inl (some (.int r))) 60 mSH σ := by
  show mK Γ M_X5_tellMove (d + 2) Q n0 bc bs 85 [(0, .ref 25), (1, .int x1), (2, .long x2), (4, .int x4), (5, .int x5), (6, .int x6)] [.int r, .ref 25] 60 mSH σ
  refine mK_iload dX5_tellMove_85 rfl (.tail _ (.tail _ (.tail _ (.tail _ (.head _))))) ?_
  refine ru_icmp_ne (tgt := 94) dX5_tellMove_87 rfl (by decide) (fun c1 => ?_) (fun c1 => ?_)
  · refine mK_iconst dX5_tellMove_94 rfl qic_0 ?_
    refine mK_bipush dX5_tellMove_95 rfl qbi_6 ?_
    refine mK_invV (J := M_X5_failIf) (k := 2) (as := [.int 0, .int 6]) (st := []) (c1 := 0) (s1 := 0) dX5_tellMove_97 rfl jw_X5_failIf jn_X5_failIf rfl (Nat.le_of_ble_eq_true rfl) (Nat.zero_le _) (Nat.zero_le _) rfl kw_498 kw_500 kw_15 (b := 25) (Nat.le_of_ble_eq_true rfl) (Nat.le_of_ble_eq_true rfl) rfl ?_
    exact (h.2 c1)
  · refine mK_iconst dX5_tellMove_90 rfl qic_1 ?_
    refine mK_goto (tgt := 95) dX5_tellMove_91 (by decide) ?_
    refine mK_bipush dX5_tellMove_95 rfl qbi_6 ?_
    refine mK_invV (J := M_X5_failIf) (k := 2) (as := [.int 1, .int 6]) (st := []) (c1 := 0) (s1 := 0) dX5_tellMove_97 rfl jw_X5_failIf jn_X5_failIf rfl (Nat.le_of_ble_eq_true rfl) (Nat.zero_le _) (Nat.zero_le _) rfl kw_498 kw_500 kw_15 (b := 25) (Nat.le_of_ble_eq_true rfl) (Nat.le_of_ble_eq_true rfl) rfl ?_
    exact (h.1 c1)
set_option maxRecDepth 20000 in
theorem T_X5_tellMove_25_100a {Γ : Nat × (Nat → Int32)} {d n0 bc bs : Nat} {Q : mQ} {σ : mS} (x1 : Int32) (x2 : Int64) (x4 : Int32) (x5 : Int32) (x6 : Int32) (h : mCall Γ M_X5_takeNumberBehind (d + 1) 0 0 [.ref 25, .ref 1010, .int 5, .int 1, .int 50] 60 mSH (mPI σ 25 3 ((σ.1 25 3) + 1)) (mRt Γ M_X5_tellMove (d + 2) Q n0 bc bs 121 [(0, .ref 25), (1, .int x1), (2, .long x2), (4, .int x4), (5, .int x5), (6, .int x6)] [])) : mRt Γ M_X5_tellMove (d + 2) Q n0 bc bs 100 [(0, .ref 25), (1, .int x1), (2, .long x2), (4, .int x4), (5, .int x5), (6, .int x6)] [] (.inl none) 60 mSH σ := by
  show mK Γ M_X5_tellMove (d + 2) Q n0 bc bs 100 [(0, .ref 25), (1, .int x1), (2, .long x2), (4, .int x4), (5, .int x5), (6, .int x6)] [] 60 mSH σ
  refine mK_aload_n dX5_tellMove_100 rfl rfl (.head _) ?_
  refine mK_dup dX5_tellMove_101 rfl rfl ?_
  refine ru_getI (k := 3) (ci := 4) dX5_tellMove_102 rfl rfl kw_265 ?_
  refine mK_iconst dX5_tellMove_105 rfl qic_1 ?_
  refine mK_iadd dX5_tellMove_106 rfl ?_
  refine ru_putI (k := 3) (ci := 4) dX5_tellMove_107 rfl rfl rfl kw_265 ?_
  refine mK_aload_n dX5_tellMove_110 rfl rfl (.head _) ?_
  refine mK_getE (i := 10) dX5_tellMove_111 rfl (by decide) kw_588 ?_
  refine mK_iconst dX5_tellMove_114 rfl qic_5 ?_
  refine mK_iconst dX5_tellMove_115 rfl qic_1 ?_
  refine mK_bipush dX5_tellMove_116 rfl qbi_50 ?_
  refine mK_invV (J := M_X5_takeNumberBehind) (k := 4) (as := [.ref 1010, .int 5, .int 1, .int 50]) (st := []) (c1 := 0) (s1 := 0) dX5_tellMove_118 rfl jw_X5_takeNumberBehind jn_X5_takeNumberBehind rfl (Nat.le_of_ble_eq_true rfl) (Nat.zero_le _) (Nat.zero_le _) rfl kw_507 kw_509 kw_16 (b := 25) (Nat.le_of_ble_eq_true rfl) (Nat.le_of_ble_eq_true rfl) rfl ?_
  exact h
set_option maxRecDepth 20000 in
theorem T_X5_tellMove_25_121a {Γ : Nat × (Nat → Int32)} {d n0 bc bs : Nat} {Q : mQ} {σ : mS} (x1 : Int32) (x2 : Int64) (x4 : Int32) (x5 : Int32) (x6 : Int32) (r : Int32) (h : mCall Γ M_X5_sees (d + 1) 0 0 [.ref 25, .ref 1011] 60 mSH σ (mRt Γ M_X5_tellMove (d + 2) Q n0 bc bs 133 [(0, .ref 25), (1, .int x1), (2, .long x2), (4, .int x4), (5, .int x5), (6, .int x6), (7, .int r), (8, .int 1)] [])) : mRt Γ M_X5_tellMove (d + 2) Q n0 bc bs 121 [(0, .ref 25), (1, .int x1), (2, .long x2), (4, .int x4), (5, .int x5), (6, .int x6)] [] (.inl (some (.int r))) 60 mSH σ := by
  show mK Γ M_X5_tellMove (d + 2) Q n0 bc bs 121 [(0, .ref 25), (1, .int x1), (2, .long x2), (4, .int x4), (5, .int x5), (6, .int x6)] [.int r] 60 mSH σ
  refine ru_istore (lv1 := [(0, .ref 25), (1, .int x1), (2, .long x2), (4, .int x4), (5, .int x5), (6, .int x6), (7, .int r)]) dX5_tellMove_121 rfl (by decide) rfl ?_
  refine mK_iconst dX5_tellMove_123 rfl qic_1 ?_
  refine ru_istore (lv1 := [(0, .ref 25), (1, .int x1), (2, .long x2), (4, .int x4), (5, .int x5), (6, .int x6), (7, .int r), (8, .int 1)]) dX5_tellMove_124 rfl (by decide) rfl ?_
  refine mK_aload_n dX5_tellMove_126 rfl rfl (.head _) ?_
  refine mK_getE (i := 11) dX5_tellMove_127 rfl (by decide) kw_589 ?_
  refine mK_invV (J := M_X5_sees) (k := 1) (as := [.ref 1011]) (st := []) (c1 := 0) (s1 := 0) dX5_tellMove_130 rfl jw_X5_sees jn_X5_sees rfl (Nat.le_of_ble_eq_true rfl) (Nat.zero_le _) (Nat.zero_le _) rfl kw_480 kw_482 kw_13 (b := 25) (Nat.le_of_ble_eq_true rfl) (Nat.le_of_ble_eq_true rfl) rfl ?_
  exact h
set_option maxRecDepth 20000 in
theorem T_X5_tellMove_25_133a {Γ : Nat × (Nat → Int32)} {d n0 bc bs : Nat} {Q : mQ} {σ : mS} (x1 : Int32) (x2 : Int64) (x4 : Int32) (x5 : Int32) (x6 : Int32) (x7 : Int32) (x8 : Int32) (r : Int32) (h : ((r = 0 → mCall Γ M_X5_takeTime (d + 1) 0 0 [.ref 25, .int x5, .int (5 + x7)] 60 mSH σ (mRt Γ M_X5_tellMove (d + 2) Q n0 bc bs 172 [(0, .ref 25), (1, .int x1), (2, .long x2), (4, .int x4), (5, .int x5), (6, .int x6), (7, .int x7), (8, .int x8)] [])) ∧ (¬ (r = 0) → mCall Γ M_X4_settle (d + 1) 0 0 [.ref 16, .long 0, .long 0] 60 mSH (mPI σ 25 3 ((σ.1 25 3) + 1)) (mRt Γ M_X5_tellMove (d + 2) Q n0 bc bs 155 [(0, .ref 25), (1, .int x1), (2, .long x2), (4, .int x4), (5, .int x5), (6, .int x6), (7, .int x7), (8, .int x8)] [])))) : mRt Γ M_X5_tellMove (d + 2) Q n0 bc bs 133 [(0, .ref 25), (1, .int x1), (2, .long x2), (4, .int x4), (5, .int x5), (6, .int x6), (7, .int x7), (8, .int x8)] [] (.inl (some (.int r))) 60 mSH σ := by
  show mK Γ M_X5_tellMove (d + 2) Q n0 bc bs 133 [(0, .ref 25), (1, .int x1), (2, .long x2), (4, .int x4), (5, .int x5), (6, .int x6), (7, .int x7), (8, .int x8)] [.int r] 60 mSH σ
  refine mK_if_eq (tgt := 162) dX5_tellMove_133 rfl (by decide) (fun c1 => ?_) (fun c1 => ?_)
  · refine mK_aload_n dX5_tellMove_162 rfl rfl (.head _) ?_
    refine mK_iload dX5_tellMove_163 rfl (.tail _ (.tail _ (.tail _ (.tail _ (.head _))))) ?_
    refine mK_iconst dX5_tellMove_165 rfl qic_5 ?_
    refine mK_iload dX5_tellMove_166 rfl (.tail _ (.tail _ (.tail _ (.tail _ (.tail _ (.tail _ (.head _))))))) ?_
    refine mK_iadd dX5_tellMove_168 rfl ?_
    refine mK_invV (J := M_X5_takeTime) (k := 2) (as := [.int x5, .int (5 + x7)]) (st := []) (c1 := 0) (s1 := 0) dX5_tellMove_169 rfl jw_X5_takeTime jn_X5_takeTime rfl (Nat.le_of_ble_eq_true rfl) (Nat.zero_le _) (Nat.zero_le _) rfl kw_533 kw_535 kw_19 (b := 25) (Nat.le_of_ble_eq_true rfl) (Nat.le_of_ble_eq_true rfl) rfl ?_
    exact (h.1 c1)
  · refine mK_aload_n dX5_tellMove_136 rfl rfl (.head _) ?_
    refine mK_dup dX5_tellMove_137 rfl rfl ?_
    refine ru_getI (k := 3) (ci := 4) dX5_tellMove_138 rfl rfl kw_265 ?_
    refine mK_iconst dX5_tellMove_141 rfl qic_1 ?_
    refine mK_iadd dX5_tellMove_142 rfl ?_
    refine ru_putI (k := 3) (ci := 4) dX5_tellMove_143 rfl rfl rfl kw_265 ?_
    refine mK_aload_n dX5_tellMove_146 rfl rfl (.head _) ?_
    refine ru_getR (k := 2) (ci := 4) (a := 16) dX5_tellMove_147 rfl rfl rfl kw_264 ?_
    refine mK_lconst dX5_tellMove_150 rfl (v := 0) rfl ?_
    refine mK_lconst dX5_tellMove_151 rfl (v := 0) rfl ?_
    refine mK_invV (J := M_X4_settle) (k := 2) (as := [.long 0, .long 0]) (st := []) (c1 := 0) (s1 := 0) dX5_tellMove_152 rfl jw_X4_settle jn_X4_settle rfl (Nat.le_of_ble_eq_true rfl) (Nat.zero_le _) (Nat.zero_le _) rfl kw_590 kw_591 kw_592 (b := 16) (Nat.le_of_ble_eq_true rfl) (Nat.le_of_ble_eq_true rfl) rfl ?_
    exact (h.2 c1)
set_option maxRecDepth 20000 in
theorem T_X5_tellMove_25_172a {Γ : Nat × (Nat → Int32)} {d n0 bc bs : Nat} {Q : mQ} {σ : mS} (x1 : Int32) (x2 : Int64) (x4 : Int32) (x5 : Int32) (x6 : Int32) (x7 : Int32) (x8 : Int32) (h : (((σ.1 25 4) = 0 → ((x8 = 0 → Q (.inl none) 60 mSH σ) ∧ (¬ (x8 = 0) → mCall Γ M_X0_addMove (d + 1) 0 0 [.ref 5, .long x2, .int x1, .int x4, .int x6, .int x7] 60 mSH σ (mRt Γ M_X5_tellMove (d + 2) Q n0 bc bs 199 [(0, .ref 25), (1, .int x1), (2, .long x2), (4, .int x4), (5, .int x5), (6, .int x6), (7, .int x7), (8, .int x8)] [])))) ∧ (¬ ((σ.1 25 4) = 0) → Q (.inl none) 60 mSH σ))) : mRt Γ M_X5_tellMove (d + 2) Q n0 bc bs 172 [(0, .ref 25), (1, .int x1), (2, .long x2), (4, .int x4), (5, .int x5), (6, .int x6), (7, .int x7), (8, .int x8)] [] (.inl none) 60 mSH σ := by
  show mK Γ M_X5_tellMove (d + 2) Q n0 bc bs 172 [(0, .ref 25), (1, .int x1), (2, .long x2), (4, .int x4), (5, .int x5), (6, .int x6), (7, .int x7), (8, .int x8)] [] 60 mSH σ
  refine mK_aload_n dX5_tellMove_172 rfl rfl (.head _) ?_
  refine ru_getI (k := 4) (ci := 4) dX5_tellMove_173 rfl rfl kw_266 ?_
  refine ru_if_ne (tgt := 199) dX5_tellMove_176 rfl (by decide) (fun c1 => ?_) (fun c1 => ?_)
  · exact mK_vret dX5_tellMove_199 rfl (h.2 c1)
  · refine mK_iload dX5_tellMove_179 rfl (.tail _ (.tail _ (.tail _ (.tail _ (.tail _ (.tail _ (.tail _ (.head _)))))))) ?_
    refine mK_if_eq (tgt := 199) dX5_tellMove_181 rfl (by decide) (fun c2 => ?_) (fun c2 => ?_)
    · exact mK_vret dX5_tellMove_199 rfl ((h.1 c1).1 c2)
    · refine mK_aload_n dX5_tellMove_184 rfl rfl (.head _) ?_
      refine ru_getR (k := 1) (ci := 4) (a := 5) dX5_tellMove_185 rfl rfl rfl kw_263 ?_
      refine mK_lload_n dX5_tellMove_188 rfl rfl (.tail _ (.tail _ (.head _))) ?_
      refine mK_iload_n dX5_tellMove_189 rfl rfl (.tail _ (.head _)) ?_
      refine mK_iload dX5_tellMove_190 rfl (.tail _ (.tail _ (.tail _ (.head _)))) ?_
      refine mK_iload dX5_tellMove_192 rfl (.tail _ (.tail _ (.tail _ (.tail _ (.tail _ (.head _)))))) ?_
      refine mK_iload dX5_tellMove_194 rfl (.tail _ (.tail _ (.tail _ (.tail _ (.tail _ (.tail _ (.head _))))))) ?_
      refine mK_invV (J := M_X0_addMove) (k := 5) (as := [.long x2, .int x1, .int x4, .int x6, .int x7]) (st := []) (c1 := 0) (s1 := 0) dX5_tellMove_196 rfl jw_X0_addMove jn_X0_addMove rfl (Nat.le_of_ble_eq_true rfl) (Nat.zero_le _) (Nat.zero_le _) rfl kw_668 kw_669 kw_670 (b := 5) (Nat.le_of_ble_eq_true rfl) (Nat.le_of_ble_eq_true rfl) rfl ?_
      exact ((h.1 c1).2 c2)
set_option maxRecDepth 20000 in
theorem T_X5_tellMove_25_155a {Γ : Nat × (Nat → Int32)} {d n0 bc bs : Nat} {Q : mQ} {σ : mS} (x1 : Int32) (x2 : Int64) (x4 : Int32) (x5 : Int32) (x6 : Int32) (x7 : Int32) (x8 : Int32) (h : mCall Γ M_X5_takeTest (d + 1) 0 0 [.ref 25, .int 0] 60 mSH σ (mRt Γ M_X5_tellMove (d + 2) Q n0 bc bs 160 [(0, .ref 25), (1, .int x1), (2, .long x2), (4, .int x4), (5, .int x5), (6, .int x6), (7, .int x7), (8, .int x8)] [])) : mRt Γ M_X5_tellMove (d + 2) Q n0 bc bs 155 [(0, .ref 25), (1, .int x1), (2, .long x2), (4, .int x4), (5, .int x5), (6, .int x6), (7, .int x7), (8, .int x8)] [] (.inl none) 60 mSH σ := by
  show mK Γ M_X5_tellMove (d + 2) Q n0 bc bs 155 [(0, .ref 25), (1, .int x1), (2, .long x2), (4, .int x4), (5, .int x5), (6, .int x6), (7, .int x7), (8, .int x8)] [] 60 mSH σ
  refine mK_aload_n dX5_tellMove_155 rfl rfl (.head _) ?_
  refine mK_iconst dX5_tellMove_156 rfl qic_0 ?_
  refine mK_invV (J := M_X5_takeTest) (k := 1) (as := [.int 0]) (st := []) (c1 := 0) (s1 := 0) dX5_tellMove_157 rfl jw_X5_takeTest jn_X5_takeTest rfl (Nat.le_of_ble_eq_true rfl) (Nat.zero_le _) (Nat.zero_le _) rfl kw_640 kw_642 kw_25 (b := 25) (Nat.le_of_ble_eq_true rfl) (Nat.le_of_ble_eq_true rfl) rfl ?_
  exact h
set_option maxRecDepth 20000 in
theorem T_X5_tellMove_25_199a {Γ : Nat × (Nat → Int32)} {d n0 bc bs : Nat} {Q : mQ} {σ : mS} (x1 : Int32) (x2 : Int64) (x4 : Int32) (x5 : Int32) (x6 : Int32) (x7 : Int32) (x8 : Int32) (h : Q (.inl none) 60 mSH σ) : mRt Γ M_X5_tellMove (d + 2) Q n0 bc bs 199 [(0, .ref 25), (1, .int x1), (2, .long x2), (4, .int x4), (5, .int x5), (6, .int x6), (7, .int x7), (8, .int x8)] [] (.inl none) 60 mSH σ := by
  show mK Γ M_X5_tellMove (d + 2) Q n0 bc bs 199 [(0, .ref 25), (1, .int x1), (2, .long x2), (4, .int x4), (5, .int x5), (6, .int x6), (7, .int x7), (8, .int x8)] [] 60 mSH σ
  exact mK_vret dX5_tellMove_199 rfl h
set_option maxRecDepth 20000 in
theorem T_X5_tellMove_25_160a {Γ : Nat × (Nat → Int32)} {d n0 bc bs : Nat} {Q : mQ} {σ : mS} (x1 : Int32) (x2 : Int64) (x4 : Int32) (x5 : Int32) (x6 : Int32) (x7 : Int32) (x8 : Int32) (r : Int32) (h : mCall Γ M_X5_takeTime (d + 1) 0 0 [.ref 25, .int x5, .int (5 + x7)] 60 mSH σ (mRt Γ M_X5_tellMove (d + 2) Q n0 bc bs 172 [(0, .ref 25), (1, .int x1), (2, .long x2), (4, .int x4), (5, .int x5), (6, .int x6), (7, .int x7), (8, .int r)] [])) : mRt Γ M_X5_tellMove (d + 2) Q n0 bc bs 160 [(0, .ref 25), (1, .int x1), (2, .long x2), (4, .int x4), (5, .int x5), (6, .int x6), (7, .int x7), (8, .int x8)] [] (.inl (some (.int r))) 60 mSH σ := by
  show mK Γ M_X5_tellMove (d + 2) Q n0 bc bs 160 [(0, .ref 25), (1, .int x1), (2, .long x2), (4, .int x4), (5, .int x5), (6, .int x6), (7, .int x7), (8, .int x8)] [.int r] 60 mSH σ
  refine ru_istore (lv1 := [(0, .ref 25), (1, .int x1), (2, .long x2), (4, .int x4), (5, .int x5), (6, .int x6), (7, .int x7), (8, .int r)]) dX5_tellMove_160 rfl (by decide) rfl ?_
  refine mK_aload_n dX5_tellMove_162 rfl rfl (.head _) ?_
  refine mK_iload dX5_tellMove_163 rfl (.tail _ (.tail _ (.tail _ (.tail _ (.head _))))) ?_
  refine mK_iconst dX5_tellMove_165 rfl qic_5 ?_
  refine mK_iload dX5_tellMove_166 rfl (.tail _ (.tail _ (.tail _ (.tail _ (.tail _ (.tail _ (.head _))))))) ?_
  refine mK_iadd dX5_tellMove_168 rfl ?_
  refine mK_invV (J := M_X5_takeTime) (k := 2) (as := [.int x5, .int (5 + x7)]) (st := []) (c1 := 0) (s1 := 0) dX5_tellMove_169 rfl jw_X5_takeTime jn_X5_takeTime rfl (Nat.le_of_ble_eq_true rfl) (Nat.zero_le _) (Nat.zero_le _) rfl kw_533 kw_535 kw_19 (b := 25) (Nat.le_of_ble_eq_true rfl) (Nat.le_of_ble_eq_true rfl) rfl ?_
  exact h
set_option maxRecDepth 20000 in
theorem E_X5_tellConceded_25 {Γ : Nat × (Nat → Int32)} {d : Nat} {Q : mQ} {σ : mS} (a1 : Int32) (h : mCall Γ M_X5_seeItem (d + 1) 0 0 [.ref 25] 60 mSH σ (mRt Γ M_X5_tellConceded (d + 2) Q 60 0 0 4 [(0, .ref 25), (1, .int a1)] [])) : mCall Γ M_X5_tellConceded (d + 2) 0 0 [.ref 25, .int a1] 60 mSH σ Q := by
  refine mCall_of rfl (by decide) (Nat.le_of_ble_eq_true rfl) (mOkC (mOk_lo (Nat.le_of_ble_eq_true rfl)) (mOkC mOk_i mOkN)) ?_
  show mK Γ M_X5_tellConceded (d + 2) Q 60 0 0 0 [(0, .ref 25), (1, .int a1)] [] 60 mSH σ
  refine mK_aload_n dX5_tellConceded_0 rfl rfl (.head _) ?_
  refine mK_invV (J := M_X5_seeItem) (k := 0) (as := []) (st := []) (c1 := 0) (s1 := 0) dX5_tellConceded_1 rfl jw_X5_seeItem jn_X5_seeItem rfl (Nat.le_of_ble_eq_true rfl) (Nat.zero_le _) (Nat.zero_le _) rfl kw_579 kw_581 kw_22 (b := 25) (Nat.le_of_ble_eq_true rfl) (Nat.le_of_ble_eq_true rfl) rfl ?_
  exact h
set_option maxRecDepth 20000 in
theorem T_X5_tellConceded_25_4a {Γ : Nat × (Nat → Int32)} {d n0 bc bs : Nat} {Q : mQ} {σ : mS} (x1 : Int32) (r : Int32) (h : mCall Γ M_X0_isConceded (d + 1) 0 0 [.ref 5, .int r] 60 mSH σ (mRt Γ M_X5_tellConceded (d + 2) Q n0 bc bs 14 [(0, .ref 25), (1, .int x1), (2, .int r)] [.ref 25])) : mRt Γ M_X5_tellConceded (d + 2) Q n0 bc bs 4 [(0, .ref 25), (1, .int x1)] [] (.inl (some (.int r))) 60 mSH σ := by
  show mK Γ M_X5_tellConceded (d + 2) Q n0 bc bs 4 [(0, .ref 25), (1, .int x1)] [.int r] 60 mSH σ
  refine ru_istore_n (lv1 := [(0, .ref 25), (1, .int x1), (2, .int r)]) dX5_tellConceded_4 rfl rfl (by decide) rfl ?_
  refine mK_aload_n dX5_tellConceded_5 rfl rfl (.head _) ?_
  refine mK_aload_n dX5_tellConceded_6 rfl rfl (.head _) ?_
  refine ru_getR (k := 1) (ci := 4) (a := 5) dX5_tellConceded_7 rfl rfl rfl kw_263 ?_
  refine mK_iload_n dX5_tellConceded_10 rfl rfl (.tail _ (.tail _ (.head _))) ?_
  refine mK_invV (J := M_X0_isConceded) (k := 1) (as := [.int r]) (st := [.ref 25]) (c1 := 0) (s1 := 0) dX5_tellConceded_11 rfl jw_X0_isConceded jn_X0_isConceded rfl (Nat.le_of_ble_eq_true rfl) (Nat.zero_le _) (Nat.zero_le _) rfl kw_655 kw_656 kw_657 (b := 5) (Nat.le_of_ble_eq_true rfl) (Nat.le_of_ble_eq_true rfl) rfl ?_
  exact h
set_option maxRecDepth 20000 in
theorem T_X5_tellConceded_25_14a {Γ : Nat × (Nat → Int32)} {d n0 bc bs : Nat} {Q : mQ} {σ : mS} (x1 : Int32) (x2 : Int32) (r : Int32) (h : ((r = x1 → mCall Γ M_X5_failIf (d + 1) 0 0 [.ref 25, .int 1, .int 6] 60 mSH σ (mRt Γ M_X5_tellConceded (d + 2) Q n0 bc bs 28 [(0, .ref 25), (1, .int x1), (2, .int x2)] [])) ∧ (¬ (r = x1) → mCall Γ M_X5_failIf (d + 1) 0 0 [.ref 25, .int 0, .int 6] 60 mSH σ (mRt Γ M_X5_tellConceded (d + 2) Q n0 bc bs 28 [(0, .ref 25), (1, .int x1), (2, .int x2)] [])))) : mRt Γ M_X5_tellConceded (d + 2) Q n0 bc bs 14 [(0, .ref 25), (1, .int x1), (2, .int x2)] [.ref 25] (.inl (some (.int r))) 60 mSH σ := by
  show mK Γ M_X5_tellConceded (d + 2) Q n0 bc bs 14 [(0, .ref 25), (1, .int x1), (2, .int x2)] [.int r, .ref 25] 60 mSH σ
  refine mK_iload_n dX5_tellConceded_14 rfl rfl (.tail _ (.head _)) ?_
  refine ru_icmp_ne (tgt := 22) dX5_tellConceded_15 rfl (by decide) (fun c1 => ?_) (fun c1 => ?_)
  · refine mK_iconst dX5_tellConceded_22 rfl qic_0 ?_
    refine mK_bipush dX5_tellConceded_23 rfl qbi_6 ?_
    refine mK_invV (J := M_X5_failIf) (k := 2) (as := [.int 0, .int 6]) (st := []) (c1 := 0) (s1 := 0) dX5_tellConceded_25 rfl jw_X5_failIf jn_X5_failIf rfl (Nat.le_of_ble_eq_true rfl) (Nat.zero_le _) (Nat.zero_le _) rfl kw_498 kw_500 kw_15 (b := 25) (Nat.le_of_ble_eq_true rfl) (Nat.le_of_ble_eq_true rfl) rfl ?_
    exact (h.2 c1)
  · refine mK_iconst dX5_tellConceded_18 rfl qic_1 ?_
    refine mK_goto (tgt := 23) dX5_tellConceded_19 (by decide) ?_
    refine mK_bipush dX5_tellConceded_23 rfl qbi_6 ?_
    refine mK_invV (J := M_X5_failIf) (k := 2) (as := [.int 1, .int 6]) (st := []) (c1 := 0) (s1 := 0) dX5_tellConceded_25 rfl jw_X5_failIf jn_X5_failIf rfl (Nat.le_of_ble_eq_true rfl) (Nat.zero_le _) (Nat.zero_le _) rfl kw_498 kw_500 kw_15 (b := 25) (Nat.le_of_ble_eq_true rfl) (Nat.le_of_ble_eq_true rfl) rfl ?_
    exact (h.1 c1)
set_option maxRecDepth 20000 in
theorem T_X5_tellConceded_25_28a {Γ : Nat × (Nat → Int32)} {d n0 bc bs : Nat} {Q : mQ} {σ : mS} (x1 : Int32) (x2 : Int32) (h : mCall Γ M_X0_speakerOf (d + 1) 0 0 [.ref 5, .int x2] 60 mSH (mPI σ 25 3 ((σ.1 25 3) + 1)) (mRt Γ M_X5_tellConceded (d + 2) Q n0 bc bs 47 [(0, .ref 25), (1, .int x1), (2, .int x2)] [.ref 25])) : mRt Γ M_X5_tellConceded (d + 2) Q n0 bc bs 28 [(0, .ref 25), (1, .int x1), (2, .int x2)] [] (.inl none) 60 mSH σ := by
  show mK Γ M_X5_tellConceded (d + 2) Q n0 bc bs 28 [(0, .ref 25), (1, .int x1), (2, .int x2)] [] 60 mSH σ
  refine mK_aload_n dX5_tellConceded_28 rfl rfl (.head _) ?_
  refine mK_dup dX5_tellConceded_29 rfl rfl ?_
  refine ru_getI (k := 3) (ci := 4) dX5_tellConceded_30 rfl rfl kw_265 ?_
  refine mK_iconst dX5_tellConceded_33 rfl qic_1 ?_
  refine mK_iadd dX5_tellConceded_34 rfl ?_
  refine ru_putI (k := 3) (ci := 4) dX5_tellConceded_35 rfl rfl rfl kw_265 ?_
  refine mK_aload_n dX5_tellConceded_38 rfl rfl (.head _) ?_
  refine mK_aload_n dX5_tellConceded_39 rfl rfl (.head _) ?_
  refine ru_getR (k := 1) (ci := 4) (a := 5) dX5_tellConceded_40 rfl rfl rfl kw_263 ?_
  refine mK_iload_n dX5_tellConceded_43 rfl rfl (.tail _ (.tail _ (.head _))) ?_
  refine mK_invV (J := M_X0_speakerOf) (k := 1) (as := [.int x2]) (st := [.ref 25]) (c1 := 0) (s1 := 0) dX5_tellConceded_44 rfl jw_X0_speakerOf jn_X0_speakerOf rfl (Nat.le_of_ble_eq_true rfl) (Nat.zero_le _) (Nat.zero_le _) rfl kw_584 kw_585 kw_586 (b := 5) (Nat.le_of_ble_eq_true rfl) (Nat.le_of_ble_eq_true rfl) rfl ?_
  exact h
set_option maxRecDepth 20000 in
theorem T_X5_tellConceded_25_47a {Γ : Nat × (Nat → Int32)} {d n0 bc bs : Nat} {Q : mQ} {σ : mS} (x1 : Int32) (x2 : Int32) (r : Int32) (h : mCall Γ M_X5_takeTime (d + 1) 0 0 [.ref 25, .int r, .int 2] 60 mSH σ (mRt Γ M_X5_tellConceded (d + 2) Q n0 bc bs 51 [(0, .ref 25), (1, .int x1), (2, .int x2)] [])) : mRt Γ M_X5_tellConceded (d + 2) Q n0 bc bs 47 [(0, .ref 25), (1, .int x1), (2, .int x2)] [.ref 25] (.inl (some (.int r))) 60 mSH σ := by
  show mK Γ M_X5_tellConceded (d + 2) Q n0 bc bs 47 [(0, .ref 25), (1, .int x1), (2, .int x2)] [.int r, .ref 25] 60 mSH σ
  refine mK_iconst dX5_tellConceded_47 rfl qic_2 ?_
  refine mK_invV (J := M_X5_takeTime) (k := 2) (as := [.int r, .int 2]) (st := []) (c1 := 0) (s1 := 0) dX5_tellConceded_48 rfl jw_X5_takeTime jn_X5_takeTime rfl (Nat.le_of_ble_eq_true rfl) (Nat.zero_le _) (Nat.zero_le _) rfl kw_533 kw_535 kw_19 (b := 25) (Nat.le_of_ble_eq_true rfl) (Nat.le_of_ble_eq_true rfl) rfl ?_
  exact h
set_option maxRecDepth 20000 in
theorem T_X5_tellConceded_25_51a {Γ : Nat × (Nat → Int32)} {d n0 bc bs : Nat} {Q : mQ} {σ : mS} (x1 : Int32) (x2 : Int32) (h : (((σ.1 25 4) = 0 → mCall Γ M_X0_setConceded (d + 1) 0 0 [.ref 5, .int x2, .int x1] 60 mSH σ (mRt Γ M_X5_tellConceded (d + 2) Q n0 bc bs 67 [(0, .ref 25), (1, .int x1), (2, .int x2)] [])) ∧ (¬ ((σ.1 25 4) = 0) → Q (.inl none) 60 mSH σ))) : mRt Γ M_X5_tellConceded (d + 2) Q n0 bc bs 51 [(0, .ref 25), (1, .int x1), (2, .int x2)] [] (.inl none) 60 mSH σ := by
  show mK Γ M_X5_tellConceded (d + 2) Q n0 bc bs 51 [(0, .ref 25), (1, .int x1), (2, .int x2)] [] 60 mSH σ
  refine mK_aload_n dX5_tellConceded_51 rfl rfl (.head _) ?_
  refine ru_getI (k := 4) (ci := 4) dX5_tellConceded_52 rfl rfl kw_266 ?_
  refine ru_if_ne (tgt := 67) dX5_tellConceded_55 rfl (by decide) (fun c1 => ?_) (fun c1 => ?_)
  · exact mK_vret dX5_tellConceded_67 rfl (h.2 c1)
  · refine mK_aload_n dX5_tellConceded_58 rfl rfl (.head _) ?_
    refine ru_getR (k := 1) (ci := 4) (a := 5) dX5_tellConceded_59 rfl rfl rfl kw_263 ?_
    refine mK_iload_n dX5_tellConceded_62 rfl rfl (.tail _ (.tail _ (.head _))) ?_
    refine mK_iload_n dX5_tellConceded_63 rfl rfl (.tail _ (.head _)) ?_
    refine mK_invV (J := M_X0_setConceded) (k := 2) (as := [.int x2, .int x1]) (st := []) (c1 := 0) (s1 := 0) dX5_tellConceded_64 rfl jw_X0_setConceded jn_X0_setConceded rfl (Nat.le_of_ble_eq_true rfl) (Nat.zero_le _) (Nat.zero_le _) rfl kw_678 kw_679 kw_680 (b := 5) (Nat.le_of_ble_eq_true rfl) (Nat.le_of_ble_eq_true rfl) rfl ?_
    exact (h.1 c1)
set_option maxRecDepth 20000 in
theorem T_X5_tellConceded_25_67a {Γ : Nat × (Nat → Int32)} {d n0 bc bs : Nat} {Q : mQ} {σ : mS} (x1 : Int32) (x2 : Int32) (h : Q (.inl none) 60 mSH σ) : mRt Γ M_X5_tellConceded (d + 2) Q n0 bc bs 67 [(0, .ref 25), (1, .int x1), (2, .int x2)] [] (.inl none) 60 mSH σ := by
  show mK Γ M_X5_tellConceded (d + 2) Q n0 bc bs 67 [(0, .ref 25), (1, .int x1), (2, .int x2)] [] 60 mSH σ
  exact mK_vret dX5_tellConceded_67 rfl h
set_option maxRecDepth 20000 in
theorem E_X5_carryOut_25 {Γ : Nat × (Nat → Int32)} {d : Nat} {Q : mQ} {σ : mS} (h : mK Γ M_X5_carryOut (d + 2) Q 60 0 0 12 [(0, .ref 25), (1, .int 0)] [] 60 mSH (mPI (mPI σ 25 3 0) 25 4 0)) : mCall Γ M_X5_carryOut (d + 2) 0 0 [.ref 25] 60 mSH σ Q := by
  refine mCall_of rfl (by decide) (Nat.le_of_ble_eq_true rfl) (mOkC (mOk_lo (Nat.le_of_ble_eq_true rfl)) mOkN) ?_
  show mK Γ M_X5_carryOut (d + 2) Q 60 0 0 0 [(0, .ref 25)] [] 60 mSH σ
  refine mK_aload_n dX5_carryOut_0 rfl rfl (.head _) ?_
  refine mK_iconst dX5_carryOut_1 rfl qic_0 ?_
  refine ru_putI (k := 3) (ci := 4) dX5_carryOut_2 rfl rfl rfl kw_265 ?_
  refine mK_aload_n dX5_carryOut_5 rfl rfl (.head _) ?_
  refine mK_iconst dX5_carryOut_6 rfl qic_0 ?_
  refine ru_putI (k := 4) (ci := 4) dX5_carryOut_7 rfl rfl rfl kw_266 ?_
  refine mK_iconst dX5_carryOut_10 rfl qic_0 ?_
  refine ru_istore_n (lv1 := [(0, .ref 25), (1, .int 0)]) dX5_carryOut_11 rfl rfl (by decide) rfl ?_
  exact h
set_option maxRecDepth 20000 in
theorem T_X5_carryOut_25_12 {Γ : Nat × (Nat → Int32)} {d n0 bc bs : Nat} {Q : mQ} {σ : mS} (x1 : Int32) (h : ((400 ≤ x1 → Q (.inl (some (.int (σ.1 25 4)))) 60 mSH σ) ∧ (¬ (400 ≤ x1) → (((σ.1 25 4) = 0 → mCall Γ M_X5_sees (d + 1) 0 0 [.ref 25, .ref 1026] 60 mSH σ (mRt Γ M_X5_carryOut (d + 2) Q n0 bc bs 33 [(0, .ref 25), (1, .int x1)] [])) ∧ (¬ ((σ.1 25 4) = 0) → Q (.inl (some (.int (σ.1 25 4)))) 60 mSH σ))))) : mK Γ M_X5_carryOut (d + 2) Q n0 bc bs 12 [(0, .ref 25), (1, .int x1)] [] 60 mSH σ := by
  refine mK_iload_n dX5_carryOut_12 rfl rfl (.tail _ (.head _)) ?_
  refine mK_sipush dX5_carryOut_13 rfl qsi_400 ?_
  refine mK_icmp_ge (tgt := 151) dX5_carryOut_16 rfl (by decide) (fun c1 => ?_) (fun c1 => ?_)
  · refine mK_aload_n dX5_carryOut_151 rfl rfl (.head _) ?_
    refine ru_getI (k := 4) (ci := 4) dX5_carryOut_152 rfl rfl kw_266 ?_
    exact mK_iret dX5_carryOut_155 rfl (h.1 c1)
  · refine mK_aload_n dX5_carryOut_19 rfl rfl (.head _) ?_
    refine ru_getI (k := 4) (ci := 4) dX5_carryOut_20 rfl rfl kw_266 ?_
    refine ru_if_ne (tgt := 151) dX5_carryOut_23 rfl (by decide) (fun c2 => ?_) (fun c2 => ?_)
    · refine mK_aload_n dX5_carryOut_151 rfl rfl (.head _) ?_
      refine ru_getI (k := 4) (ci := 4) dX5_carryOut_152 rfl rfl kw_266 ?_
      exact mK_iret dX5_carryOut_155 rfl ((h.2 c1).2 c2)
    · refine mK_aload_n dX5_carryOut_26 rfl rfl (.head _) ?_
      refine mK_getE (i := 26) dX5_carryOut_27 rfl (by decide) kw_479 ?_
      refine mK_invV (J := M_X5_sees) (k := 1) (as := [.ref 1026]) (st := []) (c1 := 0) (s1 := 0) dX5_carryOut_30 rfl jw_X5_sees jn_X5_sees rfl (Nat.le_of_ble_eq_true rfl) (Nat.zero_le _) (Nat.zero_le _) rfl kw_480 kw_482 kw_13 (b := 25) (Nat.le_of_ble_eq_true rfl) (Nat.le_of_ble_eq_true rfl) rfl ?_
      exact ((h.2 c1).1 c2)
set_option maxRecDepth 20000 in
theorem T_X5_carryOut_25_33a {Γ : Nat × (Nat → Int32)} {d n0 bc bs : Nat} {Q : mQ} {σ : mS} (x1 : Int32) (r : Int32) (h : ((r = 0 → mCall Γ M_X6_kindAt (d + 1) 0 0 [.ref 20, .int (σ.1 25 3)] 60 mSH σ (mRt Γ M_X5_carryOut (d + 2) Q n0 bc bs 47 [(0, .ref 25), (1, .int x1)] [])) ∧ (¬ (r = 0) → Q (.inl (some (.int (σ.1 25 4)))) 60 mSH σ))) : mRt Γ M_X5_carryOut (d + 2) Q n0 bc bs 33 [(0, .ref 25), (1, .int x1)] [] (.inl (some (.int r))) 60 mSH σ := by
  show mK Γ M_X5_carryOut (d + 2) Q n0 bc bs 33 [(0, .ref 25), (1, .int x1)] [.int r] 60 mSH σ
  refine ru_if_ne (tgt := 151) dX5_carryOut_33 rfl (by decide) (fun c1 => ?_) (fun c1 => ?_)
  · refine mK_aload_n dX5_carryOut_151 rfl rfl (.head _) ?_
    refine ru_getI (k := 4) (ci := 4) dX5_carryOut_152 rfl rfl kw_266 ?_
    exact mK_iret dX5_carryOut_155 rfl (h.2 c1)
  · refine mK_aload_n dX5_carryOut_36 rfl rfl (.head _) ?_
    refine ru_getR (k := 0) (ci := 4) (a := 20) dX5_carryOut_37 rfl rfl rfl kw_262 ?_
    refine mK_aload_n dX5_carryOut_40 rfl rfl (.head _) ?_
    refine ru_getI (k := 3) (ci := 4) dX5_carryOut_41 rfl rfl kw_265 ?_
    refine mK_invV (J := M_X6_kindAt) (k := 1) (as := [.int (σ.1 25 3)]) (st := []) (c1 := 0) (s1 := 0) dX5_carryOut_44 rfl jw_X6_kindAt jn_X6_kindAt rfl (Nat.le_of_ble_eq_true rfl) (Nat.zero_le _) (Nat.zero_le _) rfl kw_484 kw_379 kw_380 (b := 20) (Nat.le_of_ble_eq_true rfl) (Nat.le_of_ble_eq_true rfl) rfl ?_
    exact (h.1 c1)
set_option maxRecDepth 20000 in
theorem T_X5_carryOut_25_47a {Γ : Nat × (Nat → Int32)} {d n0 bc bs : Nat} {Q : mQ} {σ : mS} (x1 : Int32) (r : Nat) (ha_r : 1000 ≤ r ∧ r < 1028) (h : ((r = 1000 → mCall Γ M_X5_tellSpeaker (d + 1) 0 0 [.ref 25] 60 mSH (mPI σ 25 3 ((σ.1 25 3) + 1)) (mRt Γ M_X5_carryOut (d + 2) Q n0 bc bs 69 [(0, .ref 25), (1, .int x1), (2, .ref r)] [])) ∧ (¬ (r = 1000) → ((r = 1002 → mCall Γ M_X5_tellClaim (d + 1) 0 0 [.ref 25] 60 mSH (mPI σ 25 3 ((σ.1 25 3) + 1)) (mRt Γ M_X5_carryOut (d + 2) Q n0 bc bs 83 [(0, .ref 25), (1, .int x1), (2, .ref r)] [])) ∧ (¬ (r = 1002) → ((r = 1005 → ((r = 1005 → mCall Γ M_X5_tellMove (d + 1) 0 0 [.ref 25, .int 1] 60 mSH (mPI σ 25 3 ((σ.1 25 3) + 1)) (mRt Γ M_X5_carryOut (d + 2) Q n0 bc bs 116 [(0, .ref 25), (1, .int x1), (2, .ref r)] [])) ∧ (¬ (r = 1005) → mCall Γ M_X5_tellMove (d + 1) 0 0 [.ref 25, .int 2] 60 mSH (mPI σ 25 3 ((σ.1 25 3) + 1)) (mRt Γ M_X5_carryOut (d + 2) Q n0 bc bs 116 [(0, .ref 25), (1, .int x1), (2, .ref r)] [])))) ∧ (¬ (r = 1005) → ((r = 1006 → ((r = 1005 → mCall Γ M_X5_tellMove (d + 1) 0 0 [.ref 25, .int 1] 60 mSH (mPI σ 25 3 ((σ.1 25 3) + 1)) (mRt Γ M_X5_carryOut (d + 2) Q n0 bc bs 116 [(0, .ref 25), (1, .int x1), (2, .ref r)] [])) ∧ (¬ (r = 1005) → mCall Γ M_X5_tellMove (d + 1) 0 0 [.ref 25, .int 2] 60 mSH (mPI σ 25 3 ((σ.1 25 3) + 1)) (mRt Γ M_X5_carryOut (d + 2) Q n0 bc bs 116 [(0, .ref 25), (1, .int x1), (2, .ref r)] [])))) ∧ (¬ (r = 1006) → ((r = 1012 → mCall Γ M_X5_tellConceded (d + 1) 0 0 [.ref 25, .int 1] 60 mSH (mPI σ 25 3 ((σ.1 25 3) + 1)) (mRt Γ M_X5_carryOut (d + 2) Q n0 bc bs 135 [(0, .ref 25), (1, .int x1), (2, .ref r)] [])) ∧ (¬ (r = 1012) → mCall Γ M_X5_tellConceded (d + 1) 0 0 [.ref 25, .int 0] 60 mSH (mPI σ 25 3 ((σ.1 25 3) + 1)) (mRt Γ M_X5_carryOut (d + 2) Q n0 bc bs 135 [(0, .ref 25), (1, .int x1), (2, .ref r)] [])))))))))))) : mRt Γ M_X5_carryOut (d + 2) Q n0 bc bs 47 [(0, .ref 25), (1, .int x1)] [] (.inl (some (.ref r))) 60 mSH σ := by
  show mK Γ M_X5_carryOut (d + 2) Q n0 bc bs 47 [(0, .ref 25), (1, .int x1)] [.ref r] 60 mSH σ
  refine ru_astore_n (lv1 := [(0, .ref 25), (1, .int x1), (2, .ref r)]) dX5_carryOut_47 rfl rfl (by decide) rfl ?_
  refine mK_aload_n dX5_carryOut_48 rfl rfl (.head _) ?_
  refine mK_dup dX5_carryOut_49 rfl rfl ?_
  refine ru_getI (k := 3) (ci := 4) dX5_carryOut_50 rfl rfl kw_265 ?_
  refine mK_iconst dX5_carryOut_53 rfl qic_1 ?_
  refine mK_iadd dX5_carryOut_54 rfl ?_
  refine ru_putI (k := 3) (ci := 4) dX5_carryOut_55 rfl rfl rfl kw_265 ?_
  refine mK_aload_n dX5_carryOut_58 rfl rfl (.tail _ (.tail _ (.head _))) ?_
  refine mK_getE (i := 0) dX5_carryOut_59 rfl (by decide) kw_485 ?_
  refine ru_acmp_ne (tgt := 72) dX5_carryOut_62 rfl (by decide) ha_r (by decide) (fun c1 => ?_) (fun c1 => ?_)
  · refine mK_aload_n dX5_carryOut_65 rfl rfl (.head _) ?_
    refine mK_invV (J := M_X5_tellSpeaker) (k := 0) (as := []) (st := []) (c1 := 0) (s1 := 0) dX5_carryOut_66 rfl jw_X5_tellSpeaker jn_X5_tellSpeaker rfl (Nat.le_of_ble_eq_true rfl) (Nat.zero_le _) (Nat.zero_le _) rfl kw_486 kw_488 kw_14 (b := 25) (Nat.le_of_ble_eq_true rfl) (Nat.le_of_ble_eq_true rfl) rfl ?_
    exact (h.1 c1)
  · refine mK_aload_n dX5_carryOut_72 rfl rfl (.tail _ (.tail _ (.head _))) ?_
    refine mK_getE (i := 2) dX5_carryOut_73 rfl (by decide) kw_515 ?_
    refine ru_acmp_ne (tgt := 86) dX5_carryOut_76 rfl (by decide) ha_r (by decide) (fun c2 => ?_) (fun c2 => ?_)
    · refine mK_aload_n dX5_carryOut_79 rfl rfl (.head _) ?_
      refine mK_invV (J := M_X5_tellClaim) (k := 0) (as := []) (st := []) (c1 := 0) (s1 := 0) dX5_carryOut_80 rfl jw_X5_tellClaim jn_X5_tellClaim rfl (Nat.le_of_ble_eq_true rfl) (Nat.zero_le _) (Nat.zero_le _) rfl kw_516 kw_518 kw_17 (b := 25) (Nat.le_of_ble_eq_true rfl) (Nat.le_of_ble_eq_true rfl) rfl ?_
      exact ((h.2 c1).1 c2)
    · refine mK_aload_n dX5_carryOut_86 rfl rfl (.tail _ (.tail _ (.head _))) ?_
      refine mK_getE (i := 5) dX5_carryOut_87 rfl (by decide) kw_573 ?_
      refine ru_acmp_eq (tgt := 100) dX5_carryOut_90 rfl (by decide) ha_r (by decide) (fun c3 => ?_) (fun c3 => ?_)
      · refine mK_aload_n dX5_carryOut_100 rfl rfl (.head _) ?_
        refine mK_aload_n dX5_carryOut_101 rfl rfl (.tail _ (.tail _ (.head _))) ?_
        refine mK_getE (i := 5) dX5_carryOut_102 rfl (by decide) kw_573 ?_
        refine ru_acmp_ne (tgt := 112) dX5_carryOut_105 rfl (by decide) ha_r (by decide) (fun c4 => ?_) (fun c4 => ?_)
        · refine mK_iconst dX5_carryOut_108 rfl qic_1 ?_
          refine mK_goto (tgt := 113) dX5_carryOut_109 (by decide) ?_
          refine mK_invV (J := M_X5_tellMove) (k := 1) (as := [.int 1]) (st := []) (c1 := 0) (s1 := 0) dX5_carryOut_113 rfl jw_X5_tellMove jn_X5_tellMove rfl (Nat.le_of_ble_eq_true rfl) (Nat.zero_le _) (Nat.zero_le _) rfl kw_575 kw_577 kw_21 (b := 25) (Nat.le_of_ble_eq_true rfl) (Nat.le_of_ble_eq_true rfl) rfl ?_
          exact ((((h.2 c1).2 c2).1 c3).1 c4)
        · refine mK_iconst dX5_carryOut_112 rfl qic_2 ?_
          refine mK_invV (J := M_X5_tellMove) (k := 1) (as := [.int 2]) (st := []) (c1 := 0) (s1 := 0) dX5_carryOut_113 rfl jw_X5_tellMove jn_X5_tellMove rfl (Nat.le_of_ble_eq_true rfl) (Nat.zero_le _) (Nat.zero_le _) rfl kw_575 kw_577 kw_21 (b := 25) (Nat.le_of_ble_eq_true rfl) (Nat.le_of_ble_eq_true rfl) rfl ?_
          exact ((((h.2 c1).2 c2).1 c3).2 c4)
      · refine mK_aload_n dX5_carryOut_93 rfl rfl (.tail _ (.tail _ (.head _))) ?_
        refine mK_getE (i := 6) dX5_carryOut_94 rfl (by decide) kw_574 ?_
        refine ru_acmp_ne (tgt := 119) dX5_carryOut_97 rfl (by decide) ha_r (by decide) (fun c5 => ?_) (fun c5 => ?_)
        · refine mK_aload_n dX5_carryOut_100 rfl rfl (.head _) ?_
          refine mK_aload_n dX5_carryOut_101 rfl rfl (.tail _ (.tail _ (.head _))) ?_
          refine mK_getE (i := 5) dX5_carryOut_102 rfl (by decide) kw_573 ?_
          refine ru_acmp_ne (tgt := 112) dX5_carryOut_105 rfl (by decide) ha_r (by decide) (fun c6 => ?_) (fun c6 => ?_)
          · refine mK_iconst dX5_carryOut_108 rfl qic_1 ?_
            refine mK_goto (tgt := 113) dX5_carryOut_109 (by decide) ?_
            refine mK_invV (J := M_X5_tellMove) (k := 1) (as := [.int 1]) (st := []) (c1 := 0) (s1 := 0) dX5_carryOut_113 rfl jw_X5_tellMove jn_X5_tellMove rfl (Nat.le_of_ble_eq_true rfl) (Nat.zero_le _) (Nat.zero_le _) rfl kw_575 kw_577 kw_21 (b := 25) (Nat.le_of_ble_eq_true rfl) (Nat.le_of_ble_eq_true rfl) rfl ?_
            exact (((((h.2 c1).2 c2).2 c3).1 c5).1 c6)
          · refine mK_iconst dX5_carryOut_112 rfl qic_2 ?_
            refine mK_invV (J := M_X5_tellMove) (k := 1) (as := [.int 2]) (st := []) (c1 := 0) (s1 := 0) dX5_carryOut_113 rfl jw_X5_tellMove jn_X5_tellMove rfl (Nat.le_of_ble_eq_true rfl) (Nat.zero_le _) (Nat.zero_le _) rfl kw_575 kw_577 kw_21 (b := 25) (Nat.le_of_ble_eq_true rfl) (Nat.le_of_ble_eq_true rfl) rfl ?_
            exact (((((h.2 c1).2 c2).2 c3).1 c5).2 c6)
        · refine mK_aload_n dX5_carryOut_119 rfl rfl (.head _) ?_
          refine mK_aload_n dX5_carryOut_120 rfl rfl (.tail _ (.tail _ (.head _))) ?_
          refine mK_getE (i := 12) dX5_carryOut_121 rfl (by decide) kw_673 ?_
          refine ru_acmp_ne (tgt := 131) dX5_carryOut_124 rfl (by decide) ha_r (by decide) (fun c7 => ?_) (fun c7 => ?_)
          · refine mK_iconst dX5_carryOut_127 rfl qic_1 ?_
            refine mK_goto (tgt := 132) dX5_carryOut_128 (by decide) ?_
            refine mK_invV (J := M_X5_tellConceded) (k := 1) (as := [.int 1]) (st := []) (c1 := 0) (s1 := 0) dX5_carryOut_132 rfl jw_X5_tellConceded jn_X5_tellConceded rfl (Nat.le_of_ble_eq_true rfl) (Nat.zero_le _) (Nat.zero_le _) rfl kw_674 kw_676 kw_28 (b := 25) (Nat.le_of_ble_eq_true rfl) (Nat.le_of_ble_eq_true rfl) rfl ?_
            exact (((((h.2 c1).2 c2).2 c3).2 c5).1 c7)
          · refine mK_iconst dX5_carryOut_131 rfl qic_0 ?_
            refine mK_invV (J := M_X5_tellConceded) (k := 1) (as := [.int 0]) (st := []) (c1 := 0) (s1 := 0) dX5_carryOut_132 rfl jw_X5_tellConceded jn_X5_tellConceded rfl (Nat.le_of_ble_eq_true rfl) (Nat.zero_le _) (Nat.zero_le _) rfl kw_674 kw_676 kw_28 (b := 25) (Nat.le_of_ble_eq_true rfl) (Nat.le_of_ble_eq_true rfl) rfl ?_
            exact (((((h.2 c1).2 c2).2 c3).2 c5).2 c7)
set_option maxRecDepth 20000 in
theorem T_X5_carryOut_25_69a {Γ : Nat × (Nat → Int32)} {d n0 bc bs : Nat} {Q : mQ} {σ : mS} (x1 : Int32) (x2 : Nat) (ha_x2 : 1000 ≤ x2 ∧ x2 < 1028) (h : mK Γ M_X5_carryOut (d + 2) Q n0 bc bs 12 [(0, .ref 25), (1, .int (x1 + 1))] [] 60 mSH (mPI σ 25 3 ((σ.1 25 3) + 1))) : mRt Γ M_X5_carryOut (d + 2) Q n0 bc bs 69 [(0, .ref 25), (1, .int x1), (2, .ref x2)] [] (.inl none) 60 mSH σ := by
  show mK Γ M_X5_carryOut (d + 2) Q n0 bc bs 69 [(0, .ref 25), (1, .int x1), (2, .ref x2)] [] 60 mSH σ
  refine mK_goto (tgt := 135) dX5_carryOut_69 (by decide) ?_
  refine mK_aload_n dX5_carryOut_135 rfl rfl (.head _) ?_
  refine mK_dup dX5_carryOut_136 rfl rfl ?_
  refine ru_getI (k := 3) (ci := 4) dX5_carryOut_137 rfl rfl kw_265 ?_
  refine mK_iconst dX5_carryOut_140 rfl qic_1 ?_
  refine mK_iadd dX5_carryOut_141 rfl ?_
  refine ru_putI (k := 3) (ci := 4) dX5_carryOut_142 rfl rfl rfl kw_265 ?_
  refine ru_iinc (lv1 := [(0, .ref 25), (1, .int (x1 + 1)), (2, .ref x2)]) dX5_carryOut_145 rfl (.tail _ (.head _)) qic_1 (by decide) rfl ?_
  refine mK_goto (tgt := 12) dX5_carryOut_148 (by decide) ?_
  exact ru_pick [0, 1] rfl h
set_option maxRecDepth 20000 in
theorem T_X5_carryOut_25_83a {Γ : Nat × (Nat → Int32)} {d n0 bc bs : Nat} {Q : mQ} {σ : mS} (x1 : Int32) (x2 : Nat) (ha_x2 : 1000 ≤ x2 ∧ x2 < 1028) (h : mK Γ M_X5_carryOut (d + 2) Q n0 bc bs 12 [(0, .ref 25), (1, .int (x1 + 1))] [] 60 mSH (mPI σ 25 3 ((σ.1 25 3) + 1))) : mRt Γ M_X5_carryOut (d + 2) Q n0 bc bs 83 [(0, .ref 25), (1, .int x1), (2, .ref x2)] [] (.inl none) 60 mSH σ := by
  show mK Γ M_X5_carryOut (d + 2) Q n0 bc bs 83 [(0, .ref 25), (1, .int x1), (2, .ref x2)] [] 60 mSH σ
  refine mK_goto (tgt := 135) dX5_carryOut_83 (by decide) ?_
  refine mK_aload_n dX5_carryOut_135 rfl rfl (.head _) ?_
  refine mK_dup dX5_carryOut_136 rfl rfl ?_
  refine ru_getI (k := 3) (ci := 4) dX5_carryOut_137 rfl rfl kw_265 ?_
  refine mK_iconst dX5_carryOut_140 rfl qic_1 ?_
  refine mK_iadd dX5_carryOut_141 rfl ?_
  refine ru_putI (k := 3) (ci := 4) dX5_carryOut_142 rfl rfl rfl kw_265 ?_
  refine ru_iinc (lv1 := [(0, .ref 25), (1, .int (x1 + 1)), (2, .ref x2)]) dX5_carryOut_145 rfl (.tail _ (.head _)) qic_1 (by decide) rfl ?_
  refine mK_goto (tgt := 12) dX5_carryOut_148 (by decide) ?_
  exact ru_pick [0, 1] rfl h
set_option maxRecDepth 20000 in
theorem T_X5_carryOut_25_116a {Γ : Nat × (Nat → Int32)} {d n0 bc bs : Nat} {Q : mQ} {σ : mS} (x1 : Int32) (x2 : Nat) (ha_x2 : 1000 ≤ x2 ∧ x2 < 1028) (h : mK Γ M_X5_carryOut (d + 2) Q n0 bc bs 12 [(0, .ref 25), (1, .int (x1 + 1))] [] 60 mSH (mPI σ 25 3 ((σ.1 25 3) + 1))) : mRt Γ M_X5_carryOut (d + 2) Q n0 bc bs 116 [(0, .ref 25), (1, .int x1), (2, .ref x2)] [] (.inl none) 60 mSH σ := by
  show mK Γ M_X5_carryOut (d + 2) Q n0 bc bs 116 [(0, .ref 25), (1, .int x1), (2, .ref x2)] [] 60 mSH σ
  refine mK_goto (tgt := 135) dX5_carryOut_116 (by decide) ?_
  refine mK_aload_n dX5_carryOut_135 rfl rfl (.head _) ?_
  refine mK_dup dX5_carryOut_136 rfl rfl ?_
  refine ru_getI (k := 3) (ci := 4) dX5_carryOut_137 rfl rfl kw_265 ?_
  refine mK_iconst dX5_carryOut_140 rfl qic_1 ?_
  refine mK_iadd dX5_carryOut_141 rfl ?_
  refine ru_putI (k := 3) (ci := 4) dX5_carryOut_142 rfl rfl rfl kw_265 ?_
  refine ru_iinc (lv1 := [(0, .ref 25), (1, .int (x1 + 1)), (2, .ref x2)]) dX5_carryOut_145 rfl (.tail _ (.head _)) qic_1 (by decide) rfl ?_
  refine mK_goto (tgt := 12) dX5_carryOut_148 (by decide) ?_
  exact ru_pick [0, 1] rfl h
set_option maxRecDepth 20000 in
theorem T_X5_carryOut_25_135a {Γ : Nat × (Nat → Int32)} {d n0 bc bs : Nat} {Q : mQ} {σ : mS} (x1 : Int32) (x2 : Nat) (ha_x2 : 1000 ≤ x2 ∧ x2 < 1028) (h : mK Γ M_X5_carryOut (d + 2) Q n0 bc bs 12 [(0, .ref 25), (1, .int (x1 + 1))] [] 60 mSH (mPI σ 25 3 ((σ.1 25 3) + 1))) : mRt Γ M_X5_carryOut (d + 2) Q n0 bc bs 135 [(0, .ref 25), (1, .int x1), (2, .ref x2)] [] (.inl none) 60 mSH σ := by
  show mK Γ M_X5_carryOut (d + 2) Q n0 bc bs 135 [(0, .ref 25), (1, .int x1), (2, .ref x2)] [] 60 mSH σ
  refine mK_aload_n dX5_carryOut_135 rfl rfl (.head _) ?_
  refine mK_dup dX5_carryOut_136 rfl rfl ?_
  refine ru_getI (k := 3) (ci := 4) dX5_carryOut_137 rfl rfl kw_265 ?_
  refine mK_iconst dX5_carryOut_140 rfl qic_1 ?_
  refine mK_iadd dX5_carryOut_141 rfl ?_
  refine ru_putI (k := 3) (ci := 4) dX5_carryOut_142 rfl rfl rfl kw_265 ?_
  refine ru_iinc (lv1 := [(0, .ref 25), (1, .int (x1 + 1)), (2, .ref x2)]) dX5_carryOut_145 rfl (.tail _ (.head _)) qic_1 (by decide) rfl ?_
  refine mK_goto (tgt := 12) dX5_carryOut_148 (by decide) ?_
  exact ru_pick [0, 1] rfl h
