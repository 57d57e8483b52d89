set_option maxRecDepth 20000 in
theorem C_X9_defends_26 {Γ : Nat × (Nat → Int32)} {d : Nat} {Q : mQ} {σ : mS} (a1 : Int32) (a2 : Int32) (h : (((f_X9_isIn (mPI σ 26 0 0) a1 0 (((mPI σ 26 0 0).1 32 3) - 1)) = 0 ∨ (f_X9_isIn (mPI σ 26 0 0) a1 0 (((mPI σ 26 0 0).1 32 3) - 1)) = 1) ∧ (((f_X9_isItem_26 (mPI σ 26 0 0) a1) = 0 → (((h_X9_no_26 (mPI σ 26 0 0) 1).1 = 0 → Q (.inl (some (.int 0))) 60 mSH (h_X9_no_26 (mPI σ 26 0 0) 1).2) ∧ (¬ ((h_X9_no_26 (mPI σ 26 0 0) 1).1 = 0) → Q (.inl (some (.int 1))) 60 mSH (h_X9_no_26 (mPI σ 26 0 0) 1).2))) ∧ (¬ ((f_X9_isItem_26 (mPI σ 26 0 0) a1) = 0) → (((f_X9_isIn (mPI σ 26 0 0) a2 0 (((mPI σ 26 0 0).1 32 3) - 1)) = 0 ∨ (f_X9_isIn (mPI σ 26 0 0) a2 0 (((mPI σ 26 0 0).1 32 3) - 1)) = 1) ∧ (((f_X9_isItem_26 (mPI σ 26 0 0) a2) = 0 → (((h_X9_no_26 (mPI σ 26 0 0) 1).1 = 0 → Q (.inl (some (.int 0))) 60 mSH (h_X9_no_26 (mPI σ 26 0 0) 1).2) ∧ (¬ ((h_X9_no_26 (mPI σ 26 0 0) 1).1 = 0) → Q (.inl (some (.int 1))) 60 mSH (h_X9_no_26 (mPI σ 26 0 0) 1).2))) ∧ (¬ ((f_X9_isItem_26 (mPI σ 26 0 0) a2) = 0) → ((vp_in a1 40) ∧ (((((mPI σ 26 0 0).1 36 (a1).toNatClampNeg) = 1) → vp_in ((mPI σ 26 0 0).1 40 (a1).toNatClampNeg) 40) ∧ (((f_X8_isStrong_32 (mPI σ 26 0 0) a1) = 0 → Q (.inl (some (.int 0))) 60 mSH (mPI σ 26 0 0)) ∧ (¬ ((f_X8_isStrong_32 (mPI σ 26 0 0) a1) = 0) → (((σ.1 52 (a1).toNatClampNeg) = 1 → ((vp_in (σ.1 40 (a1).toNatClampNeg) 40) ∧ (((((mPI σ 26 0 0).1 36 ((σ.1 40 (a1).toNatClampNeg)).toNatClampNeg) = 1) → vp_in ((mPI σ 26 0 0).1 40 ((σ.1 40 (a1).toNatClampNeg)).toNatClampNeg) 40) ∧ (((f_X8_isStrong_32 (mPI σ 26 0 0) (σ.1 40 (a1).toNatClampNeg)) = 0 → Q (.inl (some (.int 0))) 60 mSH (mPI σ 26 0 0)) ∧ (¬ ((f_X8_isStrong_32 (mPI σ 26 0 0) (σ.1 40 (a1).toNatClampNeg)) = 0) → (((σ.1 40 (σ.1 40 (a1).toNatClampNeg).toNatClampNeg) = a2 → Q (.inl (some (.int 1))) 60 mSH (mPI σ 26 0 0)) ∧ (¬ ((σ.1 40 (σ.1 40 (a1).toNatClampNeg).toNatClampNeg) = a2) → Q (.inl (some (.int 0))) 60 mSH (mPI σ 26 0 0)))))))) ∧ (¬ ((σ.1 52 (a1).toNatClampNeg) = 1) → Q (.inl (some (.int 0))) 60 mSH (mPI σ 26 0 0)))))))))))))) : mCall Γ M_X9_defends (d + 3) 0 0 [.ref 26, .int a1, .int a2] 60 mSH σ Q := by
  refine mCall_of rfl (by decide) (Nat.le_of_ble_eq_true rfl) (mOkC (mOk_lo (Nat.le_of_ble_eq_true rfl)) (mOkC mOk_i (mOkC mOk_i mOkN))) ?_
  show mK Γ M_X9_defends (d + 3) Q 60 0 0 0 [(0, .ref 26), (1, .int a1), (2, .int a2)] [] 60 mSH σ
  refine mK_aload_n dX9_defends_0 rfl rfl (.head _) ?_
  refine mK_iconst dX9_defends_1 rfl qic_0 ?_
  refine ru_putI (k := 0) (ci := 8) dX9_defends_2 rfl rfl rfl kw_1127 ?_
  refine mK_aload_n dX9_defends_5 rfl rfl (.head _) ?_
  refine mK_iload_n dX9_defends_6 rfl rfl (.tail _ (.head _)) ?_
  refine mK_invV (J := M_X9_isItem) (k := 1) (as := [.int a1]) (st := []) (c1 := 0) (s1 := 0) dX9_defends_7 rfl jw_X9_isItem jn_X9_isItem rfl (Nat.le_of_ble_eq_true rfl) (Nat.zero_le _) (Nat.zero_le _) rfl kw_1495 kw_1497 kw_75 (b := 26) (Nat.le_of_ble_eq_true rfl) (Nat.le_of_ble_eq_true rfl) rfl ?_
  refine S_X9_isItem_26 a1 (h.1) ?_
  show mK Γ M_X9_defends (d + 3) Q 60 0 0 10 [(0, .ref 26), (1, .int a1), (2, .int a2)] [.int (f_X9_isItem_26 (mPI σ 26 0 0) a1)] 60 mSH (mPI σ 26 0 0)
  refine mK_if_eq (tgt := 21) dX9_defends_10 rfl (by decide) (fun c1 => ?_) (fun c1 => ?_)
  · refine mK_aload_n dX9_defends_21 rfl rfl (.head _) ?_
    refine mK_iconst dX9_defends_22 rfl qic_1 ?_
    refine mK_invV (J := M_X9_no) (k := 1) (as := [.int 1]) (st := []) (c1 := 0) (s1 := 0) dX9_defends_23 rfl jw_X9_no jn_X9_no rfl (Nat.le_of_ble_eq_true rfl) (Nat.zero_le _) (Nat.zero_le _) rfl kw_1208 kw_1210 kw_38 (b := 26) (Nat.le_of_ble_eq_true rfl) (Nat.le_of_ble_eq_true rfl) rfl ?_
    refine S_X9_no_26 1 ?_
    show mK Γ M_X9_defends (d + 3) Q 60 0 0 26 [(0, .ref 26), (1, .int a1), (2, .int a2)] [.int (h_X9_no_26 (mPI σ 26 0 0) 1).1] 60 mSH (h_X9_no_26 (mPI σ 26 0 0) 1).2
    refine mK_if_eq (tgt := 33) dX9_defends_26 rfl (by decide) (fun c2 => ?_) (fun c2 => ?_)
    · refine mK_iconst dX9_defends_33 rfl qic_0 ?_
      exact mK_zret dX9_defends_34 rfl (by decide) ((h.2.1 c1).1 c2)
    · refine mK_iconst dX9_defends_29 rfl qic_1 ?_
      refine mK_goto (tgt := 34) dX9_defends_30 (by decide) ?_
      exact mK_zret dX9_defends_34 rfl (by decide) ((h.2.1 c1).2 c2)
  · refine mK_aload_n dX9_defends_13 rfl rfl (.head _) ?_
    refine mK_iload_n dX9_defends_14 rfl rfl (.tail _ (.tail _ (.head _))) ?_
    refine mK_invV (J := M_X9_isItem) (k := 1) (as := [.int a2]) (st := []) (c1 := 0) (s1 := 0) dX9_defends_15 rfl jw_X9_isItem jn_X9_isItem rfl (Nat.le_of_ble_eq_true rfl) (Nat.zero_le _) (Nat.zero_le _) rfl kw_1495 kw_1497 kw_75 (b := 26) (Nat.le_of_ble_eq_true rfl) (Nat.le_of_ble_eq_true rfl) rfl ?_
    refine S_X9_isItem_26 a2 ((h.2.2 c1).1) ?_
    show mK Γ M_X9_defends (d + 3) Q 60 0 0 18 [(0, .ref 26), (1, .int a1), (2, .int a2)] [.int (f_X9_isItem_26 (mPI σ 26 0 0) a2)] 60 mSH (mPI σ 26 0 0)
    refine ru_if_ne (tgt := 35) dX9_defends_18 rfl (by decide) (fun c3 => ?_) (fun c3 => ?_)
    · refine mK_aload_n dX9_defends_35 rfl rfl (.head _) ?_
      refine ru_getR (k := 11) (ci := 8) (a := 32) dX9_defends_36 rfl rfl rfl kw_1138 ?_
      refine mK_iload_n dX9_defends_39 rfl rfl (.tail _ (.head _)) ?_
      refine mK_invV (J := M_X8_isStrong) (k := 1) (as := [.int a1]) (st := []) (c1 := 0) (s1 := 0) dX9_defends_40 rfl jw_X8_isStrong jn_X8_isStrong rfl (Nat.le_of_ble_eq_true rfl) (Nat.zero_le _) (Nat.zero_le _) rfl kw_1429 kw_1430 kw_1431 (b := 32) (Nat.le_of_ble_eq_true rfl) (Nat.le_of_ble_eq_true rfl) rfl ?_
      refine S_X8_isStrong_32 a1 (((h.2.2 c1).2.2 c3).1) (((h.2.2 c1).2.2 c3).2.1) ?_
      show mK Γ M_X9_defends (d + 3) Q 60 0 0 43 [(0, .ref 26), (1, .int a1), (2, .int a2)] [.int (f_X8_isStrong_32 (mPI σ 26 0 0) a1)] 60 mSH (mPI σ 26 0 0)
      refine mK_if_eq (tgt := 56) dX9_defends_43 rfl (by decide) (fun c4 => ?_) (fun c4 => ?_)
      · refine mK_iconst dX9_defends_56 rfl qic_0 ?_
        exact mK_zret dX9_defends_57 rfl (by decide) (((h.2.2 c1).2.2 c3).2.2.1 c4)
      · refine mK_aload_n dX9_defends_46 rfl rfl (.head _) ?_
        refine ru_getR (k := 13) (ci := 8) (a := 52) dX9_defends_47 rfl rfl rfl kw_1140 ?_
        refine mK_iload_n dX9_defends_50 rfl rfl (.tail _ (.head _)) ?_
        refine ru_iald (n := 40) dX9_defends_51 rfl rfl (((h.2.2 c1).2.2 c3).1) ?_
        refine mK_iconst dX9_defends_52 rfl qic_1 ?_
        refine mK_icmp_eq (tgt := 58) dX9_defends_53 rfl (by decide) (fun c5 => ?_) (fun c5 => ?_)
        · refine mK_aload_n dX9_defends_58 rfl rfl (.head _) ?_
          refine ru_getR (k := 11) (ci := 8) (a := 32) dX9_defends_59 rfl rfl rfl kw_1138 ?_
          refine ru_getRN (k := 9) (ci := 7) (a := 40) dX9_defends_62 rfl rfl rfl kn_1098 ?_
          refine mK_iload_n dX9_defends_65 rfl rfl (.tail _ (.head _)) ?_
          refine ru_iald (n := 40) dX9_defends_66 rfl rfl (((h.2.2 c1).2.2 c3).1) ?_
          refine ru_istore_n (lv1 := [(0, .ref 26), (1, .int a1), (2, .int a2), (3, .int (σ.1 40 (a1).toNatClampNeg))]) dX9_defends_67 rfl rfl (by decide) rfl ?_
          refine mK_aload_n dX9_defends_68 rfl rfl (.head _) ?_
          refine ru_getR (k := 11) (ci := 8) (a := 32) dX9_defends_69 rfl rfl rfl kw_1138 ?_
          refine mK_iload_n dX9_defends_72 rfl rfl (.tail _ (.tail _ (.tail _ (.head _)))) ?_
          refine mK_invV (J := M_X8_isStrong) (k := 1) (as := [.int (σ.1 40 (a1).toNatClampNeg)]) (st := []) (c1 := 0) (s1 := 0) dX9_defends_73 rfl jw_X8_isStrong jn_X8_isStrong rfl (Nat.le_of_ble_eq_true rfl) (Nat.zero_le _) (Nat.zero_le _) rfl kw_1429 kw_1430 kw_1431 (b := 32) (Nat.le_of_ble_eq_true rfl) (Nat.le_of_ble_eq_true rfl) rfl ?_
          refine S_X8_isStrong_32 (σ.1 40 (a1).toNatClampNeg) (((((h.2.2 c1).2.2 c3).2.2.2 c4).1 c5).1) (((((h.2.2 c1).2.2 c3).2.2.2 c4).1 c5).2.1) ?_
          show mK Γ M_X9_defends (d + 3) Q 60 0 0 76 [(0, .ref 26), (1, .int a1), (2, .int a2), (3, .int (σ.1 40 (a1).toNatClampNeg))] [.int (f_X8_isStrong_32 (mPI σ 26 0 0) (σ.1 40 (a1).toNatClampNeg))] 60 mSH (mPI σ 26 0 0)
          refine mK_if_eq (tgt := 96) dX9_defends_76 rfl (by decide) (fun c6 => ?_) (fun c6 => ?_)
          · refine mK_iconst dX9_defends_96 rfl qic_0 ?_
            exact mK_zret dX9_defends_97 rfl (by decide) (((((h.2.2 c1).2.2 c3).2.2.2 c4).1 c5).2.2.1 c6)
          · refine mK_aload_n dX9_defends_79 rfl rfl (.head _) ?_
            refine ru_getR (k := 11) (ci := 8) (a := 32) dX9_defends_80 rfl rfl rfl kw_1138 ?_
            refine ru_getRN (k := 9) (ci := 7) (a := 40) dX9_defends_83 rfl rfl rfl kn_1098 ?_
            refine mK_iload_n dX9_defends_86 rfl rfl (.tail _ (.tail _ (.tail _ (.head _)))) ?_
            refine ru_iald (n := 40) dX9_defends_87 rfl rfl (((((h.2.2 c1).2.2 c3).2.2.2 c4).1 c5).1) ?_
            refine mK_iload_n dX9_defends_88 rfl rfl (.tail _ (.tail _ (.head _))) ?_
            refine ru_icmp_ne (tgt := 96) dX9_defends_89 rfl (by decide) (fun c7 => ?_) (fun c7 => ?_)
            · refine mK_iconst dX9_defends_96 rfl qic_0 ?_
              exact mK_zret dX9_defends_97 rfl (by decide) ((((((h.2.2 c1).2.2 c3).2.2.2 c4).1 c5).2.2.2 c6).2 c7)
            · refine mK_iconst dX9_defends_92 rfl qic_1 ?_
              refine mK_goto (tgt := 97) dX9_defends_93 (by decide) ?_
              exact mK_zret dX9_defends_97 rfl (by decide) ((((((h.2.2 c1).2.2 c3).2.2.2 c4).1 c5).2.2.2 c6).1 c7)
        · refine mK_iconst dX9_defends_56 rfl qic_0 ?_
          exact mK_zret dX9_defends_57 rfl (by decide) ((((h.2.2 c1).2.2 c3).2.2.2 c4).2 c5)
    · refine mK_aload_n dX9_defends_21 rfl rfl (.head _) ?_
      refine mK_iconst dX9_defends_22 rfl qic_1 ?_
      refine mK_invV (J := M_X9_no) (k := 1) (as := [.int 1]) (st := []) (c1 := 0) (s1 := 0) dX9_defends_23 rfl jw_X9_no jn_X9_no rfl (Nat.le_of_ble_eq_true rfl) (Nat.zero_le _) (Nat.zero_le _) rfl kw_1208 kw_1210 kw_38 (b := 26) (Nat.le_of_ble_eq_true rfl) (Nat.le_of_ble_eq_true rfl) rfl ?_
      refine S_X9_no_26 1 ?_
      show mK Γ M_X9_defends (d + 3) Q 60 0 0 26 [(0, .ref 26), (1, .int a1), (2, .int a2)] [.int (h_X9_no_26 (mPI σ 26 0 0) 1).1] 60 mSH (h_X9_no_26 (mPI σ 26 0 0) 1).2
      refine mK_if_eq (tgt := 33) dX9_defends_26 rfl (by decide) (fun c8 => ?_) (fun c8 => ?_)
      · refine mK_iconst dX9_defends_33 rfl qic_0 ?_
        exact mK_zret dX9_defends_34 rfl (by decide) (((h.2.2 c1).2.1 c3).1 c8)
      · refine mK_iconst dX9_defends_29 rfl qic_1 ?_
        refine mK_goto (tgt := 34) dX9_defends_30 (by decide) ?_
        exact mK_zret dX9_defends_34 rfl (by decide) (((h.2.2 c1).2.1 c3).2 c8)
set_option maxRecDepth 20000 in
theorem C_X9_give_26 {Γ : Nat × (Nat → Int32)} {d : Nat} {Q : mQ} {σ : mS} (a1 : Int32) (a2 : Int32) (h : (((f_X9_isIn (mPI σ 26 0 0) a1 0 (((mPI σ 26 0 0).1 32 0) - 1)) = 0 ∨ (f_X9_isIn (mPI σ 26 0 0) a1 0 (((mPI σ 26 0 0).1 32 0) - 1)) = 1) ∧ (((f_X9_isSpeaker_26 (mPI σ 26 0 0) a1) = 0 → Q (.inl (some (.int (h_X9_no_26 (mPI σ 26 0 0) 1).1))) 60 mSH (h_X9_no_26 (mPI σ 26 0 0) 1).2) ∧ (¬ ((f_X9_isSpeaker_26 (mPI σ 26 0 0) a1) = 0) → (((f_X9_isIn (mPI σ 26 0 0) a2 1 3600) = 0 → Q (.inl (some (.int (h_X9_no_26 (mPI σ 26 0 0) 2).1))) 60 mSH (h_X9_no_26 (mPI σ 26 0 0) 2).2) ∧ (¬ ((f_X9_isIn (mPI σ 26 0 0) a2 1 3600) = 0) → ((vp_in a1 6) ∧ Q (.inl (some (.int ((mPI (mPI σ 26 0 0) 34 (a1).toNatClampNeg ((σ.1 34 (a1).toNatClampNeg) + a2)).1 34 (a1).toNatClampNeg)))) 60 mSH (mPI (mPI σ 26 0 0) 34 (a1).toNatClampNeg ((σ.1 34 (a1).toNatClampNeg) + a2))))))))) : mCall Γ M_X9_give (d + 3) 0 0 [.ref 26, .int a1, .int a2] 60 mSH σ Q := by
  refine mCall_of rfl (by decide) (Nat.le_of_ble_eq_true rfl) (mOkC (mOk_lo (Nat.le_of_ble_eq_true rfl)) (mOkC mOk_i (mOkC mOk_i mOkN))) ?_
  show mK Γ M_X9_give (d + 3) Q 60 0 0 0 [(0, .ref 26), (1, .int a1), (2, .int a2)] [] 60 mSH σ
  refine mK_aload_n dX9_give_0 rfl rfl (.head _) ?_
  refine mK_iconst dX9_give_1 rfl qic_0 ?_
  refine ru_putI (k := 0) (ci := 8) dX9_give_2 rfl rfl rfl kw_1127 ?_
  refine mK_aload_n dX9_give_5 rfl rfl (.head _) ?_
  refine mK_iload_n dX9_give_6 rfl rfl (.tail _ (.head _)) ?_
  refine mK_invV (J := M_X9_isSpeaker) (k := 1) (as := [.int a1]) (st := []) (c1 := 0) (s1 := 0) dX9_give_7 rfl jw_X9_isSpeaker jn_X9_isSpeaker rfl (Nat.le_of_ble_eq_true rfl) (Nat.zero_le _) (Nat.zero_le _) rfl kw_1473 kw_1475 kw_71 (b := 26) (Nat.le_of_ble_eq_true rfl) (Nat.le_of_ble_eq_true rfl) rfl ?_
  refine S_X9_isSpeaker_26 a1 (h.1) ?_
  show mK Γ M_X9_give (d + 3) Q 60 0 0 10 [(0, .ref 26), (1, .int a1), (2, .int a2)] [.int (f_X9_isSpeaker_26 (mPI σ 26 0 0) a1)] 60 mSH (mPI σ 26 0 0)
  refine ru_if_ne (tgt := 19) dX9_give_10 rfl (by decide) (fun c1 => ?_) (fun c1 => ?_)
  · refine mK_iload_n dX9_give_19 rfl rfl (.tail _ (.tail _ (.head _))) ?_
    refine mK_iconst dX9_give_20 rfl qic_1 ?_
    refine mK_sipush dX9_give_21 rfl qsi_3600 ?_
    refine mK_invS (J := M_X9_isIn) (k := 3) (as := [.int a2, .int 1, .int 3600]) (st := []) (c1 := 0) (s1 := 0) dX9_give_24 rfl jw_X9_isIn jn_X9_isIn rfl (Nat.le_of_ble_eq_true rfl) (Nat.zero_le _) (Nat.zero_le _) rfl kw_1216 kw_1217 ?_
    refine S_X9_isIn a2 1 3600 ?_
    show mK Γ M_X9_give (d + 3) Q 60 0 0 27 [(0, .ref 26), (1, .int a1), (2, .int a2)] [.int (f_X9_isIn (mPI σ 26 0 0) a2 1 3600)] 60 mSH (mPI σ 26 0 0)
    refine ru_if_ne (tgt := 36) dX9_give_27 rfl (by decide) (fun c2 => ?_) (fun c2 => ?_)
    · refine mK_aload_n dX9_give_36 rfl rfl (.head _) ?_
      refine ru_getR (k := 11) (ci := 8) (a := 32) dX9_give_37 rfl rfl rfl kw_1138 ?_
      refine ru_getRN (k := 2) (ci := 7) (a := 34) dX9_give_40 rfl rfl rfl kn_1084 ?_
      refine mK_iload_n dX9_give_43 rfl rfl (.tail _ (.head _)) ?_
      refine mK_dup2 dX9_give_44 rfl rfl rfl ?_
      refine ru_iald (n := 6) dX9_give_45 rfl rfl (((h.2.2 c1).2 c2).1) ?_
      refine mK_iload_n dX9_give_46 rfl rfl (.tail _ (.tail _ (.head _))) ?_
      refine mK_iadd dX9_give_47 rfl ?_
      refine ru_iast (n := 6) dX9_give_48 rfl rfl (((h.2.2 c1).2 c2).1) ?_
      refine mK_aload_n dX9_give_49 rfl rfl (.head _) ?_
      refine ru_getR (k := 11) (ci := 8) (a := 32) dX9_give_50 rfl rfl rfl kw_1138 ?_
      refine ru_getRN (k := 2) (ci := 7) (a := 34) dX9_give_53 rfl rfl rfl kn_1084 ?_
      refine mK_iload_n dX9_give_56 rfl rfl (.tail _ (.head _)) ?_
      refine ru_iald (n := 6) dX9_give_57 rfl rfl (((h.2.2 c1).2 c2).1) ?_
      exact mK_iret dX9_give_58 rfl ((h.2.2 c1).2 c2).2
    · refine mK_aload_n dX9_give_30 rfl rfl (.head _) ?_
      refine mK_iconst dX9_give_31 rfl qic_2 ?_
      refine mK_invV (J := M_X9_no) (k := 1) (as := [.int 2]) (st := []) (c1 := 0) (s1 := 0) dX9_give_32 rfl jw_X9_no jn_X9_no rfl (Nat.le_of_ble_eq_true rfl) (Nat.zero_le _) (Nat.zero_le _) rfl kw_1208 kw_1210 kw_38 (b := 26) (Nat.le_of_ble_eq_true rfl) (Nat.le_of_ble_eq_true rfl) rfl ?_
      refine S_X9_no_26 2 ?_
      show mK Γ M_X9_give (d + 3) Q 60 0 0 35 [(0, .ref 26), (1, .int a1), (2, .int a2)] [.int (h_X9_no_26 (mPI σ 26 0 0) 2).1] 60 mSH (h_X9_no_26 (mPI σ 26 0 0) 2).2
      exact mK_iret dX9_give_35 rfl ((h.2.2 c1).1 c2)
  · refine mK_aload_n dX9_give_13 rfl rfl (.head _) ?_
    refine mK_iconst dX9_give_14 rfl qic_1 ?_
    refine mK_invV (J := M_X9_no) (k := 1) (as := [.int 1]) (st := []) (c1 := 0) (s1 := 0) dX9_give_15 rfl jw_X9_no jn_X9_no rfl (Nat.le_of_ble_eq_true rfl) (Nat.zero_le _) (Nat.zero_le _) rfl kw_1208 kw_1210 kw_38 (b := 26) (Nat.le_of_ble_eq_true rfl) (Nat.le_of_ble_eq_true rfl) rfl ?_
    refine S_X9_no_26 1 ?_
    show mK Γ M_X9_give (d + 3) Q 60 0 0 18 [(0, .ref 26), (1, .int a1), (2, .int a2)] [.int (h_X9_no_26 (mPI σ 26 0 0) 1).1] 60 mSH (h_X9_no_26 (mPI σ 26 0 0) 1).2
    exact mK_iret dX9_give_18 rfl (h.2.1 c1)
set_option maxRecDepth 20000 in
theorem C_X9_trim_26 {Γ : Nat × (Nat → Int32)} {d : Nat} {Q : mQ} {σ : mS} (a1 : Int32) (h : (((f_X9_isIn (mPI σ 26 0 0) a1 0 (σ.1 26 2)) = 0 → Q (.inl (some (.int (h_X9_no_26 (mPI σ 26 0 0) 1).1))) 60 mSH (h_X9_no_26 (mPI σ 26 0 0) 1).2) ∧ (¬ ((f_X9_isIn (mPI σ 26 0 0) a1 0 (σ.1 26 2)) = 0) → Q (.inl (some (.int a1))) 60 mSH (mPI (mPI σ 26 0 0) 26 2 a1)))) : mCall Γ M_X9_trim (d + 2) 0 0 [.ref 26, .int a1] 60 mSH σ Q := by
  refine mCall_of rfl (by decide) (Nat.le_of_ble_eq_true rfl) (mOkC (mOk_lo (Nat.le_of_ble_eq_true rfl)) (mOkC mOk_i mOkN)) ?_
  show mK Γ M_X9_trim (d + 2) Q 60 0 0 0 [(0, .ref 26), (1, .int a1)] [] 60 mSH σ
  refine mK_aload_n dX9_trim_0 rfl rfl (.head _) ?_
  refine mK_iconst dX9_trim_1 rfl qic_0 ?_
  refine ru_putI (k := 0) (ci := 8) dX9_trim_2 rfl rfl rfl kw_1127 ?_
  refine mK_iload_n dX9_trim_5 rfl rfl (.tail _ (.head _)) ?_
  refine mK_iconst dX9_trim_6 rfl qic_0 ?_
  refine mK_aload_n dX9_trim_7 rfl rfl (.head _) ?_
  refine ru_getI (k := 2) (ci := 8) dX9_trim_8 rfl rfl kw_1129 ?_
  refine mK_invS (J := M_X9_isIn) (k := 3) (as := [.int a1, .int 0, .int (σ.1 26 2)]) (st := []) (c1 := 0) (s1 := 0) dX9_trim_11 rfl jw_X9_isIn jn_X9_isIn rfl (Nat.le_of_ble_eq_true rfl) (Nat.zero_le _) (Nat.zero_le _) rfl kw_1216 kw_1217 ?_
  refine S_X9_isIn a1 0 (σ.1 26 2) ?_
  show mK Γ M_X9_trim (d + 2) Q 60 0 0 14 [(0, .ref 26), (1, .int a1)] [.int (f_X9_isIn (mPI σ 26 0 0) a1 0 (σ.1 26 2))] 60 mSH (mPI σ 26 0 0)
  refine ru_if_ne (tgt := 23) dX9_trim_14 rfl (by decide) (fun c1 => ?_) (fun c1 => ?_)
  · refine mK_aload_n dX9_trim_23 rfl rfl (.head _) ?_
    refine mK_iload_n dX9_trim_24 rfl rfl (.tail _ (.head _)) ?_
    refine ru_putI (k := 2) (ci := 8) dX9_trim_25 rfl rfl rfl kw_1129 ?_
    refine mK_iload_n dX9_trim_28 rfl rfl (.tail _ (.head _)) ?_
    exact mK_iret dX9_trim_29 rfl (h.2 c1)
  · refine mK_aload_n dX9_trim_17 rfl rfl (.head _) ?_
    refine mK_iconst dX9_trim_18 rfl qic_1 ?_
    refine mK_invV (J := M_X9_no) (k := 1) (as := [.int 1]) (st := []) (c1 := 0) (s1 := 0) dX9_trim_19 rfl jw_X9_no jn_X9_no rfl (Nat.le_of_ble_eq_true rfl) (Nat.zero_le _) (Nat.zero_le _) rfl kw_1208 kw_1210 kw_38 (b := 26) (Nat.le_of_ble_eq_true rfl) (Nat.le_of_ble_eq_true rfl) rfl ?_
    refine S_X9_no_26 1 ?_
    show mK Γ M_X9_trim (d + 2) Q 60 0 0 22 [(0, .ref 26), (1, .int a1)] [.int (h_X9_no_26 (mPI σ 26 0 0) 1).1] 60 mSH (h_X9_no_26 (mPI σ 26 0 0) 1).2
    exact mK_iret dX9_trim_22 rfl (h.1 c1)
set_option maxRecDepth 20000 in
theorem C_X9_byteAt_26 {Γ : Nat × (Nat → Int32)} {d : Nat} {Q : mQ} {σ : mS} (a1 : Int32) (h : (((f_X9_isIn (mPI σ 26 0 0) a1 0 ((σ.1 26 4) - 1)) = 0 → Q (.inl (some (.int (h_X9_no_26 (mPI σ 26 0 0) 1).1))) 60 mSH (h_X9_no_26 (mPI σ 26 0 0) 1).2) ∧ (¬ ((f_X9_isIn (mPI σ 26 0 0) a1 0 ((σ.1 26 4) - 1)) = 0) → ((vp_in a1 1280) ∧ Q (.inl (some (.int (σ.1 28 (a1).toNatClampNeg)))) 60 mSH (mPI σ 26 0 0))))) : mCall Γ M_X9_byteAt (d + 2) 0 0 [.ref 26, .int a1] 60 mSH σ Q := by
  refine mCall_of rfl (by decide) (Nat.le_of_ble_eq_true rfl) (mOkC (mOk_lo (Nat.le_of_ble_eq_true rfl)) (mOkC mOk_i mOkN)) ?_
  show mK Γ M_X9_byteAt (d + 2) Q 60 0 0 0 [(0, .ref 26), (1, .int a1)] [] 60 mSH σ
  refine mK_aload_n dX9_byteAt_0 rfl rfl (.head _) ?_
  refine mK_iconst dX9_byteAt_1 rfl qic_0 ?_
  refine ru_putI (k := 0) (ci := 8) dX9_byteAt_2 rfl rfl rfl kw_1127 ?_
  refine mK_iload_n dX9_byteAt_5 rfl rfl (.tail _ (.head _)) ?_
  refine mK_iconst dX9_byteAt_6 rfl qic_0 ?_
  refine mK_aload_n dX9_byteAt_7 rfl rfl (.head _) ?_
  refine ru_getI (k := 4) (ci := 8) dX9_byteAt_8 rfl rfl kw_1131 ?_
  refine mK_iconst dX9_byteAt_11 rfl qic_1 ?_
  refine mK_isub dX9_byteAt_12 rfl ?_
  refine mK_invS (J := M_X9_isIn) (k := 3) (as := [.int a1, .int 0, .int ((σ.1 26 4) - 1)]) (st := []) (c1 := 0) (s1 := 0) dX9_byteAt_13 rfl jw_X9_isIn jn_X9_isIn rfl (Nat.le_of_ble_eq_true rfl) (Nat.zero_le _) (Nat.zero_le _) rfl kw_1216 kw_1217 ?_
  refine S_X9_isIn a1 0 ((σ.1 26 4) - 1) ?_
  show mK Γ M_X9_byteAt (d + 2) Q 60 0 0 16 [(0, .ref 26), (1, .int a1)] [.int (f_X9_isIn (mPI σ 26 0 0) a1 0 ((σ.1 26 4) - 1))] 60 mSH (mPI σ 26 0 0)
  refine mK_if_eq (tgt := 28) dX9_byteAt_16 rfl (by decide) (fun c1 => ?_) (fun c1 => ?_)
  · refine mK_aload_n dX9_byteAt_28 rfl rfl (.head _) ?_
    refine mK_iconst dX9_byteAt_29 rfl qic_1 ?_
    refine mK_invV (J := M_X9_no) (k := 1) (as := [.int 1]) (st := []) (c1 := 0) (s1 := 0) dX9_byteAt_30 rfl jw_X9_no jn_X9_no rfl (Nat.le_of_ble_eq_true rfl) (Nat.zero_le _) (Nat.zero_le _) rfl kw_1208 kw_1210 kw_38 (b := 26) (Nat.le_of_ble_eq_true rfl) (Nat.le_of_ble_eq_true rfl) rfl ?_
    refine S_X9_no_26 1 ?_
    show mK Γ M_X9_byteAt (d + 2) Q 60 0 0 33 [(0, .ref 26), (1, .int a1)] [.int (h_X9_no_26 (mPI σ 26 0 0) 1).1] 60 mSH (h_X9_no_26 (mPI σ 26 0 0) 1).2
    exact mK_iret dX9_byteAt_33 rfl (h.1 c1)
  · refine mK_aload_n dX9_byteAt_19 rfl rfl (.head _) ?_
    refine ru_getR (k := 5) (ci := 8) (a := 28) dX9_byteAt_20 rfl rfl rfl kw_1132 ?_
    refine mK_iload_n dX9_byteAt_23 rfl rfl (.tail _ (.head _)) ?_
    refine ru_iald (n := 1280) dX9_byteAt_24 rfl rfl ((h.2 c1).1) ?_
    refine mK_goto (tgt := 33) dX9_byteAt_25 (by decide) ?_
    exact mK_iret dX9_byteAt_33 rfl (h.2 c1).2
set_option maxRecDepth 20000 in
theorem C_X9_least_26 {Γ : Nat × (Nat → Int32)} {d : Nat} {Q : mQ} {σ : mS} (a1 : Int32) (h : (((f_X9_isIn (mPI σ 26 0 0) a1 0 (((mPI σ 26 0 0).1 32 3) - 1)) = 0 ∨ (f_X9_isIn (mPI σ 26 0 0) a1 0 (((mPI σ 26 0 0).1 32 3) - 1)) = 1) ∧ (((f_X9_isItem_26 (mPI σ 26 0 0) a1) = 0 → Q (.inl (some (.int (h_X9_no_26 (mPI σ 26 0 0) 1).1))) 60 mSH (h_X9_no_26 (mPI σ 26 0 0) 1).2) ∧ (¬ ((f_X9_isItem_26 (mPI σ 26 0 0) a1) = 0) → ((vp_in a1 40) ∧ Q (.inl (some (.int (f_X9_leastOf_26 (mPI σ 26 0 0) a1)))) 60 mSH (mPI σ 26 0 0)))))) : mCall Γ M_X9_least (d + 3) 0 0 [.ref 26, .int a1] 60 mSH σ Q := by
  refine mCall_of rfl (by decide) (Nat.le_of_ble_eq_true rfl) (mOkC (mOk_lo (Nat.le_of_ble_eq_true rfl)) (mOkC mOk_i mOkN)) ?_
  show mK Γ M_X9_least (d + 3) Q 60 0 0 0 [(0, .ref 26), (1, .int a1)] [] 60 mSH σ
  refine mK_aload_n dX9_least_0 rfl rfl (.head _) ?_
  refine mK_iconst dX9_least_1 rfl qic_0 ?_
  refine ru_putI (k := 0) (ci := 8) dX9_least_2 rfl rfl rfl kw_1127 ?_
  refine mK_aload_n dX9_least_5 rfl rfl (.head _) ?_
  refine mK_iload_n dX9_least_6 rfl rfl (.tail _ (.head _)) ?_
  refine mK_invV (J := M_X9_isItem) (k := 1) (as := [.int a1]) (st := []) (c1 := 0) (s1 := 0) dX9_least_7 rfl jw_X9_isItem jn_X9_isItem rfl (Nat.le_of_ble_eq_true rfl) (Nat.zero_le _) (Nat.zero_le _) rfl kw_1495 kw_1497 kw_75 (b := 26) (Nat.le_of_ble_eq_true rfl) (Nat.le_of_ble_eq_true rfl) rfl ?_
  refine S_X9_isItem_26 a1 (h.1) ?_
  show mK Γ M_X9_least (d + 3) Q 60 0 0 10 [(0, .ref 26), (1, .int a1)] [.int (f_X9_isItem_26 (mPI σ 26 0 0) a1)] 60 mSH (mPI σ 26 0 0)
  refine mK_if_eq (tgt := 21) dX9_least_10 rfl (by decide) (fun c1 => ?_) (fun c1 => ?_)
  · refine mK_aload_n dX9_least_21 rfl rfl (.head _) ?_
    refine mK_iconst dX9_least_22 rfl qic_1 ?_
    refine mK_invV (J := M_X9_no) (k := 1) (as := [.int 1]) (st := []) (c1 := 0) (s1 := 0) dX9_least_23 rfl jw_X9_no jn_X9_no rfl (Nat.le_of_ble_eq_true rfl) (Nat.zero_le _) (Nat.zero_le _) rfl kw_1208 kw_1210 kw_38 (b := 26) (Nat.le_of_ble_eq_true rfl) (Nat.le_of_ble_eq_true rfl) rfl ?_
    refine S_X9_no_26 1 ?_
    show mK Γ M_X9_least (d + 3) Q 60 0 0 26 [(0, .ref 26), (1, .int a1)] [.int (h_X9_no_26 (mPI σ 26 0 0) 1).1] 60 mSH (h_X9_no_26 (mPI σ 26 0 0) 1).2
    exact mK_iret dX9_least_26 rfl (h.2.1 c1)
  · refine mK_aload_n dX9_least_13 rfl rfl (.head _) ?_
    refine mK_iload_n dX9_least_14 rfl rfl (.tail _ (.head _)) ?_
    refine mK_invV (J := M_X9_leastOf) (k := 1) (as := [.int a1]) (st := []) (c1 := 0) (s1 := 0) dX9_least_15 rfl jw_X9_leastOf jn_X9_leastOf rfl (Nat.le_of_ble_eq_true rfl) (Nat.zero_le _) (Nat.zero_le _) rfl kw_1551 kw_1553 kw_81 (b := 26) (Nat.le_of_ble_eq_true rfl) (Nat.le_of_ble_eq_true rfl) rfl ?_
    refine S_X9_leastOf_26 a1 ((h.2.2 c1).1) ?_
    show mK Γ M_X9_least (d + 3) Q 60 0 0 18 [(0, .ref 26), (1, .int a1)] [.int (f_X9_leastOf_26 (mPI σ 26 0 0) a1)] 60 mSH (mPI σ 26 0 0)
    refine mK_goto (tgt := 26) dX9_least_18 (by decide) ?_
    exact mK_iret dX9_least_26 rfl (h.2.2 c1).2
