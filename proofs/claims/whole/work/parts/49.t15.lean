set_option maxRecDepth 20000 in
theorem C_X7_defends_0 {Γ : Nat × (Nat → Int32)} {d : Nat} {Q : mQ} {σ : mS} (a1 : Int32) (a2 : Int32) (h : (((f_X0_hasItem_5 σ a1) = 0 → Q (.inr "java/lang/IndexOutOfBoundsException") 60 mSH σ) ∧ (¬ ((f_X0_hasItem_5 σ a1) = 0) → (((f_X0_hasItem_5 σ a2) = 0 → Q (.inr "java/lang/IndexOutOfBoundsException") 60 mSH σ) ∧ (¬ ((f_X0_hasItem_5 σ a2) = 0) → (((f_X0_isStrongAttack_5 σ a1) = 0 → Q (.inl (some (.int 0))) 60 mSH σ) ∧ (¬ ((f_X0_isStrongAttack_5 σ a1) = 0) → (((f_X4_isIn_16 σ a1) = 0 → Q (.inl (some (.int 0))) 60 mSH σ) ∧ (¬ ((f_X4_isIn_16 σ a1) = 0) → (((f_X0_isStrongAttack_5 σ (f_X0_targetOf_5 σ a1)) = 0 → Q (.inl (some (.int 0))) 60 mSH σ) ∧ (¬ ((f_X0_isStrongAttack_5 σ (f_X0_targetOf_5 σ a1)) = 0) → (((f_X0_targetOf_5 σ (f_X0_targetOf_5 σ a1)) = a2 → Q (.inl (some (.int 1))) 60 mSH σ) ∧ (¬ ((f_X0_targetOf_5 σ (f_X0_targetOf_5 σ a1)) = a2) → Q (.inl (some (.int 0))) 60 mSH σ))))))))))))) : mCall Γ M_X7_defends (d + 3) 2 12 [.ref 0, .int a1, .int a2] 60 mSH σ Q := by
  refine mCall_of rfl (by decide) (Nat.le_of_ble_eq_true rfl) (mOkC (mOk_lo (Nat.le_of_ble_eq_true rfl)) (mOkC mOk_i (mOkC mOk_i mOkN))) ?_
  show mK Γ M_X7_defends (d + 3) Q 60 2 12 0 [(0, .ref 0), (1, .int a1), (2, .int a2)] [] 60 mSH σ
  refine mK_aload_n dX7_defends_0 rfl rfl (.head _) ?_
  refine mK_iload_n dX7_defends_1 rfl rfl (.tail _ (.head _)) ?_
  refine mK_invV (J := M_X7_needItem) (k := 1) (as := [.int a1]) (st := []) (c1 := 1) (s1 := 6) dX7_defends_2 rfl jw_X7_needItem jn_X7_needItem rfl (Nat.le_of_ble_eq_true rfl) (Nat.le_of_ble_eq_true rfl) (Nat.le_of_ble_eq_true rfl) rfl kw_882 kw_884 kw_34 (b := 0) (Nat.le_of_ble_eq_true rfl) (Nat.le_of_ble_eq_true rfl) rfl ?_
  refine C_X7_needItem_0 a1 ?_
  refine ⟨fun c1 => ?_, fun c1 => ?_⟩
  · exact (h.1 c1)
  · show mK Γ M_X7_defends (d + 3) Q 60 1 6 5 [(0, .ref 0), (1, .int a1), (2, .int a2)] [] 60 mSH σ
    refine mK_aload_n dX7_defends_5 rfl rfl (.head _) ?_
    refine mK_iload_n dX7_defends_6 rfl rfl (.tail _ (.tail _ (.head _))) ?_
    refine mK_invV (J := M_X7_needItem) (k := 1) (as := [.int a2]) (st := []) (c1 := 1) (s1 := 6) dX7_defends_7 rfl jw_X7_needItem jn_X7_needItem rfl (Nat.le_of_ble_eq_true rfl) (Nat.le_of_ble_eq_true rfl) (Nat.le_of_ble_eq_true rfl) rfl kw_882 kw_884 kw_34 (b := 0) (Nat.le_of_ble_eq_true rfl) (Nat.le_of_ble_eq_true rfl) rfl ?_
    refine C_X7_needItem_0 a2 ?_
    refine ⟨fun c2 => ?_, fun c2 => ?_⟩
    · exact ((h.2 c1).1 c2)
    · show mK Γ M_X7_defends (d + 3) Q 60 0 0 10 [(0, .ref 0), (1, .int a1), (2, .int a2)] [] 60 mSH σ
      refine mK_aload_n dX7_defends_10 rfl rfl (.head _) ?_
      refine ru_getR (k := 2) (ci := 6) (a := 5) dX7_defends_11 rfl rfl rfl kw_283 ?_
      refine mK_iload_n dX7_defends_14 rfl rfl (.tail _ (.head _)) ?_
      refine mK_invV (J := M_X0_targetOf) (k := 1) (as := [.int a1]) (st := []) (c1 := 0) (s1 := 0) dX7_defends_15 rfl jw_X0_targetOf jn_X0_targetOf rfl (Nat.le_of_ble_eq_true rfl) (Nat.zero_le _) (Nat.zero_le _) rfl kw_891 kw_608 kw_609 (b := 5) (Nat.le_of_ble_eq_true rfl) (Nat.le_of_ble_eq_true rfl) rfl ?_
      refine S_X0_targetOf_5 a1 ?_
      show mK Γ M_X7_defends (d + 3) Q 60 0 0 18 [(0, .ref 0), (1, .int a1), (2, .int a2)] [.int (f_X0_targetOf_5 σ a1)] 60 mSH σ
      refine ru_istore_n (lv1 := [(0, .ref 0), (1, .int a1), (2, .int a2), (3, .int (f_X0_targetOf_5 σ a1))]) dX7_defends_18 rfl rfl (by decide) rfl ?_
      refine mK_aload_n dX7_defends_19 rfl rfl (.head _) ?_
      refine ru_getR (k := 2) (ci := 6) (a := 5) dX7_defends_20 rfl rfl rfl kw_283 ?_
      refine mK_iload_n dX7_defends_23 rfl rfl (.tail _ (.head _)) ?_
      refine mK_invV (J := M_X0_isStrongAttack) (k := 1) (as := [.int a1]) (st := []) (c1 := 0) (s1 := 0) dX7_defends_24 rfl jw_X0_isStrongAttack jn_X0_isStrongAttack rfl (Nat.le_of_ble_eq_true rfl) (Nat.zero_le _) (Nat.zero_le _) rfl kw_899 kw_604 kw_605 (b := 5) (Nat.le_of_ble_eq_true rfl) (Nat.le_of_ble_eq_true rfl) rfl ?_
      refine S_X0_isStrongAttack_5 a1 ?_
      show mK Γ M_X7_defends (d + 3) Q 60 0 0 27 [(0, .ref 0), (1, .int a1), (2, .int a2), (3, .int (f_X0_targetOf_5 σ a1))] [.int (f_X0_isStrongAttack_5 σ a1)] 60 mSH σ
      refine mK_if_eq (tgt := 68) dX7_defends_27 rfl (by decide) (fun c3 => ?_) (fun c3 => ?_)
      · refine mK_iconst dX7_defends_68 rfl qic_0 ?_
        exact mK_zret dX7_defends_69 rfl (by decide) (((h.2 c1).2 c2).1 c3)
      · refine mK_aload_n dX7_defends_30 rfl rfl (.head _) ?_
        refine ru_getR (k := 3) (ci := 6) (a := 16) dX7_defends_31 rfl rfl rfl kw_284 ?_
        refine mK_iload_n dX7_defends_34 rfl rfl (.tail _ (.head _)) ?_
        refine mK_invV (J := M_X4_isIn) (k := 1) (as := [.int a1]) (st := []) (c1 := 0) (s1 := 0) dX7_defends_35 rfl jw_X4_isIn jn_X4_isIn rfl (Nat.le_of_ble_eq_true rfl) (Nat.zero_le _) (Nat.zero_le _) rfl kw_892 kw_615 kw_616 (b := 16) (Nat.le_of_ble_eq_true rfl) (Nat.le_of_ble_eq_true rfl) rfl ?_
        refine S_X4_isIn_16 a1 ?_
        show mK Γ M_X7_defends (d + 3) Q 60 0 0 38 [(0, .ref 0), (1, .int a1), (2, .int a2), (3, .int (f_X0_targetOf_5 σ a1))] [.int (f_X4_isIn_16 σ a1)] 60 mSH σ
        refine mK_if_eq (tgt := 68) dX7_defends_38 rfl (by decide) (fun c4 => ?_) (fun c4 => ?_)
        · refine mK_iconst dX7_defends_68 rfl qic_0 ?_
          exact mK_zret dX7_defends_69 rfl (by decide) ((((h.2 c1).2 c2).2 c3).1 c4)
        · refine mK_aload_n dX7_defends_41 rfl rfl (.head _) ?_
          refine ru_getR (k := 2) (ci := 6) (a := 5) dX7_defends_42 rfl rfl rfl kw_283 ?_
          refine mK_iload_n dX7_defends_45 rfl rfl (.tail _ (.tail _ (.tail _ (.head _)))) ?_
          refine mK_invV (J := M_X0_isStrongAttack) (k := 1) (as := [.int (f_X0_targetOf_5 σ a1)]) (st := []) (c1 := 0) (s1 := 0) dX7_defends_46 rfl jw_X0_isStrongAttack jn_X0_isStrongAttack rfl (Nat.le_of_ble_eq_true rfl) (Nat.zero_le _) (Nat.zero_le _) rfl kw_899 kw_604 kw_605 (b := 5) (Nat.le_of_ble_eq_true rfl) (Nat.le_of_ble_eq_true rfl) rfl ?_
          refine S_X0_isStrongAttack_5 (f_X0_targetOf_5 σ a1) ?_
          show mK Γ M_X7_defends (d + 3) Q 60 0 0 49 [(0, .ref 0), (1, .int a1), (2, .int a2), (3, .int (f_X0_targetOf_5 σ a1))] [.int (f_X0_isStrongAttack_5 σ (f_X0_targetOf_5 σ a1))] 60 mSH σ
          refine mK_if_eq (tgt := 68) dX7_defends_49 rfl (by decide) (fun c5 => ?_) (fun c5 => ?_)
          · refine mK_iconst dX7_defends_68 rfl qic_0 ?_
            exact mK_zret dX7_defends_69 rfl (by decide) (((((h.2 c1).2 c2).2 c3).2 c4).1 c5)
          · refine mK_aload_n dX7_defends_52 rfl rfl (.head _) ?_
            refine ru_getR (k := 2) (ci := 6) (a := 5) dX7_defends_53 rfl rfl rfl kw_283 ?_
            refine mK_iload_n dX7_defends_56 rfl rfl (.tail _ (.tail _ (.tail _ (.head _)))) ?_
            refine mK_invV (J := M_X0_targetOf) (k := 1) (as := [.int (f_X0_targetOf_5 σ a1)]) (st := []) (c1 := 0) (s1 := 0) dX7_defends_57 rfl jw_X0_targetOf jn_X0_targetOf rfl (Nat.le_of_ble_eq_true rfl) (Nat.zero_le _) (Nat.zero_le _) rfl kw_891 kw_608 kw_609 (b := 5) (Nat.le_of_ble_eq_true rfl) (Nat.le_of_ble_eq_true rfl) rfl ?_
            refine S_X0_targetOf_5 (f_X0_targetOf_5 σ a1) ?_
            show mK Γ M_X7_defends (d + 3) Q 60 0 0 60 [(0, .ref 0), (1, .int a1), (2, .int a2), (3, .int (f_X0_targetOf_5 σ a1))] [.int (f_X0_targetOf_5 σ (f_X0_targetOf_5 σ a1))] 60 mSH σ
            refine mK_iload_n dX7_defends_60 rfl rfl (.tail _ (.tail _ (.head _))) ?_
            refine ru_icmp_ne (tgt := 68) dX7_defends_61 rfl (by decide) (fun c6 => ?_) (fun c6 => ?_)
            · refine mK_iconst dX7_defends_68 rfl qic_0 ?_
              exact mK_zret dX7_defends_69 rfl (by decide) ((((((h.2 c1).2 c2).2 c3).2 c4).2 c5).2 c6)
            · refine mK_iconst dX7_defends_64 rfl qic_1 ?_
              refine mK_goto (tgt := 69) dX7_defends_65 (by decide) ?_
              exact mK_zret dX7_defends_69 rfl (by decide) ((((((h.2 c1).2 c2).2 c3).2 c4).2 c5).1 c6)
set_option maxRecDepth 20000 in
theorem C_X7_least_0 {Γ : Nat × (Nat → Int32)} {d : Nat} {Q : mQ} {σ : mS} (a1 : Int32) (h : (((f_X0_hasItem_5 σ a1) = 0 → Q (.inr "java/lang/IndexOutOfBoundsException") 60 mSH σ) ∧ (¬ ((f_X0_hasItem_5 σ a1) = 0) → Q (.inl (some (.int (f_X0_leastForceOn_5 σ a1)))) 60 mSH σ))) : mCall Γ M_X7_least (d + 4) 1 6 [.ref 0, .int a1] 60 mSH σ Q := by
  refine mCall_of rfl (by decide) (Nat.le_of_ble_eq_true rfl) (mOkC (mOk_lo (Nat.le_of_ble_eq_true rfl)) (mOkC mOk_i mOkN)) ?_
  show mK Γ M_X7_least (d + 4) Q 60 1 6 0 [(0, .ref 0), (1, .int a1)] [] 60 mSH σ
  refine mK_aload_n dX7_least_0 rfl rfl (.head _) ?_
  refine mK_iload_n dX7_least_1 rfl rfl (.tail _ (.head _)) ?_
  refine mK_invV (J := M_X7_needItem) (k := 1) (as := [.int a1]) (st := []) (c1 := 1) (s1 := 6) dX7_least_2 rfl jw_X7_needItem jn_X7_needItem rfl (Nat.le_of_ble_eq_true rfl) (Nat.le_of_ble_eq_true rfl) (Nat.le_of_ble_eq_true rfl) rfl kw_882 kw_884 kw_34 (b := 0) (Nat.le_of_ble_eq_true rfl) (Nat.le_of_ble_eq_true rfl) rfl ?_
  refine C_X7_needItem_0 a1 ?_
  refine ⟨fun c1 => ?_, fun c1 => ?_⟩
  · exact (h.1 c1)
  · show mK Γ M_X7_least (d + 4) Q 60 0 0 5 [(0, .ref 0), (1, .int a1)] [] 60 mSH σ
    refine mK_aload_n dX7_least_5 rfl rfl (.head _) ?_
    refine ru_getR (k := 2) (ci := 6) (a := 5) dX7_least_6 rfl rfl rfl kw_283 ?_
    refine mK_iload_n dX7_least_9 rfl rfl (.tail _ (.head _)) ?_
    refine mK_invV (J := M_X0_leastForceOn) (k := 1) (as := [.int a1]) (st := []) (c1 := 0) (s1 := 0) dX7_least_10 rfl jw_X0_leastForceOn jn_X0_leastForceOn rfl (Nat.le_of_ble_eq_true rfl) (Nat.zero_le _) (Nat.zero_le _) rfl kw_1043 kw_558 kw_559 (b := 5) (Nat.le_of_ble_eq_true rfl) (Nat.le_of_ble_eq_true rfl) rfl ?_
    refine S_X0_leastForceOn_5 a1 ?_
    show mK Γ M_X7_least (d + 4) Q 60 0 0 13 [(0, .ref 0), (1, .int a1)] [.int (f_X0_leastForceOn_5 σ a1)] 60 mSH σ
    exact mK_iret dX7_least_13 rfl (h.2 c1)
set_option maxRecDepth 20000 in
theorem E_X7_conceding_0 {Γ : Nat × (Nat → Int32)} {d : Nat} {Q : mQ} {σ : mS} (a1 : Int32) (a2 : Int32) (h : (((f_X0_hasItem_5 σ a1) = 0 → Q (.inr "java/lang/IndexOutOfBoundsException") 60 mSH σ) ∧ (¬ ((f_X0_hasItem_5 σ a1) = 0) → (((f_X0_hasSpeaker_5 σ a2) = 0 → Q (.inr "java/lang/IndexOutOfBoundsException") 60 mSH σ) ∧ (¬ ((f_X0_hasSpeaker_5 σ a2) = 0) → ((cV σ) ∧ mCall Γ M_X4_leadOf (d + 5) 0 0 [.ref 18, .int a2] 60 mSH (sT_18 σ ((σ.2.1 5 11) ||| (f_X7_bit σ a1)) 0 (stR (DC σ) (bB ((σ.2.1 5 11) ||| (f_X7_bit σ a1))) (bB 0))) (mRt Γ M_X7_conceding (d + 6) Q 60 0 0 30 [(0, .ref 0), (1, .int a1), (2, .int a2)] []))))))) : mCall Γ M_X7_conceding (d + 6) 2 12 [.ref 0, .int a1, .int a2] 60 mSH σ Q := by
  refine mCall_of rfl (by decide) (Nat.le_of_ble_eq_true rfl) (mOkC (mOk_lo (Nat.le_of_ble_eq_true rfl)) (mOkC mOk_i (mOkC mOk_i mOkN))) ?_
  show mK Γ M_X7_conceding (d + 6) Q 60 2 12 0 [(0, .ref 0), (1, .int a1), (2, .int a2)] [] 60 mSH σ
  refine mK_aload_n dX7_conceding_0 rfl rfl (.head _) ?_
  refine mK_iload_n dX7_conceding_1 rfl rfl (.tail _ (.head _)) ?_
  refine mK_invV (J := M_X7_needItem) (k := 1) (as := [.int a1]) (st := []) (c1 := 1) (s1 := 6) dX7_conceding_2 rfl jw_X7_needItem jn_X7_needItem rfl (Nat.le_of_ble_eq_true rfl) (Nat.le_of_ble_eq_true rfl) (Nat.le_of_ble_eq_true rfl) rfl kw_882 kw_884 kw_34 (b := 0) (Nat.le_of_ble_eq_true rfl) (Nat.le_of_ble_eq_true rfl) rfl ?_
  refine C_X7_needItem_0 a1 ?_
  refine ⟨fun c1 => ?_, fun c1 => ?_⟩
  · exact (h.1 c1)
  · show mK Γ M_X7_conceding (d + 6) Q 60 1 6 5 [(0, .ref 0), (1, .int a1), (2, .int a2)] [] 60 mSH σ
    refine mK_aload_n dX7_conceding_5 rfl rfl (.head _) ?_
    refine mK_iload_n dX7_conceding_6 rfl rfl (.tail _ (.tail _ (.head _))) ?_
    refine mK_invV (J := M_X7_needSpeaker) (k := 1) (as := [.int a2]) (st := []) (c1 := 1) (s1 := 6) dX7_conceding_7 rfl jw_X7_needSpeaker jn_X7_needSpeaker rfl (Nat.le_of_ble_eq_true rfl) (Nat.le_of_ble_eq_true rfl) (Nat.le_of_ble_eq_true rfl) rfl kw_860 kw_862 kw_33 (b := 0) (Nat.le_of_ble_eq_true rfl) (Nat.le_of_ble_eq_true rfl) rfl ?_
    refine C_X7_needSpeaker_0 a2 ?_
    refine ⟨fun c2 => ?_, fun c2 => ?_⟩
    · exact ((h.2 c1).1 c2)
    · show mK Γ M_X7_conceding (d + 6) Q 60 0 0 10 [(0, .ref 0), (1, .int a1), (2, .int a2)] [] 60 mSH σ
      refine mK_aload_n dX7_conceding_10 rfl rfl (.head _) ?_
      refine ru_getR (k := 4) (ci := 6) (a := 18) dX7_conceding_11 rfl rfl rfl kw_285 ?_
      refine mK_iload_n dX7_conceding_14 rfl rfl (.tail _ (.head _)) ?_
      refine mK_invS (J := M_X7_bit) (k := 1) (as := [.int a1]) (st := [.ref 18]) (c1 := 0) (s1 := 0) dX7_conceding_15 rfl jw_X7_bit jn_X7_bit rfl (Nat.le_of_ble_eq_true rfl) (Nat.zero_le _) (Nat.zero_le _) rfl kw_1010 kw_612 ?_
      refine S_X7_bit a1 ?_
      show mK Γ M_X7_conceding (d + 6) Q 60 0 0 18 [(0, .ref 0), (1, .int a1), (2, .int a2)] [.long (f_X7_bit σ a1), .ref 18] 60 mSH σ
      refine mK_lconst dX7_conceding_18 rfl (v := 0) rfl ?_
      refine mK_invV (J := M_X4_settle) (k := 2) (as := [.long (f_X7_bit σ a1), .long 0]) (st := []) (c1 := 0) (s1 := 0) dX7_conceding_19 rfl jw_X4_settle jn_X4_settle rfl (Nat.le_of_ble_eq_true rfl) (Nat.zero_le _) (Nat.zero_le _) rfl kw_692 kw_591 kw_592 (b := 18) (Nat.le_of_ble_eq_true rfl) (Nat.le_of_ble_eq_true rfl) rfl ?_
      refine S_settle_18 (f_X7_bit σ a1) 0 (((h.2 c1).2 c2).1) ?_
      show mK Γ M_X7_conceding (d + 6) Q 60 0 0 22 [(0, .ref 0), (1, .int a1), (2, .int a2)] [] 60 mSH (sT_18 σ ((σ.2.1 5 11) ||| (f_X7_bit σ a1)) 0 (stR (DC σ) (bB ((σ.2.1 5 11) ||| (f_X7_bit σ a1))) (bB 0)))
      refine mK_aload_n dX7_conceding_22 rfl rfl (.head _) ?_
      refine ru_getR (k := 4) (ci := 6) (a := 18) dX7_conceding_23 rfl rfl rfl kw_285 ?_
      refine mK_iload_n dX7_conceding_26 rfl rfl (.tail _ (.tail _ (.head _))) ?_
      refine mK_invV (J := M_X4_leadOf) (k := 1) (as := [.int a2]) (st := []) (c1 := 0) (s1 := 0) dX7_conceding_27 rfl jw_X4_leadOf jn_X4_leadOf rfl (Nat.le_of_ble_eq_true rfl) (Nat.zero_le _) (Nat.zero_le _) rfl kw_871 kw_872 kw_873 (b := 18) (Nat.le_of_ble_eq_true rfl) (Nat.le_of_ble_eq_true rfl) rfl ?_
      exact ((h.2 c1).2 c2).2
set_option maxRecDepth 20000 in
theorem T_X7_conceding_0_30a {Γ : Nat × (Nat → Int32)} {d n0 bc bs : Nat} {Q : mQ} {σ : mS} (x1 : Int32) (x2 : Int32) (r : Int32) (h : Q (.inl (some (.int r))) 60 mSH σ) : mRt Γ M_X7_conceding (d + 6) Q n0 bc bs 30 [(0, .ref 0), (1, .int x1), (2, .int x2)] [] (.inl (some (.int r))) 60 mSH σ := by
  show mK Γ M_X7_conceding (d + 6) Q n0 bc bs 30 [(0, .ref 0), (1, .int x1), (2, .int x2)] [.int r] 60 mSH σ
  exact mK_iret dX7_conceding_30 rfl h
set_option maxRecDepth 20000 in
theorem E_X7_concede_0 {Γ : Nat × (Nat → Int32)} {d : Nat} {Q : mQ} {σ : mS} (a1 : Int32) (h : (((f_X0_hasSpeaker_5 σ a1) = 0 → Q (.inr "java/lang/IndexOutOfBoundsException") 60 mSH σ) ∧ (¬ ((f_X0_hasSpeaker_5 σ a1) = 0) → ((cnt (σ.1 5 10) 40) ∧ mCall Γ M_X7_bestFor (d + 3) 0 0 [.ref 0, .int a1, .long (f_X0_itemsOfSpeaker_5 σ a1), .int 1] 60 mSH σ (mRt Γ M_X7_concede (d + 4) Q 60 0 0 19 [(0, .ref 0), (1, .int a1)] []))))) : mCall Γ M_X7_concede (d + 4) 1 6 [.ref 0, .int a1] 60 mSH σ Q := by
  refine mCall_of rfl (by decide) (Nat.le_of_ble_eq_true rfl) (mOkC (mOk_lo (Nat.le_of_ble_eq_true rfl)) (mOkC mOk_i mOkN)) ?_
  show mK Γ M_X7_concede (d + 4) Q 60 1 6 0 [(0, .ref 0), (1, .int a1)] [] 60 mSH σ
  refine mK_aload_n dX7_concede_0 rfl rfl (.head _) ?_
  refine mK_iload_n dX7_concede_1 rfl rfl (.tail _ (.head _)) ?_
  refine mK_invV (J := M_X7_needSpeaker) (k := 1) (as := [.int a1]) (st := []) (c1 := 1) (s1 := 6) dX7_concede_2 rfl jw_X7_needSpeaker jn_X7_needSpeaker rfl (Nat.le_of_ble_eq_true rfl) (Nat.le_of_ble_eq_true rfl) (Nat.le_of_ble_eq_true rfl) rfl kw_860 kw_862 kw_33 (b := 0) (Nat.le_of_ble_eq_true rfl) (Nat.le_of_ble_eq_true rfl) rfl ?_
  refine C_X7_needSpeaker_0 a1 ?_
  refine ⟨fun c1 => ?_, fun c1 => ?_⟩
  · exact (h.1 c1)
  · show mK Γ M_X7_concede (d + 4) Q 60 0 0 5 [(0, .ref 0), (1, .int a1)] [] 60 mSH σ
    refine mK_aload_n dX7_concede_5 rfl rfl (.head _) ?_
    refine mK_iload_n dX7_concede_6 rfl rfl (.tail _ (.head _)) ?_
    refine mK_aload_n dX7_concede_7 rfl rfl (.head _) ?_
    refine ru_getR (k := 2) (ci := 6) (a := 5) dX7_concede_8 rfl rfl rfl kw_283 ?_
    refine mK_iload_n dX7_concede_11 rfl rfl (.tail _ (.head _)) ?_
    refine mK_invV (J := M_X0_itemsOfSpeaker) (k := 1) (as := [.int a1]) (st := [.int a1, .ref 0]) (c1 := 0) (s1 := 0) dX7_concede_12 rfl jw_X0_itemsOfSpeaker jn_X0_itemsOfSpeaker rfl (Nat.le_of_ble_eq_true rfl) (Nat.zero_le _) (Nat.zero_le _) rfl kw_866 kw_867 kw_868 (b := 5) (Nat.le_of_ble_eq_true rfl) (Nat.le_of_ble_eq_true rfl) rfl ?_
    refine S_X0_itemsOfSpeaker_5 a1 ((h.2 c1).1) ?_
    show mK Γ M_X7_concede (d + 4) Q 60 0 0 15 [(0, .ref 0), (1, .int a1)] [.long (f_X0_itemsOfSpeaker_5 σ a1), .int a1, .ref 0] 60 mSH σ
    refine mK_iconst dX7_concede_15 rfl qic_1 ?_
    refine mK_invV (J := M_X7_bestFor) (k := 3) (as := [.int a1, .long (f_X0_itemsOfSpeaker_5 σ a1), .int 1]) (st := []) (c1 := 0) (s1 := 0) dX7_concede_16 rfl jw_X7_bestFor jn_X7_bestFor rfl (Nat.le_of_ble_eq_true rfl) (Nat.zero_le _) (Nat.zero_le _) rfl kw_1018 kw_1020 kw_35 (b := 0) (Nat.le_of_ble_eq_true rfl) (Nat.le_of_ble_eq_true rfl) rfl ?_
    exact (h.2 c1).2
set_option maxRecDepth 20000 in
theorem T_X7_concede_0_19a {Γ : Nat × (Nat → Int32)} {d n0 bc bs : Nat} {Q : mQ} {σ : mS} (x1 : Int32) (r : Int32) (h : Q (.inl (some (.int r))) 60 mSH σ) : mRt Γ M_X7_concede (d + 4) Q n0 bc bs 19 [(0, .ref 0), (1, .int x1)] [] (.inl (some (.int r))) 60 mSH σ := by
  show mK Γ M_X7_concede (d + 4) Q n0 bc bs 19 [(0, .ref 0), (1, .int x1)] [.int r] 60 mSH σ
  exact mK_iret dX7_concede_19 rfl h
set_option maxRecDepth 20000 in
theorem E_X7_advise_0 {Γ : Nat × (Nat → Int32)} {d : Nat} {Q : mQ} {σ : mS} (a1 : Int32) (a2 : Int32) (h : (((f_X0_hasSpeaker_5 σ a1) = 0 → Q (.inr "java/lang/IndexOutOfBoundsException") 60 mSH σ) ∧ (¬ ((f_X0_hasSpeaker_5 σ a1) = 0) → ((a2 < 1 → Q (.inr "java/lang/IllegalArgumentException") 60 mSH σ) ∧ (¬ (a2 < 1) → ((a2 ≤ 50 → ((cnt (σ.1 5 10) 40) ∧ mCall Γ M_X7_bestFor (d + 4) 0 0 [.ref 0, .int a1, .long (((f_X0_allItems_5 σ) &&& ((f_X0_itemsOfSpeaker_5 σ a1) ^^^ (-1))) &&& (mSetP (fun k => decide (f_X0_leastForceOn_5 σ (nI k) ≤ a2)) (σ.1 5 10).toNatClampNeg)), .int 0] 60 mSH σ (mRt Γ M_X7_advise (d + 5) Q 60 1 6 63 [(0, .ref 0), (1, .int a1), (2, .int a2), (3, .long ((f_X0_allItems_5 σ) &&& ((f_X0_itemsOfSpeaker_5 σ a1) ^^^ (-1))))] []))) ∧ (¬ (a2 ≤ 50) → Q (.inr "java/lang/IllegalArgumentException") 60 mSH σ))))))) : mCall Γ M_X7_advise (d + 5) 2 12 [.ref 0, .int a1, .int a2] 60 mSH σ Q := by
  refine mCall_of rfl (by decide) (Nat.le_of_ble_eq_true rfl) (mOkC (mOk_lo (Nat.le_of_ble_eq_true rfl)) (mOkC mOk_i (mOkC mOk_i mOkN))) ?_
  show mK Γ M_X7_advise (d + 5) Q 60 2 12 0 [(0, .ref 0), (1, .int a1), (2, .int a2)] [] 60 mSH σ
  refine mK_aload_n dX7_advise_0 rfl rfl (.head _) ?_
  refine mK_iload_n dX7_advise_1 rfl rfl (.tail _ (.head _)) ?_
  refine mK_invV (J := M_X7_needSpeaker) (k := 1) (as := [.int a1]) (st := []) (c1 := 1) (s1 := 6) dX7_advise_2 rfl jw_X7_needSpeaker jn_X7_needSpeaker rfl (Nat.le_of_ble_eq_true rfl) (Nat.le_of_ble_eq_true rfl) (Nat.le_of_ble_eq_true rfl) rfl kw_860 kw_862 kw_33 (b := 0) (Nat.le_of_ble_eq_true rfl) (Nat.le_of_ble_eq_true rfl) rfl ?_
  refine C_X7_needSpeaker_0 a1 ?_
  refine ⟨fun c1 => ?_, fun c1 => ?_⟩
  · exact (h.1 c1)
  · show mK Γ M_X7_advise (d + 5) Q 60 1 6 5 [(0, .ref 0), (1, .int a1), (2, .int a2)] [] 60 mSH σ
    refine mK_iload_n dX7_advise_5 rfl rfl (.tail _ (.tail _ (.head _))) ?_
    refine mK_iconst dX7_advise_6 rfl qic_1 ?_
    refine mK_icmp_lt (tgt := 16) dX7_advise_7 rfl (by decide) (fun c2 => ?_) (fun c2 => ?_)
    · exact mK_throw (text := "no attack has this force") dX7_advise_16 dX7_advise_19 dX7_advise_20 dX7_advise_22 dX7_advise_25 rfl rfl (by decide) (Nat.le_of_ble_eq_true rfl) (Nat.le_of_ble_eq_true rfl) (Nat.le_of_ble_eq_true rfl) (by decide +kernel) kw_950 kw_101 mTh_1 ((h.2 c1).1 c2)
    · refine mK_iload_n dX7_advise_10 rfl rfl (.tail _ (.tail _ (.head _))) ?_
      refine mK_bipush dX7_advise_11 rfl qbi_50 ?_
      refine mK_icmp_le (tgt := 26) dX7_advise_13 rfl (by decide) (fun c3 => ?_) (fun c3 => ?_)
      · refine mK_aload_n dX7_advise_26 rfl rfl (.head _) ?_
        refine ru_getR (k := 2) (ci := 6) (a := 5) dX7_advise_27 rfl rfl rfl kw_283 ?_
        refine mK_invV (J := M_X0_allItems) (k := 0) (as := []) (st := []) (c1 := 0) (s1 := 0) dX7_advise_30 rfl jw_X0_allItems jn_X0_allItems rfl (Nat.le_of_ble_eq_true rfl) (Nat.zero_le _) (Nat.zero_le _) rfl kw_1030 kw_631 kw_632 (b := 5) (Nat.le_of_ble_eq_true rfl) (Nat.le_of_ble_eq_true rfl) rfl ?_
        refine S_X0_allItems_5  ?_
        show mK Γ M_X7_advise (d + 5) Q 60 1 6 33 [(0, .ref 0), (1, .int a1), (2, .int a2)] [.long (f_X0_allItems_5 σ)] 60 mSH σ
        refine mK_aload_n dX7_advise_33 rfl rfl (.head _) ?_
        refine ru_getR (k := 2) (ci := 6) (a := 5) dX7_advise_34 rfl rfl rfl kw_283 ?_
        refine mK_iload_n dX7_advise_37 rfl rfl (.tail _ (.head _)) ?_
        refine mK_invV (J := M_X0_itemsOfSpeaker) (k := 1) (as := [.int a1]) (st := [.long (f_X0_allItems_5 σ)]) (c1 := 0) (s1 := 0) dX7_advise_38 rfl jw_X0_itemsOfSpeaker jn_X0_itemsOfSpeaker rfl (Nat.le_of_ble_eq_true rfl) (Nat.zero_le _) (Nat.zero_le _) rfl kw_866 kw_867 kw_868 (b := 5) (Nat.le_of_ble_eq_true rfl) (Nat.le_of_ble_eq_true rfl) rfl ?_
        refine S_X0_itemsOfSpeaker_5 a1 ((((h.2 c1).2 c2).1 c3).1) ?_
        show mK Γ M_X7_advise (d + 5) Q 60 1 6 41 [(0, .ref 0), (1, .int a1), (2, .int a2)] [.long (f_X0_itemsOfSpeaker_5 σ a1), .long (f_X0_allItems_5 σ)] 60 mSH σ
        refine mK_ldc2 dX7_advise_41 rfl kw_1031 ?_
        refine mK_lxor dX7_advise_44 rfl ?_
        refine mK_land dX7_advise_45 rfl ?_
        refine ru_lstore_n (lv1 := [(0, .ref 0), (1, .int a1), (2, .int a2), (3, .long ((f_X0_allItems_5 σ) &&& ((f_X0_itemsOfSpeaker_5 σ a1) ^^^ (-1))))]) dX7_advise_46 rfl rfl (by decide) rfl ?_
        refine mK_aload_n dX7_advise_47 rfl rfl (.head _) ?_
        refine mK_iload_n dX7_advise_48 rfl rfl (.tail _ (.head _)) ?_
        refine mK_lload_n dX7_advise_49 rfl rfl (.tail _ (.tail _ (.tail _ (.head _)))) ?_
        refine mK_aload_n dX7_advise_50 rfl rfl (.head _) ?_
        refine ru_getR (k := 2) (ci := 6) (a := 5) dX7_advise_51 rfl rfl rfl kw_283 ?_
        refine mK_iload_n dX7_advise_54 rfl rfl (.tail _ (.tail _ (.head _))) ?_
        refine mK_invV (J := M_X0_itemsWithin) (k := 1) (as := [.int a2]) (st := [.long ((f_X0_allItems_5 σ) &&& ((f_X0_itemsOfSpeaker_5 σ a1) ^^^ (-1))), .int a1, .ref 0]) (c1 := 0) (s1 := 0) dX7_advise_55 rfl jw_X0_itemsWithin jn_X0_itemsWithin rfl (Nat.le_of_ble_eq_true rfl) (Nat.zero_le _) (Nat.zero_le _) rfl kw_1032 kw_1033 kw_1034 (b := 5) (Nat.le_of_ble_eq_true rfl) (Nat.le_of_ble_eq_true rfl) rfl ?_
        refine S_X0_itemsWithin a2 ((((h.2 c1).2 c2).1 c3).1) ?_
        show mK Γ M_X7_advise (d + 5) Q 60 1 6 58 [(0, .ref 0), (1, .int a1), (2, .int a2), (3, .long ((f_X0_allItems_5 σ) &&& ((f_X0_itemsOfSpeaker_5 σ a1) ^^^ (-1))))] [.long (mSetP (fun k => decide (f_X0_leastForceOn_5 σ (nI k) ≤ a2)) (σ.1 5 10).toNatClampNeg), .long ((f_X0_allItems_5 σ) &&& ((f_X0_itemsOfSpeaker_5 σ a1) ^^^ (-1))), .int a1, .ref 0] 60 mSH σ
        refine mK_land dX7_advise_58 rfl ?_
        refine mK_iconst dX7_advise_59 rfl qic_0 ?_
        refine mK_invV (J := M_X7_bestFor) (k := 3) (as := [.int a1, .long (((f_X0_allItems_5 σ) &&& ((f_X0_itemsOfSpeaker_5 σ a1) ^^^ (-1))) &&& (mSetP (fun k => decide (f_X0_leastForceOn_5 σ (nI k) ≤ a2)) (σ.1 5 10).toNatClampNeg)), .int 0]) (st := []) (c1 := 0) (s1 := 0) dX7_advise_60 rfl jw_X7_bestFor jn_X7_bestFor rfl (Nat.le_of_ble_eq_true rfl) (Nat.zero_le _) (Nat.zero_le _) rfl kw_1018 kw_1020 kw_35 (b := 0) (Nat.le_of_ble_eq_true rfl) (Nat.le_of_ble_eq_true rfl) rfl ?_
        exact (((h.2 c1).2 c2).1 c3).2
      · exact mK_throw (text := "no attack has this force") dX7_advise_16 dX7_advise_19 dX7_advise_20 dX7_advise_22 dX7_advise_25 rfl rfl (by decide) (Nat.le_of_ble_eq_true rfl) (Nat.le_of_ble_eq_true rfl) (Nat.le_of_ble_eq_true rfl) (by decide +kernel) kw_950 kw_101 mTh_1 (((h.2 c1).2 c2).2 c3)
set_option maxRecDepth 20000 in
theorem T_X7_advise_0_63a {Γ : Nat × (Nat → Int32)} {d n0 bc bs : Nat} {Q : mQ} {σ : mS} (x1 : Int32) (x2 : Int32) (x3 : Int64) (r : Int32) (h : Q (.inl (some (.int r))) 60 mSH σ) : mRt Γ M_X7_advise (d + 5) Q n0 bc bs 63 [(0, .ref 0), (1, .int x1), (2, .int x2), (3, .long x3)] [] (.inl (some (.int r))) 60 mSH σ := by
  show mK Γ M_X7_advise (d + 5) Q n0 bc bs 63 [(0, .ref 0), (1, .int x1), (2, .int x2), (3, .long x3)] [.int r] 60 mSH σ
  exact mK_iret dX7_advise_63 rfl h
set_option maxRecDepth 20000 in
theorem E_X7_frees_0 {Γ : Nat × (Nat → Int32)} {d : Nat} {Q : mQ} {σ : mS} (a1 : Int32) (h : (((f_X0_hasItem_5 σ a1) = 0 → Q (.inr "java/lang/IndexOutOfBoundsException") 60 mSH σ) ∧ (¬ ((f_X0_hasItem_5 σ a1) = 0) → (((f_X4_isIn_16 σ a1) = 0 → mCall Γ M_X7_oneThatFrees (d + 2) 0 0 [.ref 0, .int a1] 60 mSH σ (mRt Γ M_X7_frees (d + 3) Q 60 0 0 23 [(0, .ref 0), (1, .int a1)] [])) ∧ (¬ ((f_X4_isIn_16 σ a1) = 0) → Q (.inl (some (.int 0))) 60 mSH σ))))) : mCall Γ M_X7_frees (d + 3) 1 6 [.ref 0, .int a1] 60 mSH σ Q := by
  refine mCall_of rfl (by decide) (Nat.le_of_ble_eq_true rfl) (mOkC (mOk_lo (Nat.le_of_ble_eq_true rfl)) (mOkC mOk_i mOkN)) ?_
  show mK Γ M_X7_frees (d + 3) Q 60 1 6 0 [(0, .ref 0), (1, .int a1)] [] 60 mSH σ
  refine mK_aload_n dX7_frees_0 rfl rfl (.head _) ?_
  refine mK_iload_n dX7_frees_1 rfl rfl (.tail _ (.head _)) ?_
  refine mK_invV (J := M_X7_needItem) (k := 1) (as := [.int a1]) (st := []) (c1 := 1) (s1 := 6) dX7_frees_2 rfl jw_X7_needItem jn_X7_needItem rfl (Nat.le_of_ble_eq_true rfl) (Nat.le_of_ble_eq_true rfl) (Nat.le_of_ble_eq_true rfl) rfl kw_882 kw_884 kw_34 (b := 0) (Nat.le_of_ble_eq_true rfl) (Nat.le_of_ble_eq_true rfl) rfl ?_
  refine C_X7_needItem_0 a1 ?_
  refine ⟨fun c1 => ?_, fun c1 => ?_⟩
  · exact (h.1 c1)
  · show mK Γ M_X7_frees (d + 3) Q 60 0 0 5 [(0, .ref 0), (1, .int a1)] [] 60 mSH σ
    refine mK_aload_n dX7_frees_5 rfl rfl (.head _) ?_
    refine ru_getR (k := 3) (ci := 6) (a := 16) dX7_frees_6 rfl rfl rfl kw_284 ?_
    refine mK_iload_n dX7_frees_9 rfl rfl (.tail _ (.head _)) ?_
    refine mK_invV (J := M_X4_isIn) (k := 1) (as := [.int a1]) (st := []) (c1 := 0) (s1 := 0) dX7_frees_10 rfl jw_X4_isIn jn_X4_isIn rfl (Nat.le_of_ble_eq_true rfl) (Nat.zero_le _) (Nat.zero_le _) rfl kw_892 kw_615 kw_616 (b := 16) (Nat.le_of_ble_eq_true rfl) (Nat.le_of_ble_eq_true rfl) rfl ?_
    refine S_X4_isIn_16 a1 ?_
    show mK Γ M_X7_frees (d + 3) Q 60 0 0 13 [(0, .ref 0), (1, .int a1)] [.int (f_X4_isIn_16 σ a1)] 60 mSH σ
    refine mK_if_eq (tgt := 18) dX7_frees_13 rfl (by decide) (fun c2 => ?_) (fun c2 => ?_)
    · refine mK_aload_n dX7_frees_18 rfl rfl (.head _) ?_
      refine mK_iload_n dX7_frees_19 rfl rfl (.tail _ (.head _)) ?_
      refine mK_invV (J := M_X7_oneThatFrees) (k := 1) (as := [.int a1]) (st := []) (c1 := 0) (s1 := 0) dX7_frees_20 rfl jw_X7_oneThatFrees jn_X7_oneThatFrees rfl (Nat.le_of_ble_eq_true rfl) (Nat.zero_le _) (Nat.zero_le _) rfl kw_1051 kw_1053 kw_36 (b := 0) (Nat.le_of_ble_eq_true rfl) (Nat.le_of_ble_eq_true rfl) rfl ?_
      exact ((h.2 c1).1 c2)
    · refine mK_iconst dX7_frees_16 rfl qic_0 ?_
      exact mK_iret dX7_frees_17 rfl ((h.2 c1).2 c2)
set_option maxRecDepth 20000 in
theorem T_X7_frees_0_23a {Γ : Nat × (Nat → Int32)} {d n0 bc bs : Nat} {Q : mQ} {σ : mS} (x1 : Int32) (r : Int32) (h : ((r = (-1) → mCall Γ M_X7_pairThatFrees (d + 2) 0 0 [.ref 0, .int x1] 60 mSH σ (mRt Γ M_X7_frees (d + 3) Q n0 bc bs 40 [(0, .ref 0), (1, .int x1), (2, .int r)] [])) ∧ (¬ (r = (-1)) → Q (.inl (some (.int (1 + r)))) 60 mSH σ))) : mRt Γ M_X7_frees (d + 3) Q n0 bc bs 23 [(0, .ref 0), (1, .int x1)] [] (.inl (some (.int r))) 60 mSH σ := by
  show mK Γ M_X7_frees (d + 3) Q n0 bc bs 23 [(0, .ref 0), (1, .int x1)] [.int r] 60 mSH σ
  refine ru_istore_n (lv1 := [(0, .ref 0), (1, .int x1), (2, .int r)]) dX7_frees_23 rfl rfl (by decide) rfl ?_
  refine mK_iload_n dX7_frees_24 rfl rfl (.tail _ (.tail _ (.head _))) ?_
  refine mK_iconst dX7_frees_25 rfl qic_m1 ?_
  refine mK_icmp_eq (tgt := 35) dX7_frees_26 rfl (by decide) (fun c1 => ?_) (fun c1 => ?_)
  · refine mK_aload_n dX7_frees_35 rfl rfl (.head _) ?_
    refine mK_iload_n dX7_frees_36 rfl rfl (.tail _ (.head _)) ?_
    refine mK_invV (J := M_X7_pairThatFrees) (k := 1) (as := [.int x1]) (st := []) (c1 := 0) (s1 := 0) dX7_frees_37 rfl jw_X7_pairThatFrees jn_X7_pairThatFrees rfl (Nat.le_of_ble_eq_true rfl) (Nat.zero_le _) (Nat.zero_le _) rfl kw_1055 kw_1057 kw_37 (b := 0) (Nat.le_of_ble_eq_true rfl) (Nat.le_of_ble_eq_true rfl) rfl ?_
    exact (h.1 c1)
  · refine mK_iconst dX7_frees_29 rfl qic_1 ?_
    refine mK_iload_n dX7_frees_30 rfl rfl (.tail _ (.tail _ (.head _))) ?_
    refine mK_iadd dX7_frees_31 rfl ?_
    refine mK_goto (tgt := 40) dX7_frees_32 (by decide) ?_
    exact mK_iret dX7_frees_40 rfl (h.2 c1)
set_option maxRecDepth 20000 in
theorem T_X7_frees_0_40a {Γ : Nat × (Nat → Int32)} {d n0 bc bs : Nat} {Q : mQ} {σ : mS} (x1 : Int32) (x2 : Int32) (r : Int32) (h : Q (.inl (some (.int r))) 60 mSH σ) : mRt Γ M_X7_frees (d + 3) Q n0 bc bs 40 [(0, .ref 0), (1, .int x1), (2, .int x2)] [] (.inl (some (.int r))) 60 mSH σ := by
  show mK Γ M_X7_frees (d + 3) Q n0 bc bs 40 [(0, .ref 0), (1, .int x1), (2, .int x2)] [.int r] 60 mSH σ
  exact mK_iret dX7_frees_40 rfl h
set_option maxRecDepth 20000 in
theorem E_X7_speaker_0 {Γ : Nat × (Nat → Int32)} {d : Nat} {Q : mQ} {σ : mS} (a1 : Int32) (a2 : Int32) (h : (((f_X0_hasSpeaker_5 σ a1) = 0 → Q (.inr "java/lang/IndexOutOfBoundsException") 60 mSH σ) ∧ (¬ ((f_X0_hasSpeaker_5 σ a1) = 0) → ((cnt (σ.1 5 10) 40) ∧ ((a2 = 0 → Q (.inl (some (.int (f_X0_timeOf_5 σ a1)))) 60 mSH σ) ∧ (¬ (a2 = 0) → ((a2 = 1 → mCall Γ M_X4_scoreOf (d + 3) 0 0 [.ref 16, .int a1] 60 mSH σ (mRt Γ M_X7_speaker (d + 4) Q 60 1 6 73 [(0, .ref 0), (1, .int a1), (2, .int a2), (3, .long (f_X0_itemsOfSpeaker_5 σ a1))] [])) ∧ (¬ (a2 = 1) → ((a2 = 2 → mCall Γ M_X4_leadOf (d + 3) 0 0 [.ref 16, .int a1] 60 mSH σ (mRt Γ M_X7_speaker (d + 4) Q 60 1 6 82 [(0, .ref 0), (1, .int a1), (2, .int a2), (3, .long (f_X0_itemsOfSpeaker_5 σ a1))] [])) ∧ (¬ (a2 = 2) → ((a2 = 3 → Q (.inl (some (.int (nI (mCnt (bB ((f_X0_itemsOfSpeaker_5 σ a1) &&& (f_X0_itemsOfKind_5 σ 0))) 64))))) 60 mSH σ) ∧ (¬ (a2 = 3) → ((a2 = 4 → Q (.inl (some (.int (nI (mCnt (bB ((f_X0_itemsOfSpeaker_5 σ a1) &&& (f_X0_itemsOfKind_5 σ 1))) 64))))) 60 mSH σ) ∧ (¬ (a2 = 4) → ((a2 = 5 → Q (.inl (some (.int (nI (mCnt (bB ((f_X0_itemsOfSpeaker_5 σ a1) &&& (f_X0_itemsOfKind_5 σ 2))) 64))))) 60 mSH σ) ∧ (¬ (a2 = 5) → ((a2 = 6 → Q (.inl (some (.int (nI (mCnt (bB ((f_X0_itemsOfSpeaker_5 σ a1) &&& (f_X0_concededItems_5 σ))) 64))))) 60 mSH σ) ∧ (¬ (a2 = 6) → Q (.inr "java/lang/IndexOutOfBoundsException") 60 mSH σ)))))))))))))))))) : mCall Γ M_X7_speaker (d + 4) 2 12 [.ref 0, .int a1, .int a2] 60 mSH σ Q := by
  refine mCall_of rfl (by decide) (Nat.le_of_ble_eq_true rfl) (mOkC (mOk_lo (Nat.le_of_ble_eq_true rfl)) (mOkC mOk_i (mOkC mOk_i mOkN))) ?_
  show mK Γ M_X7_speaker (d + 4) Q 60 2 12 0 [(0, .ref 0), (1, .int a1), (2, .int a2)] [] 60 mSH σ
  refine mK_aload_n dX7_speaker_0 rfl rfl (.head _) ?_
  refine mK_iload_n dX7_speaker_1 rfl rfl (.tail _ (.head _)) ?_
  refine mK_invV (J := M_X7_needSpeaker) (k := 1) (as := [.int a1]) (st := []) (c1 := 1) (s1 := 6) dX7_speaker_2 rfl jw_X7_needSpeaker jn_X7_needSpeaker rfl (Nat.le_of_ble_eq_true rfl) (Nat.le_of_ble_eq_true rfl) (Nat.le_of_ble_eq_true rfl) rfl kw_860 kw_862 kw_33 (b := 0) (Nat.le_of_ble_eq_true rfl) (Nat.le_of_ble_eq_true rfl) rfl ?_
  refine C_X7_needSpeaker_0 a1 ?_
  refine ⟨fun c1 => ?_, fun c1 => ?_⟩
  · exact (h.1 c1)
  · show mK Γ M_X7_speaker (d + 4) Q 60 1 6 5 [(0, .ref 0), (1, .int a1), (2, .int a2)] [] 60 mSH σ
    refine mK_aload_n dX7_speaker_5 rfl rfl (.head _) ?_
    refine ru_getR (k := 2) (ci := 6) (a := 5) dX7_speaker_6 rfl rfl rfl kw_283 ?_
    refine mK_iload_n dX7_speaker_9 rfl rfl (.tail _ (.head _)) ?_
    refine mK_invV (J := M_X0_itemsOfSpeaker) (k := 1) (as := [.int a1]) (st := []) (c1 := 0) (s1 := 0) dX7_speaker_10 rfl jw_X0_itemsOfSpeaker jn_X0_itemsOfSpeaker rfl (Nat.le_of_ble_eq_true rfl) (Nat.zero_le _) (Nat.zero_le _) rfl kw_866 kw_867 kw_868 (b := 5) (Nat.le_of_ble_eq_true rfl) (Nat.le_of_ble_eq_true rfl) rfl ?_
    refine S_X0_itemsOfSpeaker_5 a1 ((h.2 c1).1) ?_
    show mK Γ M_X7_speaker (d + 4) Q 60 1 6 13 [(0, .ref 0), (1, .int a1), (2, .int a2)] [.long (f_X0_itemsOfSpeaker_5 σ a1)] 60 mSH σ
    refine ru_lstore_n (lv1 := [(0, .ref 0), (1, .int a1), (2, .int a2), (3, .long (f_X0_itemsOfSpeaker_5 σ a1))]) dX7_speaker_13 rfl rfl (by decide) rfl ?_
    refine mK_iload_n dX7_speaker_14 rfl rfl (.tail _ (.tail _ (.head _))) ?_
    refine qsplit (a2 = 0) (fun c2 => ?_) (fun c2 => ?_)
    · refine mK_tabIn (tgt := 56) (off := 41) dX7_speaker_15 (by rw [c2]; decide) (by rw [c2]; decide) (by rw [c2]; rfl) (by decide) ?_
      refine mK_aload_n dX7_speaker_56 rfl rfl (.head _) ?_
      refine ru_getR (k := 2) (ci := 6) (a := 5) dX7_speaker_57 rfl rfl rfl kw_283 ?_
      refine mK_iload_n dX7_speaker_60 rfl rfl (.tail _ (.head _)) ?_
      refine mK_invV (J := M_X0_timeOf) (k := 1) (as := [.int a1]) (st := []) (c1 := 0) (s1 := 0) dX7_speaker_61 rfl jw_X0_timeOf jn_X0_timeOf rfl (Nat.le_of_ble_eq_true rfl) (Nat.zero_le _) (Nat.zero_le _) rfl kw_870 kw_538 kw_539 (b := 5) (Nat.le_of_ble_eq_true rfl) (Nat.le_of_ble_eq_true rfl) rfl ?_
      refine S_X0_timeOf_5 a1 ?_
      show mK Γ M_X7_speaker (d + 4) Q 60 1 6 64 [(0, .ref 0), (1, .int a1), (2, .int a2), (3, .long (f_X0_itemsOfSpeaker_5 σ a1))] [.int (f_X0_timeOf_5 σ a1)] 60 mSH σ
      exact mK_iret dX7_speaker_64 rfl ((h.2 c1).2.1 c2)
    · refine qsplit (a2 = 1) (fun c3 => ?_) (fun c3 => ?_)
      · refine mK_tabIn (tgt := 65) (off := 50) dX7_speaker_15 (by rw [c3]; decide) (by rw [c3]; decide) (by rw [c3]; rfl) (by decide) ?_
        refine mK_aload_n dX7_speaker_65 rfl rfl (.head _) ?_
        refine ru_getR (k := 3) (ci := 6) (a := 16) dX7_speaker_66 rfl rfl rfl kw_284 ?_
        refine mK_iload_n dX7_speaker_69 rfl rfl (.tail _ (.head _)) ?_
        refine mK_invV (J := M_X4_scoreOf) (k := 1) (as := [.int a1]) (st := []) (c1 := 0) (s1 := 0) dX7_speaker_70 rfl jw_X4_scoreOf jn_X4_scoreOf rfl (Nat.le_of_ble_eq_true rfl) (Nat.zero_le _) (Nat.zero_le _) rfl kw_702 kw_703 kw_704 (b := 16) (Nat.le_of_ble_eq_true rfl) (Nat.le_of_ble_eq_true rfl) rfl ?_
        exact (((h.2 c1).2.2 c2).1 c3)
      · refine qsplit (a2 = 2) (fun c4 => ?_) (fun c4 => ?_)
        · refine mK_tabIn (tgt := 74) (off := 59) dX7_speaker_15 (by rw [c4]; decide) (by rw [c4]; decide) (by rw [c4]; rfl) (by decide) ?_
          refine mK_aload_n dX7_speaker_74 rfl rfl (.head _) ?_
          refine ru_getR (k := 3) (ci := 6) (a := 16) dX7_speaker_75 rfl rfl rfl kw_284 ?_
          refine mK_iload_n dX7_speaker_78 rfl rfl (.tail _ (.head _)) ?_
          refine mK_invV (J := M_X4_leadOf) (k := 1) (as := [.int a1]) (st := []) (c1 := 0) (s1 := 0) dX7_speaker_79 rfl jw_X4_leadOf jn_X4_leadOf rfl (Nat.le_of_ble_eq_true rfl) (Nat.zero_le _) (Nat.zero_le _) rfl kw_871 kw_872 kw_873 (b := 16) (Nat.le_of_ble_eq_true rfl) (Nat.le_of_ble_eq_true rfl) rfl ?_
          exact ((((h.2 c1).2.2 c2).2 c3).1 c4)
        · refine qsplit (a2 = 3) (fun c5 => ?_) (fun c5 => ?_)
          · refine mK_tabIn (tgt := 83) (off := 68) dX7_speaker_15 (by rw [c5]; decide) (by rw [c5]; decide) (by rw [c5]; rfl) (by decide) ?_
            refine mK_lload_n dX7_speaker_83 rfl rfl (.tail _ (.tail _ (.tail _ (.head _)))) ?_
            refine mK_aload_n dX7_speaker_84 rfl rfl (.head _) ?_
            refine ru_getR (k := 2) (ci := 6) (a := 5) dX7_speaker_85 rfl rfl rfl kw_283 ?_
            refine mK_iconst dX7_speaker_88 rfl qic_0 ?_
            refine mK_invV (J := M_X0_itemsOfKind) (k := 1) (as := [.int 0]) (st := [.long (f_X0_itemsOfSpeaker_5 σ a1)]) (c1 := 0) (s1 := 0) dX7_speaker_89 rfl jw_X0_itemsOfKind jn_X0_itemsOfKind rfl (Nat.le_of_ble_eq_true rfl) (Nat.zero_le _) (Nat.zero_le _) rfl kw_751 kw_752 kw_753 (b := 5) (Nat.le_of_ble_eq_true rfl) (Nat.le_of_ble_eq_true rfl) rfl ?_
            refine S_X0_itemsOfKind_5 0 ((h.2 c1).1) ?_
            show mK Γ M_X7_speaker (d + 4) Q 60 1 6 92 [(0, .ref 0), (1, .int a1), (2, .int a2), (3, .long (f_X0_itemsOfSpeaker_5 σ a1))] [.long (f_X0_itemsOfKind_5 σ 0), .long (f_X0_itemsOfSpeaker_5 σ a1)] 60 mSH σ
            refine mK_land dX7_speaker_92 rfl ?_
            refine mK_invS (J := M_J13_bitCount_95d88) (k := 1) (as := [.long ((f_X0_itemsOfSpeaker_5 σ a1) &&& (f_X0_itemsOfKind_5 σ 0))]) (st := []) (c1 := 0) (s1 := 0) dX7_speaker_93 rfl jw_J13_bitCount_95d88 jn_J13_bitCount_95d88 rfl (Nat.le_of_ble_eq_true rfl) (Nat.zero_le _) (Nat.zero_le _) rfl kw_759 kw_760 ?_
            refine S_bitCount ((f_X0_itemsOfSpeaker_5 σ a1) &&& (f_X0_itemsOfKind_5 σ 0)) ?_
            show mK Γ M_X7_speaker (d + 4) Q 60 1 6 96 [(0, .ref 0), (1, .int a1), (2, .int a2), (3, .long (f_X0_itemsOfSpeaker_5 σ a1))] [.int (nI (mCnt (bB ((f_X0_itemsOfSpeaker_5 σ a1) &&& (f_X0_itemsOfKind_5 σ 0))) 64))] 60 mSH σ
            exact mK_iret dX7_speaker_96 rfl (((((h.2 c1).2.2 c2).2 c3).2 c4).1 c5)
          · refine qsplit (a2 = 4) (fun c6 => ?_) (fun c6 => ?_)
            · refine mK_tabIn (tgt := 97) (off := 82) dX7_speaker_15 (by rw [c6]; decide) (by rw [c6]; decide) (by rw [c6]; rfl) (by decide) ?_
              refine mK_lload_n dX7_speaker_97 rfl rfl (.tail _ (.tail _ (.tail _ (.head _)))) ?_
              refine mK_aload_n dX7_speaker_98 rfl rfl (.head _) ?_
              refine ru_getR (k := 2) (ci := 6) (a := 5) dX7_speaker_99 rfl rfl rfl kw_283 ?_
              refine mK_iconst dX7_speaker_102 rfl qic_1 ?_
              refine mK_invV (J := M_X0_itemsOfKind) (k := 1) (as := [.int 1]) (st := [.long (f_X0_itemsOfSpeaker_5 σ a1)]) (c1 := 0) (s1 := 0) dX7_speaker_103 rfl jw_X0_itemsOfKind jn_X0_itemsOfKind rfl (Nat.le_of_ble_eq_true rfl) (Nat.zero_le _) (Nat.zero_le _) rfl kw_751 kw_752 kw_753 (b := 5) (Nat.le_of_ble_eq_true rfl) (Nat.le_of_ble_eq_true rfl) rfl ?_
              refine S_X0_itemsOfKind_5 1 ((h.2 c1).1) ?_
              show mK Γ M_X7_speaker (d + 4) Q 60 1 6 106 [(0, .ref 0), (1, .int a1), (2, .int a2), (3, .long (f_X0_itemsOfSpeaker_5 σ a1))] [.long (f_X0_itemsOfKind_5 σ 1), .long (f_X0_itemsOfSpeaker_5 σ a1)] 60 mSH σ
              refine mK_land dX7_speaker_106 rfl ?_
              refine mK_invS (J := M_J13_bitCount_95d88) (k := 1) (as := [.long ((f_X0_itemsOfSpeaker_5 σ a1) &&& (f_X0_itemsOfKind_5 σ 1))]) (st := []) (c1 := 0) (s1 := 0) dX7_speaker_107 rfl jw_J13_bitCount_95d88 jn_J13_bitCount_95d88 rfl (Nat.le_of_ble_eq_true rfl) (Nat.zero_le _) (Nat.zero_le _) rfl kw_759 kw_760 ?_
              refine S_bitCount ((f_X0_itemsOfSpeaker_5 σ a1) &&& (f_X0_itemsOfKind_5 σ 1)) ?_
              show mK Γ M_X7_speaker (d + 4) Q 60 1 6 110 [(0, .ref 0), (1, .int a1), (2, .int a2), (3, .long (f_X0_itemsOfSpeaker_5 σ a1))] [.int (nI (mCnt (bB ((f_X0_itemsOfSpeaker_5 σ a1) &&& (f_X0_itemsOfKind_5 σ 1))) 64))] 60 mSH σ
              exact mK_iret dX7_speaker_110 rfl ((((((h.2 c1).2.2 c2).2 c3).2 c4).2 c5).1 c6)
            · refine qsplit (a2 = 5) (fun c7 => ?_) (fun c7 => ?_)
              · refine mK_tabIn (tgt := 111) (off := 96) dX7_speaker_15 (by rw [c7]; decide) (by rw [c7]; decide) (by rw [c7]; rfl) (by decide) ?_
                refine mK_lload_n dX7_speaker_111 rfl rfl (.tail _ (.tail _ (.tail _ (.head _)))) ?_
                refine mK_aload_n dX7_speaker_112 rfl rfl (.head _) ?_
                refine ru_getR (k := 2) (ci := 6) (a := 5) dX7_speaker_113 rfl rfl rfl kw_283 ?_
                refine mK_iconst dX7_speaker_116 rfl qic_2 ?_
                refine mK_invV (J := M_X0_itemsOfKind) (k := 1) (as := [.int 2]) (st := [.long (f_X0_itemsOfSpeaker_5 σ a1)]) (c1 := 0) (s1 := 0) dX7_speaker_117 rfl jw_X0_itemsOfKind jn_X0_itemsOfKind rfl (Nat.le_of_ble_eq_true rfl) (Nat.zero_le _) (Nat.zero_le _) rfl kw_751 kw_752 kw_753 (b := 5) (Nat.le_of_ble_eq_true rfl) (Nat.le_of_ble_eq_true rfl) rfl ?_
                refine S_X0_itemsOfKind_5 2 ((h.2 c1).1) ?_
                show mK Γ M_X7_speaker (d + 4) Q 60 1 6 120 [(0, .ref 0), (1, .int a1), (2, .int a2), (3, .long (f_X0_itemsOfSpeaker_5 σ a1))] [.long (f_X0_itemsOfKind_5 σ 2), .long (f_X0_itemsOfSpeaker_5 σ a1)] 60 mSH σ
                refine mK_land dX7_speaker_120 rfl ?_
                refine mK_invS (J := M_J13_bitCount_95d88) (k := 1) (as := [.long ((f_X0_itemsOfSpeaker_5 σ a1) &&& (f_X0_itemsOfKind_5 σ 2))]) (st := []) (c1 := 0) (s1 := 0) dX7_speaker_121 rfl jw_J13_bitCount_95d88 jn_J13_bitCount_95d88 rfl (Nat.le_of_ble_eq_true rfl) (Nat.zero_le _) (Nat.zero_le _) rfl kw_759 kw_760 ?_
                refine S_bitCount ((f_X0_itemsOfSpeaker_5 σ a1) &&& (f_X0_itemsOfKind_5 σ 2)) ?_
                show mK Γ M_X7_speaker (d + 4) Q 60 1 6 124 [(0, .ref 0), (1, .int a1), (2, .int a2), (3, .long (f_X0_itemsOfSpeaker_5 σ a1))] [.int (nI (mCnt (bB ((f_X0_itemsOfSpeaker_5 σ a1) &&& (f_X0_itemsOfKind_5 σ 2))) 64))] 60 mSH σ
                exact mK_iret dX7_speaker_124 rfl (((((((h.2 c1).2.2 c2).2 c3).2 c4).2 c5).2 c6).1 c7)
              · refine qsplit (a2 = 6) (fun c8 => ?_) (fun c8 => ?_)
                · refine mK_tabIn (tgt := 125) (off := 110) dX7_speaker_15 (by rw [c8]; decide) (by rw [c8]; decide) (by rw [c8]; rfl) (by decide) ?_
                  refine mK_lload_n dX7_speaker_125 rfl rfl (.tail _ (.tail _ (.tail _ (.head _)))) ?_
                  refine mK_aload_n dX7_speaker_126 rfl rfl (.head _) ?_
                  refine ru_getR (k := 2) (ci := 6) (a := 5) dX7_speaker_127 rfl rfl rfl kw_283 ?_
                  refine mK_invV (J := M_X0_concededItems) (k := 0) (as := []) (st := [.long (f_X0_itemsOfSpeaker_5 σ a1)]) (c1 := 0) (s1 := 0) dX7_speaker_130 rfl jw_X0_concededItems jn_X0_concededItems rfl (Nat.le_of_ble_eq_true rfl) (Nat.zero_le _) (Nat.zero_le _) rfl kw_784 kw_595 kw_596 (b := 5) (Nat.le_of_ble_eq_true rfl) (Nat.le_of_ble_eq_true rfl) rfl ?_
                  refine S_X0_concededItems_5  ?_
                  show mK Γ M_X7_speaker (d + 4) Q 60 1 6 133 [(0, .ref 0), (1, .int a1), (2, .int a2), (3, .long (f_X0_itemsOfSpeaker_5 σ a1))] [.long (f_X0_concededItems_5 σ), .long (f_X0_itemsOfSpeaker_5 σ a1)] 60 mSH σ
                  refine mK_land dX7_speaker_133 rfl ?_
                  refine mK_invS (J := M_J13_bitCount_95d88) (k := 1) (as := [.long ((f_X0_itemsOfSpeaker_5 σ a1) &&& (f_X0_concededItems_5 σ))]) (st := []) (c1 := 0) (s1 := 0) dX7_speaker_134 rfl jw_J13_bitCount_95d88 jn_J13_bitCount_95d88 rfl (Nat.le_of_ble_eq_true rfl) (Nat.zero_le _) (Nat.zero_le _) rfl kw_759 kw_760 ?_
                  refine S_bitCount ((f_X0_itemsOfSpeaker_5 σ a1) &&& (f_X0_concededItems_5 σ)) ?_
                  show mK Γ M_X7_speaker (d + 4) Q 60 1 6 137 [(0, .ref 0), (1, .int a1), (2, .int a2), (3, .long (f_X0_itemsOfSpeaker_5 σ a1))] [.int (nI (mCnt (bB ((f_X0_itemsOfSpeaker_5 σ a1) &&& (f_X0_concededItems_5 σ))) 64))] 60 mSH σ
                  exact mK_iret dX7_speaker_137 rfl ((((((((h.2 c1).2.2 c2).2 c3).2 c4).2 c5).2 c6).2 c7).1 c8)
                · refine mK_tabOut (tgt := 138) dX7_speaker_15 (qtab_7 c2 c3 c4 c5 c6 c7 c8) (by decide) ?_
                  exact mK_throw (text := "no such fact of a speaker") dX7_speaker_138 dX7_speaker_141 dX7_speaker_142 dX7_speaker_144 dX7_speaker_147 rfl rfl (by decide) (Nat.le_of_ble_eq_true rfl) (Nat.le_of_ble_eq_true rfl) (Nat.le_of_ble_eq_true rfl) (by decide +kernel) kw_789 kw_110 mTh_2 ((((((((h.2 c1).2.2 c2).2 c3).2 c4).2 c5).2 c6).2 c7).2 c8)
set_option maxRecDepth 20000 in
theorem T_X7_speaker_0_73a {Γ : Nat × (Nat → Int32)} {d n0 bc bs : Nat} {Q : mQ} {σ : mS} (x1 : Int32) (x2 : Int32) (x3 : Int64) (r : Int32) (h : Q (.inl (some (.int r))) 60 mSH σ) : mRt Γ M_X7_speaker (d + 4) Q n0 bc bs 73 [(0, .ref 0), (1, .int x1), (2, .int x2), (3, .long x3)] [] (.inl (some (.int r))) 60 mSH σ := by
  show mK Γ M_X7_speaker (d + 4) Q n0 bc bs 73 [(0, .ref 0), (1, .int x1), (2, .int x2), (3, .long x3)] [.int r] 60 mSH σ
  exact mK_iret dX7_speaker_73 rfl h
set_option maxRecDepth 20000 in
theorem T_X7_speaker_0_82a {Γ : Nat × (Nat → Int32)} {d n0 bc bs : Nat} {Q : mQ} {σ : mS} (x1 : Int32) (x2 : Int32) (x3 : Int64) (r : Int32) (h : Q (.inl (some (.int r))) 60 mSH σ) : mRt Γ M_X7_speaker (d + 4) Q n0 bc bs 82 [(0, .ref 0), (1, .int x1), (2, .int x2), (3, .long x3)] [] (.inl (some (.int r))) 60 mSH σ := by
  show mK Γ M_X7_speaker (d + 4) Q n0 bc bs 82 [(0, .ref 0), (1, .int x1), (2, .int x2), (3, .long x3)] [.int r] 60 mSH σ
  exact mK_iret dX7_speaker_82 rfl h
set_option maxRecDepth 20000 in
theorem E_X9_share_26 {Γ : Nat × (Nat → Int32)} {d : Nat} {Q : mQ} {σ : mS} (h : mK Γ M_X9_share (d + 1) Q 60 0 0 11 [(0, .ref 26), (1, .int 0), (2, .int 0), (3, .int 0)] [] 60 mSH (mPI σ 26 0 0)) : mCall Γ M_X9_share (d + 1) 0 0 [.ref 26] 60 mSH σ Q := by
  refine mCall_of rfl (by decide) (Nat.le_of_ble_eq_true rfl) (mOkC (mOk_lo (Nat.le_of_ble_eq_true rfl)) mOkN) ?_
  show mK Γ M_X9_share (d + 1) Q 60 0 0 0 [(0, .ref 26)] [] 60 mSH σ
  refine mK_aload_n dX9_share_0 rfl rfl (.head _) ?_
  refine mK_iconst dX9_share_1 rfl qic_0 ?_
  refine ru_putI (k := 0) (ci := 8) dX9_share_2 rfl rfl rfl kw_1127 ?_
  refine mK_iconst dX9_share_5 rfl qic_0 ?_
  refine ru_istore_n (lv1 := [(0, .ref 26), (1, .int 0)]) dX9_share_6 rfl rfl (by decide) rfl ?_
  refine mK_iconst dX9_share_7 rfl qic_0 ?_
  refine ru_istore_n (lv1 := [(0, .ref 26), (1, .int 0), (2, .int 0)]) dX9_share_8 rfl rfl (by decide) rfl ?_
  refine mK_iconst dX9_share_9 rfl qic_0 ?_
  refine ru_istore_n (lv1 := [(0, .ref 26), (1, .int 0), (2, .int 0), (3, .int 0)]) dX9_share_10 rfl rfl (by decide) rfl ?_
  exact h
set_option maxRecDepth 20000 in
theorem T_X9_share_26_11 {Γ : Nat × (Nat → Int32)} {d n0 bc bs : Nat} {Q : mQ} {σ : mS} (x1 : Int32) (x2 : Int32) (x3 : Int32) (h : (((σ.1 32 3) ≤ x3 → ((x1 = 0 → Q (.inl (some (.double FP.dconst0))) 60 mSH σ) ∧ (¬ (x1 = 0) → ((vf_n64 (FP.ddiv (FP.i2d x2) (FP.i2d x1))) ∧ Q (.inl (some (.double (FP.ddiv (FP.i2d x2) (FP.i2d x1))))) 60 mSH σ)))) ∧ (¬ ((σ.1 32 3) ≤ x3) → ((vp_in x3 40) ∧ (((σ.1 36 (x3).toNatClampNeg) = 0 → (((σ.1 52 (x3).toNatClampNeg) = 1 → mK Γ M_X9_share (d + 1) Q n0 bc bs 11 [(0, .ref 26), (1, .int (x1 + 1)), (2, .int (x2 + 1)), (3, .int (x3 + 1))] [] 60 mSH σ) ∧ (¬ ((σ.1 52 (x3).toNatClampNeg) = 1) → mK Γ M_X9_share (d + 1) Q n0 bc bs 11 [(0, .ref 26), (1, .int (x1 + 1)), (2, .int (x2 + 0)), (3, .int (x3 + 1))] [] 60 mSH σ))) ∧ (¬ ((σ.1 36 (x3).toNatClampNeg) = 0) → mK Γ M_X9_share (d + 1) Q n0 bc bs 11 [(0, .ref 26), (1, .int x1), (2, .int x2), (3, .int (x3 + 1))] [] 60 mSH σ)))))) : mK Γ M_X9_share (d + 1) Q n0 bc bs 11 [(0, .ref 26), (1, .int x1), (2, .int x2), (3, .int x3)] [] 60 mSH σ := by
  refine mK_iload_n dX9_share_11 rfl rfl (.tail _ (.tail _ (.tail _ (.head _)))) ?_
  refine mK_aload_n dX9_share_12 rfl rfl (.head _) ?_
  refine ru_getR (k := 11) (ci := 8) (a := 32) dX9_share_13 rfl rfl rfl kw_1138 ?_
  refine ru_getIN (k := 3) (ci := 7) dX9_share_16 rfl rfl kn_1086 ?_
  refine mK_icmp_ge (tgt := 64) dX9_share_19 rfl (by decide) (fun c1 => ?_) (fun c1 => ?_)
  · refine mK_iload_n dX9_share_64 rfl rfl (.tail _ (.head _)) ?_
    refine ru_if_ne (tgt := 72) dX9_share_65 rfl (by decide) (fun c2 => ?_) (fun c2 => ?_)
    · refine mK_iload_n dX9_share_72 rfl rfl (.tail _ (.tail _ (.head _))) ?_
      refine mK_i2d dX9_share_73 rfl ?_
      refine mK_iload_n dX9_share_74 rfl rfl (.tail _ (.head _)) ?_
      refine mK_i2d dX9_share_75 rfl ?_
      refine mK_ddiv dX9_share_76 rfl (((h.1 c1).2 c2).1) ?_
      exact mK_dret dX9_share_77 rfl ((h.1 c1).2 c2).2
    · refine mK_dconst0 dX9_share_68 rfl ?_
      refine mK_goto (tgt := 77) dX9_share_69 (by decide) ?_
      exact mK_dret dX9_share_77 rfl ((h.1 c1).1 c2)
  · refine mK_aload_n dX9_share_22 rfl rfl (.head _) ?_
    refine ru_getR (k := 11) (ci := 8) (a := 32) dX9_share_23 rfl rfl rfl kw_1138 ?_
    refine ru_getRN (k := 5) (ci := 7) (a := 36) dX9_share_26 rfl rfl rfl kn_1090 ?_
    refine mK_iload_n dX9_share_29 rfl rfl (.tail _ (.tail _ (.tail _ (.head _)))) ?_
    refine ru_iald (n := 40) dX9_share_30 rfl rfl ((h.2 c1).1) ?_
    refine mK_if_eq (tgt := 37) dX9_share_31 rfl (by decide) (fun c3 => ?_) (fun c3 => ?_)
    · refine ru_iinc (lv1 := [(0, .ref 26), (1, .int (x1 + 1)), (2, .int x2), (3, .int x3)]) dX9_share_37 rfl (.tail _ (.head _)) qic_1 (by decide) rfl ?_
      refine mK_iload_n dX9_share_40 rfl rfl (.tail _ (.tail _ (.head _))) ?_
      refine mK_aload_n dX9_share_41 rfl rfl (.head _) ?_
      refine ru_getR (k := 13) (ci := 8) (a := 52) dX9_share_42 rfl rfl rfl kw_1140 ?_
      refine mK_iload_n dX9_share_45 rfl rfl (.tail _ (.tail _ (.tail _ (.head _)))) ?_
      refine ru_iald (n := 40) dX9_share_46 rfl rfl ((h.2 c1).1) ?_
      refine mK_iconst dX9_share_47 rfl qic_1 ?_
      refine ru_icmp_ne (tgt := 55) dX9_share_48 rfl (by decide) (fun c4 => ?_) (fun c4 => ?_)
      · refine mK_iconst dX9_share_55 rfl qic_0 ?_
        refine mK_iadd dX9_share_56 rfl ?_
        refine ru_istore_n (lv1 := [(0, .ref 26), (1, .int (x1 + 1)), (2, .int (x2 + 0)), (3, .int x3)]) dX9_share_57 rfl rfl (by decide) rfl ?_
        refine ru_iinc (lv1 := [(0, .ref 26), (1, .int (x1 + 1)), (2, .int (x2 + 0)), (3, .int (x3 + 1))]) dX9_share_58 rfl (.tail _ (.tail _ (.tail _ (.head _)))) qic_1 (by decide) rfl ?_
        refine mK_goto (tgt := 11) dX9_share_61 (by decide) ?_
        exact (((h.2 c1).2.1 c3).2 c4)
      · refine mK_iconst dX9_share_51 rfl qic_1 ?_
        refine mK_goto (tgt := 56) dX9_share_52 (by decide) ?_
        refine mK_iadd dX9_share_56 rfl ?_
        refine ru_istore_n (lv1 := [(0, .ref 26), (1, .int (x1 + 1)), (2, .int (x2 + 1)), (3, .int x3)]) dX9_share_57 rfl rfl (by decide) rfl ?_
        refine ru_iinc (lv1 := [(0, .ref 26), (1, .int (x1 + 1)), (2, .int (x2 + 1)), (3, .int (x3 + 1))]) dX9_share_58 rfl (.tail _ (.tail _ (.tail _ (.head _)))) qic_1 (by decide) rfl ?_
        refine mK_goto (tgt := 11) dX9_share_61 (by decide) ?_
        exact (((h.2 c1).2.1 c3).1 c4)
    · refine mK_goto (tgt := 58) dX9_share_34 (by decide) ?_
      refine ru_iinc (lv1 := [(0, .ref 26), (1, .int x1), (2, .int x2), (3, .int (x3 + 1))]) dX9_share_58 rfl (.tail _ (.tail _ (.tail _ (.head _)))) qic_1 (by decide) rfl ?_
      refine mK_goto (tgt := 11) dX9_share_61 (by decide) ?_
      exact ((h.2 c1).2.2 c3)
set_option maxRecDepth 20000 in
theorem E_X9_itemTold_26 {Γ : Nat × (Nat → Int32)} {d : Nat} {Q : mQ} {σ : mS} (a1 : Int32) (a2 : Int32) (h : ((a2 = 0 → ((vp_in a1 40) ∧ Q (.inl (some (.int (σ.1 36 (a1).toNatClampNeg)))) 60 mSH σ)) ∧ (¬ (a2 = 0) → ((a2 = 1 → ((vp_in a1 40) ∧ Q (.inl (some (.int (σ.1 37 (a1).toNatClampNeg)))) 60 mSH σ)) ∧ (¬ (a2 = 1) → ((a2 = 2 → ((vp_in a1 40) ∧ Q (.inl (some (.int (σ.1 38 (a1).toNatClampNeg)))) 60 mSH σ)) ∧ (¬ (a2 = 2) → ((a2 = 3 → ((vp_in a1 40) ∧ Q (.inl (some (.int (σ.1 39 (a1).toNatClampNeg)))) 60 mSH σ)) ∧ (¬ (a2 = 3) → ((a2 = 4 → ((vp_in a1 40) ∧ Q (.inl (some (.int (σ.1 40 (a1).toNatClampNeg)))) 60 mSH σ)) ∧ (¬ (a2 = 4) → ((a2 = 5 → ((vp_in a1 40) ∧ Q (.inl (some (.int (σ.1 52 (a1).toNatClampNeg)))) 60 mSH σ)) ∧ (¬ (a2 = 5) → ((a2 = 6 → ((vp_in a1 40) ∧ Q (.inl (some (.int (σ.1 53 (a1).toNatClampNeg)))) 60 mSH σ)) ∧ (¬ (a2 = 6) → ((a2 = 7 → ((vp_in a1 40) ∧ Q (.inl (some (.int (σ.1 41 (a1).toNatClampNeg)))) 60 mSH σ)) ∧ (¬ (a2 = 7) → ((a2 = 8 → ((vp_in a1 40) ∧ ((((σ.1 36 (a1).toNatClampNeg) = 1) → vp_in (σ.1 40 (a1).toNatClampNeg) 40) ∧ (((f_X8_isStrong_32 σ a1) = 0 → Q (.inl (some (.int 0))) 60 mSH σ) ∧ (¬ ((f_X8_isStrong_32 σ a1) = 0) → Q (.inl (some (.int 1))) 60 mSH σ))))) ∧ (¬ (a2 = 8) → ((a2 = 9 → mCall Γ M_X9_on (d + 1) 0 0 [.ref 26, .int a1, .int 1] 60 mSH σ (mRt Γ M_X9_itemTold (d + 2) Q 60 0 0 153 [(0, .ref 26), (1, .int a1), (2, .int a2)] [])) ∧ (¬ (a2 = 9) → mCall Γ M_X9_on (d + 1) 0 0 [.ref 26, .int a1, .int 2] 60 mSH σ (mRt Γ M_X9_itemTold (d + 2) Q 60 0 0 160 [(0, .ref 26), (1, .int a1), (2, .int a2)] [])))))))))))))))))))))) : mCall Γ M_X9_itemTold (d + 2) 0 0 [.ref 26, .int a1, .int a2] 60 mSH σ Q := by
  refine mCall_of rfl (by decide) (Nat.le_of_ble_eq_true rfl) (mOkC (mOk_lo (Nat.le_of_ble_eq_true rfl)) (mOkC mOk_i (mOkC mOk_i mOkN))) ?_
  show mK Γ M_X9_itemTold (d + 2) Q 60 0 0 0 [(0, .ref 26), (1, .int a1), (2, .int a2)] [] 60 mSH σ
  refine mK_iload_n dX9_itemTold_0 rfl rfl (.tail _ (.tail _ (.head _))) ?_
  refine qsplit (a2 = 0) (fun c1 => ?_) (fun c1 => ?_)
  · refine mK_tabIn (tgt := 56) (off := 55) dX9_itemTold_1 (by rw [c1]; decide) (by rw [c1]; decide) (by rw [c1]; rfl) (by decide) ?_
    refine mK_aload_n dX9_itemTold_56 rfl rfl (.head _) ?_
    refine ru_getR (k := 11) (ci := 8) (a := 32) dX9_itemTold_57 rfl rfl rfl kw_1138 ?_
    refine ru_getRN (k := 5) (ci := 7) (a := 36) dX9_itemTold_60 rfl rfl rfl kn_1090 ?_
    refine mK_iload_n dX9_itemTold_63 rfl rfl (.tail _ (.head _)) ?_
    refine ru_iald (n := 40) dX9_itemTold_64 rfl rfl ((h.1 c1).1) ?_
    exact mK_iret dX9_itemTold_65 rfl (h.1 c1).2
  · refine qsplit (a2 = 1) (fun c2 => ?_) (fun c2 => ?_)
    · refine mK_tabIn (tgt := 66) (off := 65) dX9_itemTold_1 (by rw [c2]; decide) (by rw [c2]; decide) (by rw [c2]; rfl) (by decide) ?_
      refine mK_aload_n dX9_itemTold_66 rfl rfl (.head _) ?_
      refine ru_getR (k := 11) (ci := 8) (a := 32) dX9_itemTold_67 rfl rfl rfl kw_1138 ?_
      refine ru_getRN (k := 6) (ci := 7) (a := 37) dX9_itemTold_70 rfl rfl rfl kn_1092 ?_
      refine mK_iload_n dX9_itemTold_73 rfl rfl (.tail _ (.head _)) ?_
      refine ru_iald (n := 40) dX9_itemTold_74 rfl rfl (((h.2 c1).1 c2).1) ?_
      exact mK_iret dX9_itemTold_75 rfl ((h.2 c1).1 c2).2
    · refine qsplit (a2 = 2) (fun c3 => ?_) (fun c3 => ?_)
      · refine mK_tabIn (tgt := 76) (off := 75) dX9_itemTold_1 (by rw [c3]; decide) (by rw [c3]; decide) (by rw [c3]; rfl) (by decide) ?_
        refine mK_aload_n dX9_itemTold_76 rfl rfl (.head _) ?_
        refine ru_getR (k := 11) (ci := 8) (a := 32) dX9_itemTold_77 rfl rfl rfl kw_1138 ?_
        refine ru_getRN (k := 7) (ci := 7) (a := 38) dX9_itemTold_80 rfl rfl rfl kn_1094 ?_
        refine mK_iload_n dX9_itemTold_83 rfl rfl (.tail _ (.head _)) ?_
        refine ru_iald (n := 40) dX9_itemTold_84 rfl rfl ((((h.2 c1).2 c2).1 c3).1) ?_
        exact mK_iret dX9_itemTold_85 rfl (((h.2 c1).2 c2).1 c3).2
      · refine qsplit (a2 = 3) (fun c4 => ?_) (fun c4 => ?_)
        · refine mK_tabIn (tgt := 86) (off := 85) dX9_itemTold_1 (by rw [c4]; decide) (by rw [c4]; decide) (by rw [c4]; rfl) (by decide) ?_
          refine mK_aload_n dX9_itemTold_86 rfl rfl (.head _) ?_
          refine ru_getR (k := 11) (ci := 8) (a := 32) dX9_itemTold_87 rfl rfl rfl kw_1138 ?_
          refine ru_getRN (k := 8) (ci := 7) (a := 39) dX9_itemTold_90 rfl rfl rfl kn_1096 ?_
          refine mK_iload_n dX9_itemTold_93 rfl rfl (.tail _ (.head _)) ?_
          refine ru_iald (n := 40) dX9_itemTold_94 rfl rfl (((((h.2 c1).2 c2).2 c3).1 c4).1) ?_
          exact mK_iret dX9_itemTold_95 rfl ((((h.2 c1).2 c2).2 c3).1 c4).2
        · refine qsplit (a2 = 4) (fun c5 => ?_) (fun c5 => ?_)
          · refine mK_tabIn (tgt := 96) (off := 95) dX9_itemTold_1 (by rw [c5]; decide) (by rw [c5]; decide) (by rw [c5]; rfl) (by decide) ?_
            refine mK_aload_n dX9_itemTold_96 rfl rfl (.head _) ?_
            refine ru_getR (k := 11) (ci := 8) (a := 32) dX9_itemTold_97 rfl rfl rfl kw_1138 ?_
            refine ru_getRN (k := 9) (ci := 7) (a := 40) dX9_itemTold_100 rfl rfl rfl kn_1098 ?_
            refine mK_iload_n dX9_itemTold_103 rfl rfl (.tail _ (.head _)) ?_
            refine ru_iald (n := 40) dX9_itemTold_104 rfl rfl ((((((h.2 c1).2 c2).2 c3).2 c4).1 c5).1) ?_
            exact mK_iret dX9_itemTold_105 rfl (((((h.2 c1).2 c2).2 c3).2 c4).1 c5).2
          · refine qsplit (a2 = 5) (fun c6 => ?_) (fun c6 => ?_)
            · refine mK_tabIn (tgt := 106) (off := 105) dX9_itemTold_1 (by rw [c6]; decide) (by rw [c6]; decide) (by rw [c6]; rfl) (by decide) ?_
              refine mK_aload_n dX9_itemTold_106 rfl rfl (.head _) ?_
              refine ru_getR (k := 13) (ci := 8) (a := 52) dX9_itemTold_107 rfl rfl rfl kw_1140 ?_
              refine mK_iload_n dX9_itemTold_110 rfl rfl (.tail _ (.head _)) ?_
              refine ru_iald (n := 40) dX9_itemTold_111 rfl rfl (((((((h.2 c1).2 c2).2 c3).2 c4).2 c5).1 c6).1) ?_
              exact mK_iret dX9_itemTold_112 rfl ((((((h.2 c1).2 c2).2 c3).2 c4).2 c5).1 c6).2
            · refine qsplit (a2 = 6) (fun c7 => ?_) (fun c7 => ?_)
              · refine mK_tabIn (tgt := 113) (off := 112) dX9_itemTold_1 (by rw [c7]; decide) (by rw [c7]; decide) (by rw [c7]; rfl) (by decide) ?_
                refine mK_aload_n dX9_itemTold_113 rfl rfl (.head _) ?_
                refine ru_getR (k := 14) (ci := 8) (a := 53) dX9_itemTold_114 rfl rfl rfl kw_1141 ?_
                refine mK_iload_n dX9_itemTold_117 rfl rfl (.tail _ (.head _)) ?_
                refine ru_iald (n := 40) dX9_itemTold_118 rfl rfl ((((((((h.2 c1).2 c2).2 c3).2 c4).2 c5).2 c6).1 c7).1) ?_
                exact mK_iret dX9_itemTold_119 rfl (((((((h.2 c1).2 c2).2 c3).2 c4).2 c5).2 c6).1 c7).2
              · refine qsplit (a2 = 7) (fun c8 => ?_) (fun c8 => ?_)
                · refine mK_tabIn (tgt := 120) (off := 119) dX9_itemTold_1 (by rw [c8]; decide) (by rw [c8]; decide) (by rw [c8]; rfl) (by decide) ?_
                  refine mK_aload_n dX9_itemTold_120 rfl rfl (.head _) ?_
                  refine ru_getR (k := 11) (ci := 8) (a := 32) dX9_itemTold_121 rfl rfl rfl kw_1138 ?_
                  refine ru_getRN (k := 10) (ci := 7) (a := 41) dX9_itemTold_124 rfl rfl rfl kn_1100 ?_
                  refine mK_iload_n dX9_itemTold_127 rfl rfl (.tail _ (.head _)) ?_
                  refine ru_iald (n := 40) dX9_itemTold_128 rfl rfl (((((((((h.2 c1).2 c2).2 c3).2 c4).2 c5).2 c6).2 c7).1 c8).1) ?_
                  exact mK_iret dX9_itemTold_129 rfl ((((((((h.2 c1).2 c2).2 c3).2 c4).2 c5).2 c6).2 c7).1 c8).2
                · refine qsplit (a2 = 8) (fun c9 => ?_) (fun c9 => ?_)
                  · refine mK_tabIn (tgt := 130) (off := 129) dX9_itemTold_1 (by rw [c9]; decide) (by rw [c9]; decide) (by rw [c9]; rfl) (by decide) ?_
                    refine mK_aload_n dX9_itemTold_130 rfl rfl (.head _) ?_
                    refine ru_getR (k := 11) (ci := 8) (a := 32) dX9_itemTold_131 rfl rfl rfl kw_1138 ?_
                    refine mK_iload_n dX9_itemTold_134 rfl rfl (.tail _ (.head _)) ?_
                    refine mK_invV (J := M_X8_isStrong) (k := 1) (as := [.int a1]) (st := []) (c1 := 0) (s1 := 0) dX9_itemTold_135 rfl jw_X8_isStrong jn_X8_isStrong rfl (Nat.le_of_ble_eq_true rfl) (Nat.zero_le _) (Nat.zero_le _) rfl kw_1429 kw_1430 kw_1431 (b := 32) (Nat.le_of_ble_eq_true rfl) (Nat.le_of_ble_eq_true rfl) rfl ?_
                    refine S_X8_isStrong_32 a1 ((((((((((h.2 c1).2 c2).2 c3).2 c4).2 c5).2 c6).2 c7).2 c8).1 c9).1) ((((((((((h.2 c1).2 c2).2 c3).2 c4).2 c5).2 c6).2 c7).2 c8).1 c9).2.1) ?_
                    show mK Γ M_X9_itemTold (d + 2) Q 60 0 0 138 [(0, .ref 26), (1, .int a1), (2, .int a2)] [.int (f_X8_isStrong_32 σ a1)] 60 mSH σ
                    refine mK_if_eq (tgt := 145) dX9_itemTold_138 rfl (by decide) (fun c10 => ?_) (fun c10 => ?_)
                    · refine mK_iconst dX9_itemTold_145 rfl qic_0 ?_
                      exact mK_iret dX9_itemTold_146 rfl ((((((((((h.2 c1).2 c2).2 c3).2 c4).2 c5).2 c6).2 c7).2 c8).1 c9).2.2.1 c10)
                    · refine mK_iconst dX9_itemTold_141 rfl qic_1 ?_
                      refine mK_goto (tgt := 146) dX9_itemTold_142 (by decide) ?_
                      exact mK_iret dX9_itemTold_146 rfl ((((((((((h.2 c1).2 c2).2 c3).2 c4).2 c5).2 c6).2 c7).2 c8).1 c9).2.2.2 c10)
                  · refine qsplit (a2 = 9) (fun c11 => ?_) (fun c11 => ?_)
                    · refine mK_tabIn (tgt := 147) (off := 146) dX9_itemTold_1 (by rw [c11]; decide) (by rw [c11]; decide) (by rw [c11]; rfl) (by decide) ?_
                      refine mK_aload_n dX9_itemTold_147 rfl rfl (.head _) ?_
                      refine mK_iload_n dX9_itemTold_148 rfl rfl (.tail _ (.head _)) ?_
                      refine mK_iconst dX9_itemTold_149 rfl qic_1 ?_
                      refine mK_invV (J := M_X9_on) (k := 2) (as := [.int a1, .int 1]) (st := []) (c1 := 0) (s1 := 0) dX9_itemTold_150 rfl jw_X9_on jn_X9_on rfl (Nat.le_of_ble_eq_true rfl) (Nat.zero_le _) (Nat.zero_le _) rfl kw_1503 kw_1505 kw_77 (b := 26) (Nat.le_of_ble_eq_true rfl) (Nat.le_of_ble_eq_true rfl) rfl ?_
                      exact ((((((((((h.2 c1).2 c2).2 c3).2 c4).2 c5).2 c6).2 c7).2 c8).2 c9).1 c11)
                    · refine mK_tabOut (tgt := 154) dX9_itemTold_1 (qtab_10 c1 c2 c3 c4 c5 c6 c7 c8 c9 c11) (by decide) ?_
                      refine mK_aload_n dX9_itemTold_154 rfl rfl (.head _) ?_
                      refine mK_iload_n dX9_itemTold_155 rfl rfl (.tail _ (.head _)) ?_
                      refine mK_iconst dX9_itemTold_156 rfl qic_2 ?_
                      refine mK_invV (J := M_X9_on) (k := 2) (as := [.int a1, .int 2]) (st := []) (c1 := 0) (s1 := 0) dX9_itemTold_157 rfl jw_X9_on jn_X9_on rfl (Nat.le_of_ble_eq_true rfl) (Nat.zero_le _) (Nat.zero_le _) rfl kw_1503 kw_1505 kw_77 (b := 26) (Nat.le_of_ble_eq_true rfl) (Nat.le_of_ble_eq_true rfl) rfl ?_
                      exact ((((((((((h.2 c1).2 c2).2 c3).2 c4).2 c5).2 c6).2 c7).2 c8).2 c9).2 c11)
set_option maxRecDepth 20000 in
theorem T_X9_itemTold_26_153a {Γ : Nat × (Nat → Int32)} {d n0 bc bs : Nat} {Q : mQ} {σ : mS} (x1 : Int32) (x2 : Int32) (r : Int32) (h : Q (.inl (some (.int r))) 60 mSH σ) : mRt Γ M_X9_itemTold (d + 2) Q n0 bc bs 153 [(0, .ref 26), (1, .int x1), (2, .int x2)] [] (.inl (some (.int r))) 60 mSH σ := by
  show mK Γ M_X9_itemTold (d + 2) Q n0 bc bs 153 [(0, .ref 26), (1, .int x1), (2, .int x2)] [.int r] 60 mSH σ
  exact mK_iret dX9_itemTold_153 rfl h
set_option maxRecDepth 20000 in
theorem T_X9_itemTold_26_160a {Γ : Nat × (Nat → Int32)} {d n0 bc bs : Nat} {Q : mQ} {σ : mS} (x1 : Int32) (x2 : Int32) (r : Int32) (h : Q (.inl (some (.int r))) 60 mSH σ) : mRt Γ M_X9_itemTold (d + 2) Q n0 bc bs 160 [(0, .ref 26), (1, .int x1), (2, .int x2)] [] (.inl (some (.int r))) 60 mSH σ := by
  show mK Γ M_X9_itemTold (d + 2) Q n0 bc bs 160 [(0, .ref 26), (1, .int x1), (2, .int x2)] [.int r] 60 mSH σ
  exact mK_iret dX9_itemTold_160 rfl h
set_option maxRecDepth 20000 in
theorem E_X9_item_26 {Γ : Nat × (Nat → Int32)} {d : Nat} {Q : mQ} {σ : mS} (a1 : Int32) (a2 : Int32) (h : (((f_X9_isIn (mPI σ 26 0 0) a1 0 (((mPI σ 26 0 0).1 32 3) - 1)) = 0 ∨ (f_X9_isIn (mPI σ 26 0 0) a1 0 (((mPI σ 26 0 0).1 32 3) - 1)) = 1) ∧ (((f_X9_isItem_26 (mPI σ 26 0 0) a1) = 0 → Q (.inl (some (.int (h_X9_no_26 (mPI σ 26 0 0) 1).1))) 60 mSH (h_X9_no_26 (mPI σ 26 0 0) 1).2) ∧ (¬ ((f_X9_isItem_26 (mPI σ 26 0 0) a1) = 0) → (((f_X9_isIn (mPI σ 26 0 0) a2 0 10) = 0 → Q (.inl (some (.int (h_X9_no_26 (mPI σ 26 0 0) 1).1))) 60 mSH (h_X9_no_26 (mPI σ 26 0 0) 1).2) ∧ (¬ ((f_X9_isIn (mPI σ 26 0 0) a2 0 10) = 0) → mCall Γ M_X9_itemTold (d + 2) 0 0 [.ref 26, .int a1, .int a2] 60 mSH (mPI σ 26 0 0) (mRt Γ M_X9_item (d + 3) Q 60 0 0 29 [(0, .ref 26), (1, .int a1), (2, .int a2)] []))))))) : mCall Γ M_X9_item (d + 3) 0 0 [.ref 26, .int a1, .int a2] 60 mSH σ Q := by
  refine mCall_of rfl (by decide) (Nat.le_of_ble_eq_true rfl) (mOkC (mOk_lo (Nat.le_of_ble_eq_true rfl)) (mOkC mOk_i (mOkC mOk_i mOkN))) ?_
  show mK Γ M_X9_item (d + 3) Q 60 0 0 0 [(0, .ref 26), (1, .int a1), (2, .int a2)] [] 60 mSH σ
  refine mK_aload_n dX9_item_0 rfl rfl (.head _) ?_
  refine mK_iconst dX9_item_1 rfl qic_0 ?_
  refine ru_putI (k := 0) (ci := 8) dX9_item_2 rfl rfl rfl kw_1127 ?_
  refine mK_aload_n dX9_item_5 rfl rfl (.head _) ?_
  refine mK_iload_n dX9_item_6 rfl rfl (.tail _ (.head _)) ?_
  refine mK_invV (J := M_X9_isItem) (k := 1) (as := [.int a1]) (st := []) (c1 := 0) (s1 := 0) dX9_item_7 rfl jw_X9_isItem jn_X9_isItem rfl (Nat.le_of_ble_eq_true rfl) (Nat.zero_le _) (Nat.zero_le _) rfl kw_1495 kw_1497 kw_75 (b := 26) (Nat.le_of_ble_eq_true rfl) (Nat.le_of_ble_eq_true rfl) rfl ?_
  refine S_X9_isItem_26 a1 (h.1) ?_
  show mK Γ M_X9_item (d + 3) Q 60 0 0 10 [(0, .ref 26), (1, .int a1), (2, .int a2)] [.int (f_X9_isItem_26 (mPI σ 26 0 0) a1)] 60 mSH (mPI σ 26 0 0)
  refine mK_if_eq (tgt := 32) dX9_item_10 rfl (by decide) (fun c1 => ?_) (fun c1 => ?_)
  · refine mK_aload_n dX9_item_32 rfl rfl (.head _) ?_
    refine mK_iconst dX9_item_33 rfl qic_1 ?_
    refine mK_invV (J := M_X9_no) (k := 1) (as := [.int 1]) (st := []) (c1 := 0) (s1 := 0) dX9_item_34 rfl jw_X9_no jn_X9_no rfl (Nat.le_of_ble_eq_true rfl) (Nat.zero_le _) (Nat.zero_le _) rfl kw_1208 kw_1210 kw_38 (b := 26) (Nat.le_of_ble_eq_true rfl) (Nat.le_of_ble_eq_true rfl) rfl ?_
    refine S_X9_no_26 1 ?_
    show mK Γ M_X9_item (d + 3) Q 60 0 0 37 [(0, .ref 26), (1, .int a1), (2, .int a2)] [.int (h_X9_no_26 (mPI σ 26 0 0) 1).1] 60 mSH (h_X9_no_26 (mPI σ 26 0 0) 1).2
    exact mK_iret dX9_item_37 rfl (h.2.1 c1)
  · refine mK_iload_n dX9_item_13 rfl rfl (.tail _ (.tail _ (.head _))) ?_
    refine mK_iconst dX9_item_14 rfl qic_0 ?_
    refine mK_bipush dX9_item_15 rfl qbi_10 ?_
    refine mK_invS (J := M_X9_isIn) (k := 3) (as := [.int a2, .int 0, .int 10]) (st := []) (c1 := 0) (s1 := 0) dX9_item_17 rfl jw_X9_isIn jn_X9_isIn rfl (Nat.le_of_ble_eq_true rfl) (Nat.zero_le _) (Nat.zero_le _) rfl kw_1216 kw_1217 ?_
    refine S_X9_isIn a2 0 10 ?_
    show mK Γ M_X9_item (d + 3) Q 60 0 0 20 [(0, .ref 26), (1, .int a1), (2, .int a2)] [.int (f_X9_isIn (mPI σ 26 0 0) a2 0 10)] 60 mSH (mPI σ 26 0 0)
    refine mK_if_eq (tgt := 32) dX9_item_20 rfl (by decide) (fun c2 => ?_) (fun c2 => ?_)
    · refine mK_aload_n dX9_item_32 rfl rfl (.head _) ?_
      refine mK_iconst dX9_item_33 rfl qic_1 ?_
      refine mK_invV (J := M_X9_no) (k := 1) (as := [.int 1]) (st := []) (c1 := 0) (s1 := 0) dX9_item_34 rfl jw_X9_no jn_X9_no rfl (Nat.le_of_ble_eq_true rfl) (Nat.zero_le _) (Nat.zero_le _) rfl kw_1208 kw_1210 kw_38 (b := 26) (Nat.le_of_ble_eq_true rfl) (Nat.le_of_ble_eq_true rfl) rfl ?_
      refine S_X9_no_26 1 ?_
      show mK Γ M_X9_item (d + 3) Q 60 0 0 37 [(0, .ref 26), (1, .int a1), (2, .int a2)] [.int (h_X9_no_26 (mPI σ 26 0 0) 1).1] 60 mSH (h_X9_no_26 (mPI σ 26 0 0) 1).2
      exact mK_iret dX9_item_37 rfl ((h.2.2 c1).1 c2)
    · refine mK_aload_n dX9_item_23 rfl rfl (.head _) ?_
      refine mK_iload_n dX9_item_24 rfl rfl (.tail _ (.head _)) ?_
      refine mK_iload_n dX9_item_25 rfl rfl (.tail _ (.tail _ (.head _))) ?_
      refine mK_invV (J := M_X9_itemTold) (k := 2) (as := [.int a1, .int a2]) (st := []) (c1 := 0) (s1 := 0) dX9_item_26 rfl jw_X9_itemTold jn_X9_itemTold rfl (Nat.le_of_ble_eq_true rfl) (Nat.zero_le _) (Nat.zero_le _) rfl kw_1499 kw_1501 kw_76 (b := 26) (Nat.le_of_ble_eq_true rfl) (Nat.le_of_ble_eq_true rfl) rfl ?_
      exact ((h.2.2 c1).2 c2)
set_option maxRecDepth 20000 in
theorem T_X9_item_26_29a {Γ : Nat × (Nat → Int32)} {d n0 bc bs : Nat} {Q : mQ} {σ : mS} (x1 : Int32) (x2 : Int32) (r : Int32) (h : Q (.inl (some (.int r))) 60 mSH σ) : mRt Γ M_X9_item (d + 3) Q n0 bc bs 29 [(0, .ref 26), (1, .int x1), (2, .int x2)] [] (.inl (some (.int r))) 60 mSH σ := by
  show mK Γ M_X9_item (d + 3) Q n0 bc bs 29 [(0, .ref 26), (1, .int x1), (2, .int x2)] [.int r] 60 mSH σ
  refine mK_goto (tgt := 37) dX9_item_29 (by decide) ?_
  exact mK_iret dX9_item_37 rfl h
set_option maxRecDepth 20000 in
theorem E_X9_why_26 {Γ : Nat × (Nat → Int32)} {d : Nat} {Q : mQ} {σ : mS} (a1 : Int32) (h : (((f_X9_isIn (mPI σ 26 0 0) a1 0 (((mPI σ 26 0 0).1 32 3) - 1)) = 0 ∨ (f_X9_isIn (mPI σ 26 0 0) a1 0 (((mPI σ 26 0 0).1 32 3) - 1)) = 1) ∧ (((f_X9_isItem_26 (mPI σ 26 0 0) a1) = 0 → Q (.inl (some (.int (h_X9_no_26 (mPI σ 26 0 0) 1).1))) 60 mSH (h_X9_no_26 (mPI σ 26 0 0) 1).2) ∧ (¬ ((f_X9_isItem_26 (mPI σ 26 0 0) a1) = 0) → mCall Γ M_X9_whyOf (d + 2) 0 0 [.ref 26, .int a1] 60 mSH (mPI σ 26 0 0) (mRt Γ M_X9_why (d + 3) Q 60 0 0 18 [(0, .ref 26), (1, .int a1)] []))))) : mCall Γ M_X9_why (d + 3) 0 0 [.ref 26, .int a1] 60 mSH σ Q := by
  refine mCall_of rfl (by decide) (Nat.le_of_ble_eq_true rfl) (mOkC (mOk_lo (Nat.le_of_ble_eq_true rfl)) (mOkC mOk_i mOkN)) ?_
  show mK Γ M_X9_why (d + 3) Q 60 0 0 0 [(0, .ref 26), (1, .int a1)] [] 60 mSH σ
  refine mK_aload_n dX9_why_0 rfl rfl (.head _) ?_
  refine mK_iconst dX9_why_1 rfl qic_0 ?_
  refine ru_putI (k := 0) (ci := 8) dX9_why_2 rfl rfl rfl kw_1127 ?_
  refine mK_aload_n dX9_why_5 rfl rfl (.head _) ?_
  refine mK_iload_n dX9_why_6 rfl rfl (.tail _ (.head _)) ?_
  refine mK_invV (J := M_X9_isItem) (k := 1) (as := [.int a1]) (st := []) (c1 := 0) (s1 := 0) dX9_why_7 rfl jw_X9_isItem jn_X9_isItem rfl (Nat.le_of_ble_eq_true rfl) (Nat.zero_le _) (Nat.zero_le _) rfl kw_1495 kw_1497 kw_75 (b := 26) (Nat.le_of_ble_eq_true rfl) (Nat.le_of_ble_eq_true rfl) rfl ?_
  refine S_X9_isItem_26 a1 (h.1) ?_
  show mK Γ M_X9_why (d + 3) Q 60 0 0 10 [(0, .ref 26), (1, .int a1)] [.int (f_X9_isItem_26 (mPI σ 26 0 0) a1)] 60 mSH (mPI σ 26 0 0)
  refine mK_if_eq (tgt := 21) dX9_why_10 rfl (by decide) (fun c1 => ?_) (fun c1 => ?_)
  · refine mK_aload_n dX9_why_21 rfl rfl (.head _) ?_
    refine mK_iconst dX9_why_22 rfl qic_1 ?_
    refine mK_invV (J := M_X9_no) (k := 1) (as := [.int 1]) (st := []) (c1 := 0) (s1 := 0) dX9_why_23 rfl jw_X9_no jn_X9_no rfl (Nat.le_of_ble_eq_true rfl) (Nat.zero_le _) (Nat.zero_le _) rfl kw_1208 kw_1210 kw_38 (b := 26) (Nat.le_of_ble_eq_true rfl) (Nat.le_of_ble_eq_true rfl) rfl ?_
    refine S_X9_no_26 1 ?_
    show mK Γ M_X9_why (d + 3) Q 60 0 0 26 [(0, .ref 26), (1, .int a1)] [.int (h_X9_no_26 (mPI σ 26 0 0) 1).1] 60 mSH (h_X9_no_26 (mPI σ 26 0 0) 1).2
    exact mK_iret dX9_why_26 rfl (h.2.1 c1)
  · refine mK_aload_n dX9_why_13 rfl rfl (.head _) ?_
    refine mK_iload_n dX9_why_14 rfl rfl (.tail _ (.head _)) ?_
    refine mK_invV (J := M_X9_whyOf) (k := 1) (as := [.int a1]) (st := []) (c1 := 0) (s1 := 0) dX9_why_15 rfl jw_X9_whyOf jn_X9_whyOf rfl (Nat.le_of_ble_eq_true rfl) (Nat.zero_le _) (Nat.zero_le _) rfl kw_1515 kw_1517 kw_78 (b := 26) (Nat.le_of_ble_eq_true rfl) (Nat.le_of_ble_eq_true rfl) rfl ?_
    exact (h.2.2 c1)
set_option maxRecDepth 20000 in
theorem T_X9_why_26_18a {Γ : Nat × (Nat → Int32)} {d n0 bc bs : Nat} {Q : mQ} {σ : mS} (x1 : Int32) (r : Int32) (h : Q (.inl (some (.int r))) 60 mSH σ) : mRt Γ M_X9_why (d + 3) Q n0 bc bs 18 [(0, .ref 26), (1, .int x1)] [] (.inl (some (.int r))) 60 mSH σ := by
  show mK Γ M_X9_why (d + 3) Q n0 bc bs 18 [(0, .ref 26), (1, .int x1)] [.int r] 60 mSH σ
  refine mK_goto (tgt := 26) dX9_why_18 (by decide) ?_
  exact mK_iret dX9_why_26 rfl h
set_option maxRecDepth 20000 in
theorem E_X9_far_26 {Γ : Nat × (Nat → Int32)} {d : Nat} {Q : mQ} {σ : mS} (a1 : Int32) (h : (((f_X9_isIn (mPI σ 26 0 0) a1 0 (((mPI σ 26 0 0).1 32 3) - 1)) = 0 ∨ (f_X9_isIn (mPI σ 26 0 0) a1 0 (((mPI σ 26 0 0).1 32 3) - 1)) = 1) ∧ (((f_X9_isItem_26 (mPI σ 26 0 0) a1) = 0 → Q (.inl (some (.int (h_X9_no_26 (mPI σ 26 0 0) 1).1))) 60 mSH (h_X9_no_26 (mPI σ 26 0 0) 1).2) ∧ (¬ ((f_X9_isItem_26 (mPI σ 26 0 0) a1) = 0) → mCall Γ M_X9_farOf (d + 2) 0 0 [.ref 26, .int a1] 60 mSH (mPI σ 26 0 0) (mRt Γ M_X9_far (d + 3) Q 60 0 0 18 [(0, .ref 26), (1, .int a1)] []))))) : mCall Γ M_X9_far (d + 3) 0 0 [.ref 26, .int a1] 60 mSH σ Q := by
  refine mCall_of rfl (by decide) (Nat.le_of_ble_eq_true rfl) (mOkC (mOk_lo (Nat.le_of_ble_eq_true rfl)) (mOkC mOk_i mOkN)) ?_
  show mK Γ M_X9_far (d + 3) Q 60 0 0 0 [(0, .ref 26), (1, .int a1)] [] 60 mSH σ
  refine mK_aload_n dX9_far_0 rfl rfl (.head _) ?_
  refine mK_iconst dX9_far_1 rfl qic_0 ?_
  refine ru_putI (k := 0) (ci := 8) dX9_far_2 rfl rfl rfl kw_1127 ?_
  refine mK_aload_n dX9_far_5 rfl rfl (.head _) ?_
  refine mK_iload_n dX9_far_6 rfl rfl (.tail _ (.head _)) ?_
  refine mK_invV (J := M_X9_isItem) (k := 1) (as := [.int a1]) (st := []) (c1 := 0) (s1 := 0) dX9_far_7 rfl jw_X9_isItem jn_X9_isItem rfl (Nat.le_of_ble_eq_true rfl) (Nat.zero_le _) (Nat.zero_le _) rfl kw_1495 kw_1497 kw_75 (b := 26) (Nat.le_of_ble_eq_true rfl) (Nat.le_of_ble_eq_true rfl) rfl ?_
  refine S_X9_isItem_26 a1 (h.1) ?_
  show mK Γ M_X9_far (d + 3) Q 60 0 0 10 [(0, .ref 26), (1, .int a1)] [.int (f_X9_isItem_26 (mPI σ 26 0 0) a1)] 60 mSH (mPI σ 26 0 0)
  refine mK_if_eq (tgt := 21) dX9_far_10 rfl (by decide) (fun c1 => ?_) (fun c1 => ?_)
  · refine mK_aload_n dX9_far_21 rfl rfl (.head _) ?_
    refine mK_iconst dX9_far_22 rfl qic_1 ?_
    refine mK_invV (J := M_X9_no) (k := 1) (as := [.int 1]) (st := []) (c1 := 0) (s1 := 0) dX9_far_23 rfl jw_X9_no jn_X9_no rfl (Nat.le_of_ble_eq_true rfl) (Nat.zero_le _) (Nat.zero_le _) rfl kw_1208 kw_1210 kw_38 (b := 26) (Nat.le_of_ble_eq_true rfl) (Nat.le_of_ble_eq_true rfl) rfl ?_
    refine S_X9_no_26 1 ?_
    show mK Γ M_X9_far (d + 3) Q 60 0 0 26 [(0, .ref 26), (1, .int a1)] [.int (h_X9_no_26 (mPI σ 26 0 0) 1).1] 60 mSH (h_X9_no_26 (mPI σ 26 0 0) 1).2
    exact mK_iret dX9_far_26 rfl (h.2.1 c1)
  · refine mK_aload_n dX9_far_13 rfl rfl (.head _) ?_
    refine mK_iload_n dX9_far_14 rfl rfl (.tail _ (.head _)) ?_
    refine mK_invV (J := M_X9_farOf) (k := 1) (as := [.int a1]) (st := []) (c1 := 0) (s1 := 0) dX9_far_15 rfl jw_X9_farOf jn_X9_farOf rfl (Nat.le_of_ble_eq_true rfl) (Nat.zero_le _) (Nat.zero_le _) rfl kw_1523 kw_1525 kw_79 (b := 26) (Nat.le_of_ble_eq_true rfl) (Nat.le_of_ble_eq_true rfl) rfl ?_
    exact (h.2.2 c1)
set_option maxRecDepth 20000 in
theorem T_X9_far_26_18a {Γ : Nat × (Nat → Int32)} {d n0 bc bs : Nat} {Q : mQ} {σ : mS} (x1 : Int32) (r : Int32) (h : Q (.inl (some (.int r))) 60 mSH σ) : mRt Γ M_X9_far (d + 3) Q n0 bc bs 18 [(0, .ref 26), (1, .int x1)] [] (.inl (some (.int r))) 60 mSH σ := by
  show mK Γ M_X9_far (d + 3) Q n0 bc bs 18 [(0, .ref 26), (1, .int x1)] [.int r] 60 mSH σ
  refine mK_goto (tgt := 26) dX9_far_18 (by decide) ?_
  exact mK_iret dX9_far_26 rfl h
set_option maxRecDepth 20000 in
theorem E_X9_isKeyword {Γ : Nat × (Nat → Int32)} {d : Nat} {Q : mQ} {σ : mS} (a1 : Int64) (h : mK Γ M_X9_isKeyword (d + 1) Q 60 0 0 2 [(0, .long a1), (2, .int 0)] [] 60 mSH σ) : mCall Γ M_X9_isKeyword (d + 1) 0 0 [.long a1] 60 mSH σ Q := by
  refine mCall_of rfl (by decide) (Nat.le_of_ble_eq_true rfl) (mOkC mOk_l mOkN) ?_
  show mK Γ M_X9_isKeyword (d + 1) Q 60 0 0 0 [(0, .long a1)] [] 60 mSH σ
  refine mK_iconst dX9_isKeyword_0 rfl qic_0 ?_
  refine ru_istore_n (lv1 := [(0, .long a1), (2, .int 0)]) dX9_isKeyword_1 rfl rfl (by decide) rfl ?_
  exact h
set_option maxRecDepth 20000 in
theorem T_X9_isKeyword_2 {Γ : Nat × (Nat → Int32)} {d n0 bc bs : Nat} {Q : mQ} {σ : mS} (x0 : Int64) (x2 : Int32) (h : ((21 ≤ x2 → Q (.inl (some (.int 0))) 60 mSH σ) ∧ (¬ (21 ≤ x2) → ((vp_in x2 21) ∧ (((mKy (x2).toNatClampNeg) = x0 → Q (.inl (some (.int 1))) 60 mSH σ) ∧ (¬ ((mKy (x2).toNatClampNeg) = x0) → mK Γ M_X9_isKeyword (d + 1) Q n0 bc bs 2 [(0, .long x0), (2, .int (x2 + 1))] [] 60 mSH σ)))))) : mK Γ M_X9_isKeyword (d + 1) Q n0 bc bs 2 [(0, .long x0), (2, .int x2)] [] 60 mSH σ := by
  refine mK_iload_n dX9_isKeyword_2 rfl rfl (.tail _ (.head _)) ?_
  refine mK_getY dX9_isKeyword_3 rfl kw_1321 ?_
  refine mK_alnY dX9_isKeyword_6 rfl ?_
  refine mK_icmp_ge (tgt := 28) dX9_isKeyword_7 rfl (by decide) (fun c1 => ?_) (fun c1 => ?_)
  · refine mK_iconst dX9_isKeyword_28 rfl qic_0 ?_
    exact mK_zret dX9_isKeyword_29 rfl (by decide) (h.1 c1)
  · refine mK_getY dX9_isKeyword_10 rfl kw_1321 ?_
    refine mK_iload_n dX9_isKeyword_13 rfl rfl (.tail _ (.head _)) ?_
    refine mK_aldY dX9_isKeyword_14 rfl ((h.2 c1).1) ?_
    refine mK_lload_n dX9_isKeyword_15 rfl rfl (.head _) ?_
    refine ru_lif_ne (tgt := 22) dX9_isKeyword_16 rfl dX9_isKeyword_17 rfl (by decide) (fun c2 => ?_) (fun c2 => ?_)
    · refine ru_iinc (lv1 := [(0, .long x0), (2, .int (x2 + 1))]) dX9_isKeyword_22 rfl (.tail _ (.head _)) qic_1 (by decide) rfl ?_
      refine mK_goto (tgt := 2) dX9_isKeyword_25 (by decide) ?_
      exact ((h.2 c1).2.2 c2)
    · refine mK_iconst dX9_isKeyword_20 rfl qic_1 ?_
      exact mK_zret dX9_isKeyword_21 rfl (by decide) ((h.2 c1).2.1 c2)
