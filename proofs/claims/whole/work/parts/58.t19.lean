
set_option maxRecDepth 20000 in
theorem E_X9_count_26 {Γ : Nat × (Nat → Int32)} {d : Nat} {Q : mQ} {σ : mS} (a1 : Int32) (h : (((f_X9_isIn (mPI σ 26 0 0) a1 0 11) = 0 → Q (.inl (some (.int (h_X9_no_26 (mPI σ 26 0 0) 1).1))) 60 mSH (h_X9_no_26 (mPI σ 26 0 0) 1).2) ∧ (¬ ((f_X9_isIn (mPI σ 26 0 0) a1 0 11) = 0) → mCall Γ M_X9_counted (d + 1) 3 18 [.ref 26, .int a1] 60 mSH (mPI σ 26 0 0) (mRt Γ M_X9_count (d + 2) Q 60 0 0 20 [(0, .ref 26), (1, .int a1)] [])))) : mCall Γ M_X9_count (d + 2) 3 18 [.ref 26, .int a1] 60 mSH σ Q := by
  refine mCall_of rfl (by decide) (Nat.le_of_ble_eq_true rfl) (mOkC (mOk_lo (Nat.le_of_ble_eq_true rfl)) (mOkC mOk_i mOkN)) ?_
  show mK Γ M_X9_count (d + 2) Q 60 3 18 0 [(0, .ref 26), (1, .int a1)] [] 60 mSH σ
  refine mK_aload_n dX9_count_0 rfl rfl (.head _) ?_
  refine mK_iconst dX9_count_1 rfl qic_0 ?_
  refine ru_putI (k := 0) (ci := 8) dX9_count_2 rfl rfl rfl kw_1127 ?_
  refine mK_iload_n dX9_count_5 rfl rfl (.tail _ (.head _)) ?_
  refine mK_iconst dX9_count_6 rfl qic_0 ?_
  refine mK_bipush dX9_count_7 rfl qbi_11 ?_
  refine mK_invS (J := M_X9_isIn) (k := 3) (as := [.int a1, .int 0, .int 11]) (st := []) (c1 := 0) (s1 := 0) dX9_count_9 rfl jw_X9_isIn jn_X9_isIn rfl (Nat.le_of_ble_eq_true rfl) (Nat.zero_le _) (Nat.zero_le _) rfl kw_1216 kw_1217 ?_
  refine S_X9_isIn a1 0 11 ?_
  show mK Γ M_X9_count (d + 2) Q 60 3 18 12 [(0, .ref 26), (1, .int a1)] [.int (f_X9_isIn (mPI σ 26 0 0) a1 0 11)] 60 mSH (mPI σ 26 0 0)
  refine mK_if_eq (tgt := 23) dX9_count_12 rfl (by decide) (fun c1 => ?_) (fun c1 => ?_)
  · refine mK_aload_n dX9_count_23 rfl rfl (.head _) ?_
    refine mK_iconst dX9_count_24 rfl qic_1 ?_
    refine mK_invV (J := M_X9_no) (k := 1) (as := [.int 1]) (st := []) (c1 := 0) (s1 := 0) dX9_count_25 rfl jw_X9_no jn_X9_no rfl (Nat.le_of_ble_eq_true rfl) (Nat.zero_le _) (Nat.zero_le _) rfl kw_1208 kw_1210 kw_38 (b := 26) (Nat.le_of_ble_eq_true rfl) (Nat.le_of_ble_eq_true rfl) rfl ?_
    refine S_X9_no_26 1 ?_
    show mK Γ M_X9_count (d + 2) Q 60 3 18 28 [(0, .ref 26), (1, .int a1)] [.int (h_X9_no_26 (mPI σ 26 0 0) 1).1] 60 mSH (h_X9_no_26 (mPI σ 26 0 0) 1).2
    exact mK_iret dX9_count_28 rfl (h.1 c1)
  · refine mK_aload_n dX9_count_15 rfl rfl (.head _) ?_
    refine mK_iload_n dX9_count_16 rfl rfl (.tail _ (.head _)) ?_
    refine mK_invV (J := M_X9_counted) (k := 1) (as := [.int a1]) (st := []) (c1 := 3) (s1 := 18) dX9_count_17 rfl jw_X9_counted jn_X9_counted rfl (Nat.le_of_ble_eq_true rfl) (Nat.le_of_ble_eq_true rfl) (Nat.le_of_ble_eq_true rfl) rfl kw_1465 kw_1467 kw_70 (b := 26) (Nat.le_of_ble_eq_true rfl) (Nat.le_of_ble_eq_true rfl) rfl ?_
    exact (h.2 c1)
set_option maxRecDepth 20000 in
theorem T_X9_count_26_20a {Γ : Nat × (Nat → Int32)} {d n0 bc bs : Nat} {Q : mQ} {σ : mS} (x1 : Int32) (r : Int32) (h : Q (.inl (some (.int r))) 60 mSH σ) : mRt Γ M_X9_count (d + 2) Q n0 bc bs 20 [(0, .ref 26), (1, .int x1)] [] (.inl (some (.int r))) 60 mSH σ := by
  show mK Γ M_X9_count (d + 2) Q n0 bc bs 20 [(0, .ref 26), (1, .int x1)] [.int r] 60 mSH σ
  refine mK_goto (tgt := 28) dX9_count_20 (by decide) ?_
  exact mK_iret dX9_count_28 rfl h
set_option maxRecDepth 20000 in
theorem E_X9_speaker_26 {Γ : Nat × (Nat → Int32)} {d : Nat} {Q : mQ} {σ : mS} (a1 : Int32) (a2 : Int32) (h : (((f_X9_isIn (mPI σ 26 0 0) a1 0 (((mPI σ 26 0 0).1 32 0) - 1)) = 0 ∨ (f_X9_isIn (mPI σ 26 0 0) a1 0 (((mPI σ 26 0 0).1 32 0) - 1)) = 1) ∧ (((f_X9_isSpeaker_26 (mPI σ 26 0 0) a1) = 0 → Q (.inl (some (.int (h_X9_no_26 (mPI σ 26 0 0) 1).1))) 60 mSH (h_X9_no_26 (mPI σ 26 0 0) 1).2) ∧ (¬ ((f_X9_isSpeaker_26 (mPI σ 26 0 0) a1) = 0) → (((f_X9_isIn (mPI σ 26 0 0) a2 0 6) = 0 → Q (.inl (some (.int (h_X9_no_26 (mPI σ 26 0 0) 1).1))) 60 mSH (h_X9_no_26 (mPI σ 26 0 0) 1).2) ∧ (¬ ((f_X9_isIn (mPI σ 26 0 0) a2 0 6) = 0) → mCall Γ M_X9_speakerTold (d + 2) 2 10 [.ref 26, .int a1, .int a2] 60 mSH (mPI σ 26 0 0) (mRt Γ M_X9_speaker (d + 3) Q 60 0 0 29 [(0, .ref 26), (1, .int a1), (2, .int a2)] []))))))) : mCall Γ M_X9_speaker (d + 3) 2 10 [.ref 26, .int a1, .int a2] 60 mSH σ Q := by
  refine mCall_of rfl (by decide) (Nat.le_of_ble_eq_true rfl) (mOkC (mOk_lo (Nat.le_of_ble_eq_true rfl)) (mOkC mOk_i (mOkC mOk_i mOkN))) ?_
  show mK Γ M_X9_speaker (d + 3) Q 60 2 10 0 [(0, .ref 26), (1, .int a1), (2, .int a2)] [] 60 mSH σ
  refine mK_aload_n dX9_speaker_0 rfl rfl (.head _) ?_
  refine mK_iconst dX9_speaker_1 rfl qic_0 ?_
  refine ru_putI (k := 0) (ci := 8) dX9_speaker_2 rfl rfl rfl kw_1127 ?_
  refine mK_aload_n dX9_speaker_5 rfl rfl (.head _) ?_
  refine mK_iload_n dX9_speaker_6 rfl rfl (.tail _ (.head _)) ?_
  refine mK_invV (J := M_X9_isSpeaker) (k := 1) (as := [.int a1]) (st := []) (c1 := 0) (s1 := 0) dX9_speaker_7 rfl jw_X9_isSpeaker jn_X9_isSpeaker rfl (Nat.le_of_ble_eq_true rfl) (Nat.zero_le _) (Nat.zero_le _) rfl kw_1473 kw_1475 kw_71 (b := 26) (Nat.le_of_ble_eq_true rfl) (Nat.le_of_ble_eq_true rfl) rfl ?_
  refine S_X9_isSpeaker_26 a1 (h.1) ?_
  show mK Γ M_X9_speaker (d + 3) Q 60 2 10 10 [(0, .ref 26), (1, .int a1), (2, .int a2)] [.int (f_X9_isSpeaker_26 (mPI σ 26 0 0) a1)] 60 mSH (mPI σ 26 0 0)
  refine mK_if_eq (tgt := 32) dX9_speaker_10 rfl (by decide) (fun c1 => ?_) (fun c1 => ?_)
  · refine mK_aload_n dX9_speaker_32 rfl rfl (.head _) ?_
    refine mK_iconst dX9_speaker_33 rfl qic_1 ?_
    refine mK_invV (J := M_X9_no) (k := 1) (as := [.int 1]) (st := []) (c1 := 0) (s1 := 0) dX9_speaker_34 rfl jw_X9_no jn_X9_no rfl (Nat.le_of_ble_eq_true rfl) (Nat.zero_le _) (Nat.zero_le _) rfl kw_1208 kw_1210 kw_38 (b := 26) (Nat.le_of_ble_eq_true rfl) (Nat.le_of_ble_eq_true rfl) rfl ?_
    refine S_X9_no_26 1 ?_
    show mK Γ M_X9_speaker (d + 3) Q 60 2 10 37 [(0, .ref 26), (1, .int a1), (2, .int a2)] [.int (h_X9_no_26 (mPI σ 26 0 0) 1).1] 60 mSH (h_X9_no_26 (mPI σ 26 0 0) 1).2
    exact mK_iret dX9_speaker_37 rfl (h.2.1 c1)
  · refine mK_iload_n dX9_speaker_13 rfl rfl (.tail _ (.tail _ (.head _))) ?_
    refine mK_iconst dX9_speaker_14 rfl qic_0 ?_
    refine mK_bipush dX9_speaker_15 rfl qbi_6 ?_
    refine mK_invS (J := M_X9_isIn) (k := 3) (as := [.int a2, .int 0, .int 6]) (st := []) (c1 := 0) (s1 := 0) dX9_speaker_17 rfl jw_X9_isIn jn_X9_isIn rfl (Nat.le_of_ble_eq_true rfl) (Nat.zero_le _) (Nat.zero_le _) rfl kw_1216 kw_1217 ?_
    refine S_X9_isIn a2 0 6 ?_
    show mK Γ M_X9_speaker (d + 3) Q 60 2 10 20 [(0, .ref 26), (1, .int a1), (2, .int a2)] [.int (f_X9_isIn (mPI σ 26 0 0) a2 0 6)] 60 mSH (mPI σ 26 0 0)
    refine mK_if_eq (tgt := 32) dX9_speaker_20 rfl (by decide) (fun c2 => ?_) (fun c2 => ?_)
    · refine mK_aload_n dX9_speaker_32 rfl rfl (.head _) ?_
      refine mK_iconst dX9_speaker_33 rfl qic_1 ?_
      refine mK_invV (J := M_X9_no) (k := 1) (as := [.int 1]) (st := []) (c1 := 0) (s1 := 0) dX9_speaker_34 rfl jw_X9_no jn_X9_no rfl (Nat.le_of_ble_eq_true rfl) (Nat.zero_le _) (Nat.zero_le _) rfl kw_1208 kw_1210 kw_38 (b := 26) (Nat.le_of_ble_eq_true rfl) (Nat.le_of_ble_eq_true rfl) rfl ?_
      refine S_X9_no_26 1 ?_
      show mK Γ M_X9_speaker (d + 3) Q 60 2 10 37 [(0, .ref 26), (1, .int a1), (2, .int a2)] [.int (h_X9_no_26 (mPI σ 26 0 0) 1).1] 60 mSH (h_X9_no_26 (mPI σ 26 0 0) 1).2
      exact mK_iret dX9_speaker_37 rfl ((h.2.2 c1).1 c2)
    · refine mK_aload_n dX9_speaker_23 rfl rfl (.head _) ?_
      refine mK_iload_n dX9_speaker_24 rfl rfl (.tail _ (.head _)) ?_
      refine mK_iload_n dX9_speaker_25 rfl rfl (.tail _ (.tail _ (.head _))) ?_
      refine mK_invV (J := M_X9_speakerTold) (k := 2) (as := [.int a1, .int a2]) (st := []) (c1 := 2) (s1 := 10) dX9_speaker_26 rfl jw_X9_speakerTold jn_X9_speakerTold rfl (Nat.le_of_ble_eq_true rfl) (Nat.le_of_ble_eq_true rfl) (Nat.le_of_ble_eq_true rfl) rfl kw_1477 kw_1479 kw_72 (b := 26) (Nat.le_of_ble_eq_true rfl) (Nat.le_of_ble_eq_true rfl) rfl ?_
      exact ((h.2.2 c1).2 c2)
set_option maxRecDepth 20000 in
theorem T_X9_speaker_26_29a {Γ : Nat × (Nat → Int32)} {d n0 bc bs : Nat} {Q : mQ} {σ : mS} (x1 : Int32) (x2 : Int32) (r : Int32) (h : Q (.inl (some (.int r))) 60 mSH σ) : mRt Γ M_X9_speaker (d + 3) Q n0 bc bs 29 [(0, .ref 26), (1, .int x1), (2, .int x2)] [] (.inl (some (.int r))) 60 mSH σ := by
  show mK Γ M_X9_speaker (d + 3) Q n0 bc bs 29 [(0, .ref 26), (1, .int x1), (2, .int x2)] [.int r] 60 mSH σ
  refine mK_goto (tgt := 37) dX9_speaker_29 (by decide) ?_
  exact mK_iret dX9_speaker_37 rfl h
set_option maxRecDepth 20000 in
theorem O_X7_needItem_0 {Γ : Nat × (Nat → Int32)} {d : Nat} {Q : mQ} {σ : mS} (a1 : Int32) (h : (((f_X0_hasItem_5 σ a1) = 0 → False) ∧ (¬ ((f_X0_hasItem_5 σ a1) = 0) → Q (.inl none) 60 mSH σ))) : mCall Γ M_X7_needItem (d + 2) 0 0 [.ref 0, .int a1] 60 mSH σ Q := by
  refine mCall_of rfl (by decide) (Nat.le_of_ble_eq_true rfl) (mOkC (mOk_lo (Nat.le_of_ble_eq_true rfl)) (mOkC mOk_i mOkN)) ?_
  show mK Γ M_X7_needItem (d + 2) Q 60 0 0 0 [(0, .ref 0), (1, .int a1)] [] 60 mSH σ
  refine mK_aload_n dX7_needItem_0 rfl rfl (.head _) ?_
  refine ru_getR (k := 2) (ci := 6) (a := 5) dX7_needItem_1 rfl rfl rfl kw_283 ?_
  refine mK_iload_n dX7_needItem_4 rfl rfl (.tail _ (.head _)) ?_
  refine mK_invV (J := M_X0_hasItem) (k := 1) (as := [.int a1]) (st := []) (c1 := 0) (s1 := 0) dX7_needItem_5 rfl jw_X0_hasItem jn_X0_hasItem rfl (Nat.le_of_ble_eq_true rfl) (Nat.zero_le _) (Nat.zero_le _) rfl kw_886 kw_566 kw_567 (b := 5) (Nat.le_of_ble_eq_true rfl) (Nat.le_of_ble_eq_true rfl) rfl ?_
  refine S_X0_hasItem_5 a1 ?_
  show mK Γ M_X7_needItem (d + 2) Q 60 0 0 8 [(0, .ref 0), (1, .int a1)] [.int (f_X0_hasItem_5 σ a1)] 60 mSH σ
  refine ru_if_ne (tgt := 22) dX7_needItem_8 rfl (by decide) (fun c1 => ?_) (fun c1 => ?_)
  · exact mK_vret dX7_needItem_22 rfl (h.2 c1)
  · exact False.elim (h.1 c1)
set_option maxRecDepth 20000 in
theorem O_X7_needSpeaker_0 {Γ : Nat × (Nat → Int32)} {d : Nat} {Q : mQ} {σ : mS} (a1 : Int32) (h : (((f_X0_hasSpeaker_5 σ a1) = 0 → False) ∧ (¬ ((f_X0_hasSpeaker_5 σ a1) = 0) → Q (.inl none) 60 mSH σ))) : mCall Γ M_X7_needSpeaker (d + 2) 0 0 [.ref 0, .int a1] 60 mSH σ Q := by
  refine mCall_of rfl (by decide) (Nat.le_of_ble_eq_true rfl) (mOkC (mOk_lo (Nat.le_of_ble_eq_true rfl)) (mOkC mOk_i mOkN)) ?_
  show mK Γ M_X7_needSpeaker (d + 2) Q 60 0 0 0 [(0, .ref 0), (1, .int a1)] [] 60 mSH σ
  refine mK_aload_n dX7_needSpeaker_0 rfl rfl (.head _) ?_
  refine ru_getR (k := 2) (ci := 6) (a := 5) dX7_needSpeaker_1 rfl rfl rfl kw_283 ?_
  refine mK_iload_n dX7_needSpeaker_4 rfl rfl (.tail _ (.head _)) ?_
  refine mK_invV (J := M_X0_hasSpeaker) (k := 1) (as := [.int a1]) (st := []) (c1 := 0) (s1 := 0) dX7_needSpeaker_5 rfl jw_X0_hasSpeaker jn_X0_hasSpeaker rfl (Nat.le_of_ble_eq_true rfl) (Nat.zero_le _) (Nat.zero_le _) rfl kw_864 kw_542 kw_543 (b := 5) (Nat.le_of_ble_eq_true rfl) (Nat.le_of_ble_eq_true rfl) rfl ?_
  refine S_X0_hasSpeaker_5 a1 ?_
  show mK Γ M_X7_needSpeaker (d + 2) Q 60 0 0 8 [(0, .ref 0), (1, .int a1)] [.int (f_X0_hasSpeaker_5 σ a1)] 60 mSH σ
  refine ru_if_ne (tgt := 22) dX7_needSpeaker_8 rfl (by decide) (fun c1 => ?_) (fun c1 => ?_)
  · exact mK_vret dX7_needSpeaker_22 rfl (h.2 c1)
  · exact False.elim (h.1 c1)
set_option maxRecDepth 20000 in
theorem O_X7_count_0 {Γ : Nat × (Nat → Int32)} {d : Nat} {Q : mQ} {σ : mS} (a1 : Int32) (h : ((a1 = 0 → Q (.inl (some (.int (f_X0_speakers_5 σ)))) 60 mSH σ) ∧ (¬ (a1 = 0) → ((a1 = 1 → Q (.inl (some (.int (f_X0_items_5 σ)))) 60 mSH σ) ∧ (¬ (a1 = 1) → ((a1 = 2 → ((cnt (σ.1 5 10) 40) ∧ Q (.inl (some (.int (nI (mCnt (bB (f_X0_itemsOfKind_5 σ 0)) 64))))) 60 mSH σ)) ∧ (¬ (a1 = 2) → ((a1 = 3 → ((cnt (σ.1 5 10) 40) ∧ Q (.inl (some (.int (nI (mCnt (bB (f_X0_itemsOfKind_5 σ 1)) 64))))) 60 mSH σ)) ∧ (¬ (a1 = 3) → ((a1 = 4 → ((cnt (σ.1 5 10) 40) ∧ Q (.inl (some (.int (nI (mCnt (bB (f_X0_itemsOfKind_5 σ 2)) 64))))) 60 mSH σ)) ∧ (¬ (a1 = 4) → ((a1 = 5 → Q (.inl (some (.int (nI (mCnt (bB (f_X4_itemsIn_16 σ)) 64))))) 60 mSH σ) ∧ (¬ (a1 = 5) → ((a1 = 6 → Q (.inl (some (.int (nI (mCnt (bB (f_X4_itemsOut_16 σ)) 64))))) 60 mSH σ) ∧ (¬ (a1 = 6) → ((a1 = 7 → Q (.inl (some (.int (nI (mCnt (bB (f_X4_itemsOpen_16 σ)) 64))))) 60 mSH σ) ∧ (¬ (a1 = 7) → ((a1 = 8 → Q (.inl (some (.int (nI (mCnt (bB (f_X0_concededItems_5 σ)) 64))))) 60 mSH σ) ∧ (¬ (a1 = 8) → ((a1 = 9 → Q (.inl (some (.int (f_X4_rounds_16 σ)))) 60 mSH σ) ∧ (¬ (a1 = 9) → ((a1 = 10 → Q (.inl (some (.int (f_X3_length_1 σ)))) 60 mSH σ) ∧ (¬ (a1 = 10) → ((a1 = 11 → Q (.inl (some (.int (f_X3_length_3 σ)))) 60 mSH σ) ∧ (¬ (a1 = 11) → False))))))))))))))))))))))))) : mCall Γ M_X7_count (d + 4) 0 0 [.ref 0, .int a1] 60 mSH σ Q := by
  refine mCall_of rfl (by decide) (Nat.le_of_ble_eq_true rfl) (mOkC (mOk_lo (Nat.le_of_ble_eq_true rfl)) (mOkC mOk_i mOkN)) ?_
  show mK Γ M_X7_count (d + 4) Q 60 0 0 0 [(0, .ref 0), (1, .int a1)] [] 60 mSH σ
  refine mK_iload_n dX7_count_0 rfl rfl (.tail _ (.head _)) ?_
  refine qsplit (a1 = 0) (fun c1 => ?_) (fun c1 => ?_)
  · refine mK_tabIn (tgt := 64) (off := 63) dX7_count_1 (by rw [c1]; decide) (by rw [c1]; decide) (by rw [c1]; rfl) (by decide) ?_
    refine mK_aload_n dX7_count_64 rfl rfl (.head _) ?_
    refine ru_getR (k := 2) (ci := 6) (a := 5) dX7_count_65 rfl rfl rfl kw_283 ?_
    refine mK_invV (J := M_X0_speakers) (k := 0) (as := []) (st := []) (c1 := 0) (s1 := 0) dX7_count_68 rfl jw_X0_speakers jn_X0_speakers rfl (Nat.le_of_ble_eq_true rfl) (Nat.zero_le _) (Nat.zero_le _) rfl kw_701 kw_503 kw_504 (b := 5) (Nat.le_of_ble_eq_true rfl) (Nat.le_of_ble_eq_true rfl) rfl ?_
    refine S_X0_speakers_5  ?_
    show mK Γ M_X7_count (d + 4) Q 60 0 0 71 [(0, .ref 0), (1, .int a1)] [.int (f_X0_speakers_5 σ)] 60 mSH σ
    exact mK_iret dX7_count_71 rfl (h.1 c1)
  · refine qsplit (a1 = 1) (fun c2 => ?_) (fun c2 => ?_)
    · refine mK_tabIn (tgt := 72) (off := 71) dX7_count_1 (by rw [c2]; decide) (by rw [c2]; decide) (by rw [c2]; rfl) (by decide) ?_
      refine mK_aload_n dX7_count_72 rfl rfl (.head _) ?_
      refine ru_getR (k := 2) (ci := 6) (a := 5) dX7_count_73 rfl rfl rfl kw_283 ?_
      refine mK_invV (J := M_X0_items) (k := 0) (as := []) (st := []) (c1 := 0) (s1 := 0) dX7_count_76 rfl jw_X0_items jn_X0_items rfl (Nat.le_of_ble_eq_true rfl) (Nat.zero_le _) (Nat.zero_le _) rfl kw_722 kw_529 kw_530 (b := 5) (Nat.le_of_ble_eq_true rfl) (Nat.le_of_ble_eq_true rfl) rfl ?_
      refine S_X0_items_5  ?_
      show mK Γ M_X7_count (d + 4) Q 60 0 0 79 [(0, .ref 0), (1, .int a1)] [.int (f_X0_items_5 σ)] 60 mSH σ
      exact mK_iret dX7_count_79 rfl ((h.2 c1).1 c2)
    · refine qsplit (a1 = 2) (fun c3 => ?_) (fun c3 => ?_)
      · refine mK_tabIn (tgt := 80) (off := 79) dX7_count_1 (by rw [c3]; decide) (by rw [c3]; decide) (by rw [c3]; rfl) (by decide) ?_
        refine mK_aload_n dX7_count_80 rfl rfl (.head _) ?_
        refine ru_getR (k := 2) (ci := 6) (a := 5) dX7_count_81 rfl rfl rfl kw_283 ?_
        refine mK_iconst dX7_count_84 rfl qic_0 ?_
        refine mK_invV (J := M_X0_itemsOfKind) (k := 1) (as := [.int 0]) (st := []) (c1 := 0) (s1 := 0) dX7_count_85 rfl jw_X0_itemsOfKind jn_X0_itemsOfKind rfl (Nat.le_of_ble_eq_true rfl) (Nat.zero_le _) (Nat.zero_le _) rfl kw_751 kw_752 kw_753 (b := 5) (Nat.le_of_ble_eq_true rfl) (Nat.le_of_ble_eq_true rfl) rfl ?_
        refine S_X0_itemsOfKind_5 0 ((((h.2 c1).2 c2).1 c3).1) ?_
        show mK Γ M_X7_count (d + 4) Q 60 0 0 88 [(0, .ref 0), (1, .int a1)] [.long (f_X0_itemsOfKind_5 σ 0)] 60 mSH σ
        refine mK_invS (J := M_J13_bitCount_95d88) (k := 1) (as := [.long (f_X0_itemsOfKind_5 σ 0)]) (st := []) (c1 := 0) (s1 := 0) dX7_count_88 rfl jw_J13_bitCount_95d88 jn_J13_bitCount_95d88 rfl (Nat.le_of_ble_eq_true rfl) (Nat.zero_le _) (Nat.zero_le _) rfl kw_759 kw_760 ?_
        refine S_bitCount (f_X0_itemsOfKind_5 σ 0) ?_
        show mK Γ M_X7_count (d + 4) Q 60 0 0 91 [(0, .ref 0), (1, .int a1)] [.int (nI (mCnt (bB (f_X0_itemsOfKind_5 σ 0)) 64))] 60 mSH σ
        exact mK_iret dX7_count_91 rfl (((h.2 c1).2 c2).1 c3).2
      · refine qsplit (a1 = 3) (fun c4 => ?_) (fun c4 => ?_)
        · refine mK_tabIn (tgt := 92) (off := 91) dX7_count_1 (by rw [c4]; decide) (by rw [c4]; decide) (by rw [c4]; rfl) (by decide) ?_
          refine mK_aload_n dX7_count_92 rfl rfl (.head _) ?_
          refine ru_getR (k := 2) (ci := 6) (a := 5) dX7_count_93 rfl rfl rfl kw_283 ?_
          refine mK_iconst dX7_count_96 rfl qic_1 ?_
          refine mK_invV (J := M_X0_itemsOfKind) (k := 1) (as := [.int 1]) (st := []) (c1 := 0) (s1 := 0) dX7_count_97 rfl jw_X0_itemsOfKind jn_X0_itemsOfKind rfl (Nat.le_of_ble_eq_true rfl) (Nat.zero_le _) (Nat.zero_le _) rfl kw_751 kw_752 kw_753 (b := 5) (Nat.le_of_ble_eq_true rfl) (Nat.le_of_ble_eq_true rfl) rfl ?_
          refine S_X0_itemsOfKind_5 1 (((((h.2 c1).2 c2).2 c3).1 c4).1) ?_
          show mK Γ M_X7_count (d + 4) Q 60 0 0 100 [(0, .ref 0), (1, .int a1)] [.long (f_X0_itemsOfKind_5 σ 1)] 60 mSH σ
          refine mK_invS (J := M_J13_bitCount_95d88) (k := 1) (as := [.long (f_X0_itemsOfKind_5 σ 1)]) (st := []) (c1 := 0) (s1 := 0) dX7_count_100 rfl jw_J13_bitCount_95d88 jn_J13_bitCount_95d88 rfl (Nat.le_of_ble_eq_true rfl) (Nat.zero_le _) (Nat.zero_le _) rfl kw_759 kw_760 ?_
          refine S_bitCount (f_X0_itemsOfKind_5 σ 1) ?_
          show mK Γ M_X7_count (d + 4) Q 60 0 0 103 [(0, .ref 0), (1, .int a1)] [.int (nI (mCnt (bB (f_X0_itemsOfKind_5 σ 1)) 64))] 60 mSH σ
          exact mK_iret dX7_count_103 rfl ((((h.2 c1).2 c2).2 c3).1 c4).2
        · refine qsplit (a1 = 4) (fun c5 => ?_) (fun c5 => ?_)
          · refine mK_tabIn (tgt := 104) (off := 103) dX7_count_1 (by rw [c5]; decide) (by rw [c5]; decide) (by rw [c5]; rfl) (by decide) ?_
            refine mK_aload_n dX7_count_104 rfl rfl (.head _) ?_
            refine ru_getR (k := 2) (ci := 6) (a := 5) dX7_count_105 rfl rfl rfl kw_283 ?_
            refine mK_iconst dX7_count_108 rfl qic_2 ?_
            refine mK_invV (J := M_X0_itemsOfKind) (k := 1) (as := [.int 2]) (st := []) (c1 := 0) (s1 := 0) dX7_count_109 rfl jw_X0_itemsOfKind jn_X0_itemsOfKind rfl (Nat.le_of_ble_eq_true rfl) (Nat.zero_le _) (Nat.zero_le _) rfl kw_751 kw_752 kw_753 (b := 5) (Nat.le_of_ble_eq_true rfl) (Nat.le_of_ble_eq_true rfl) rfl ?_
            refine S_X0_itemsOfKind_5 2 ((((((h.2 c1).2 c2).2 c3).2 c4).1 c5).1) ?_
            show mK Γ M_X7_count (d + 4) Q 60 0 0 112 [(0, .ref 0), (1, .int a1)] [.long (f_X0_itemsOfKind_5 σ 2)] 60 mSH σ
            refine mK_invS (J := M_J13_bitCount_95d88) (k := 1) (as := [.long (f_X0_itemsOfKind_5 σ 2)]) (st := []) (c1 := 0) (s1 := 0) dX7_count_112 rfl jw_J13_bitCount_95d88 jn_J13_bitCount_95d88 rfl (Nat.le_of_ble_eq_true rfl) (Nat.zero_le _) (Nat.zero_le _) rfl kw_759 kw_760 ?_
            refine S_bitCount (f_X0_itemsOfKind_5 σ 2) ?_
            show mK Γ M_X7_count (d + 4) Q 60 0 0 115 [(0, .ref 0), (1, .int a1)] [.int (nI (mCnt (bB (f_X0_itemsOfKind_5 σ 2)) 64))] 60 mSH σ
            exact mK_iret dX7_count_115 rfl (((((h.2 c1).2 c2).2 c3).2 c4).1 c5).2
          · refine qsplit (a1 = 5) (fun c6 => ?_) (fun c6 => ?_)
            · refine mK_tabIn (tgt := 116) (off := 115) dX7_count_1 (by rw [c6]; decide) (by rw [c6]; decide) (by rw [c6]; rfl) (by decide) ?_
              refine mK_aload_n dX7_count_116 rfl rfl (.head _) ?_
              refine ru_getR (k := 3) (ci := 6) (a := 16) dX7_count_117 rfl rfl rfl kw_284 ?_
              refine mK_invV (J := M_X4_itemsIn) (k := 0) (as := []) (st := []) (c1 := 0) (s1 := 0) dX7_count_120 rfl jw_X4_itemsIn jn_X4_itemsIn rfl (Nat.le_of_ble_eq_true rfl) (Nat.zero_le _) (Nat.zero_le _) rfl kw_765 kw_766 kw_767 (b := 16) (Nat.le_of_ble_eq_true rfl) (Nat.le_of_ble_eq_true rfl) rfl ?_
              refine S_X4_itemsIn_16  ?_
              show mK Γ M_X7_count (d + 4) Q 60 0 0 123 [(0, .ref 0), (1, .int a1)] [.long (f_X4_itemsIn_16 σ)] 60 mSH σ
              refine mK_invS (J := M_J13_bitCount_95d88) (k := 1) (as := [.long (f_X4_itemsIn_16 σ)]) (st := []) (c1 := 0) (s1 := 0) dX7_count_123 rfl jw_J13_bitCount_95d88 jn_J13_bitCount_95d88 rfl (Nat.le_of_ble_eq_true rfl) (Nat.zero_le _) (Nat.zero_le _) rfl kw_759 kw_760 ?_
              refine S_bitCount (f_X4_itemsIn_16 σ) ?_
              show mK Γ M_X7_count (d + 4) Q 60 0 0 126 [(0, .ref 0), (1, .int a1)] [.int (nI (mCnt (bB (f_X4_itemsIn_16 σ)) 64))] 60 mSH σ
              exact mK_iret dX7_count_126 rfl ((((((h.2 c1).2 c2).2 c3).2 c4).2 c5).1 c6)
            · refine qsplit (a1 = 6) (fun c7 => ?_) (fun c7 => ?_)
              · refine mK_tabIn (tgt := 127) (off := 126) dX7_count_1 (by rw [c7]; decide) (by rw [c7]; decide) (by rw [c7]; rfl) (by decide) ?_
                refine mK_aload_n dX7_count_127 rfl rfl (.head _) ?_
                refine ru_getR (k := 3) (ci := 6) (a := 16) dX7_count_128 rfl rfl rfl kw_284 ?_
                refine mK_invV (J := M_X4_itemsOut) (k := 0) (as := []) (st := []) (c1 := 0) (s1 := 0) dX7_count_131 rfl jw_X4_itemsOut jn_X4_itemsOut rfl (Nat.le_of_ble_eq_true rfl) (Nat.zero_le _) (Nat.zero_le _) rfl kw_779 kw_780 kw_781 (b := 16) (Nat.le_of_ble_eq_true rfl) (Nat.le_of_ble_eq_true rfl) rfl ?_
                refine S_X4_itemsOut_16  ?_
                show mK Γ M_X7_count (d + 4) Q 60 0 0 134 [(0, .ref 0), (1, .int a1)] [.long (f_X4_itemsOut_16 σ)] 60 mSH σ
                refine mK_invS (J := M_J13_bitCount_95d88) (k := 1) (as := [.long (f_X4_itemsOut_16 σ)]) (st := []) (c1 := 0) (s1 := 0) dX7_count_134 rfl jw_J13_bitCount_95d88 jn_J13_bitCount_95d88 rfl (Nat.le_of_ble_eq_true rfl) (Nat.zero_le _) (Nat.zero_le _) rfl kw_759 kw_760 ?_
                refine S_bitCount (f_X4_itemsOut_16 σ) ?_
                show mK Γ M_X7_count (d + 4) Q 60 0 0 137 [(0, .ref 0), (1, .int a1)] [.int (nI (mCnt (bB (f_X4_itemsOut_16 σ)) 64))] 60 mSH σ
                exact mK_iret dX7_count_137 rfl (((((((h.2 c1).2 c2).2 c3).2 c4).2 c5).2 c6).1 c7)
              · refine qsplit (a1 = 7) (fun c8 => ?_) (fun c8 => ?_)
                · refine mK_tabIn (tgt := 138) (off := 137) dX7_count_1 (by rw [c8]; decide) (by rw [c8]; decide) (by rw [c8]; rfl) (by decide) ?_
                  refine mK_aload_n dX7_count_138 rfl rfl (.head _) ?_
                  refine ru_getR (k := 3) (ci := 6) (a := 16) dX7_count_139 rfl rfl rfl kw_284 ?_
                  refine mK_invV (J := M_X4_itemsOpen) (k := 0) (as := []) (st := []) (c1 := 0) (s1 := 0) dX7_count_142 rfl jw_X4_itemsOpen jn_X4_itemsOpen rfl (Nat.le_of_ble_eq_true rfl) (Nat.zero_le _) (Nat.zero_le _) rfl kw_783 kw_627 kw_628 (b := 16) (Nat.le_of_ble_eq_true rfl) (Nat.le_of_ble_eq_true rfl) rfl ?_
                  refine S_X4_itemsOpen_16  ?_
                  show mK Γ M_X7_count (d + 4) Q 60 0 0 145 [(0, .ref 0), (1, .int a1)] [.long (f_X4_itemsOpen_16 σ)] 60 mSH σ
                  refine mK_invS (J := M_J13_bitCount_95d88) (k := 1) (as := [.long (f_X4_itemsOpen_16 σ)]) (st := []) (c1 := 0) (s1 := 0) dX7_count_145 rfl jw_J13_bitCount_95d88 jn_J13_bitCount_95d88 rfl (Nat.le_of_ble_eq_true rfl) (Nat.zero_le _) (Nat.zero_le _) rfl kw_759 kw_760 ?_
                  refine S_bitCount (f_X4_itemsOpen_16 σ) ?_
                  show mK Γ M_X7_count (d + 4) Q 60 0 0 148 [(0, .ref 0), (1, .int a1)] [.int (nI (mCnt (bB (f_X4_itemsOpen_16 σ)) 64))] 60 mSH σ
                  exact mK_iret dX7_count_148 rfl ((((((((h.2 c1).2 c2).2 c3).2 c4).2 c5).2 c6).2 c7).1 c8)
                · refine qsplit (a1 = 8) (fun c9 => ?_) (fun c9 => ?_)
                  · refine mK_tabIn (tgt := 149) (off := 148) dX7_count_1 (by rw [c9]; decide) (by rw [c9]; decide) (by rw [c9]; rfl) (by decide) ?_
                    refine mK_aload_n dX7_count_149 rfl rfl (.head _) ?_
                    refine ru_getR (k := 2) (ci := 6) (a := 5) dX7_count_150 rfl rfl rfl kw_283 ?_
                    refine mK_invV (J := M_X0_concededItems) (k := 0) (as := []) (st := []) (c1 := 0) (s1 := 0) dX7_count_153 rfl jw_X0_concededItems jn_X0_concededItems rfl (Nat.le_of_ble_eq_true rfl) (Nat.zero_le _) (Nat.zero_le _) rfl kw_784 kw_595 kw_596 (b := 5) (Nat.le_of_ble_eq_true rfl) (Nat.le_of_ble_eq_true rfl) rfl ?_
                    refine S_X0_concededItems_5  ?_
                    show mK Γ M_X7_count (d + 4) Q 60 0 0 156 [(0, .ref 0), (1, .int a1)] [.long (f_X0_concededItems_5 σ)] 60 mSH σ
                    refine mK_invS (J := M_J13_bitCount_95d88) (k := 1) (as := [.long (f_X0_concededItems_5 σ)]) (st := []) (c1 := 0) (s1 := 0) dX7_count_156 rfl jw_J13_bitCount_95d88 jn_J13_bitCount_95d88 rfl (Nat.le_of_ble_eq_true rfl) (Nat.zero_le _) (Nat.zero_le _) rfl kw_759 kw_760 ?_
                    refine S_bitCount (f_X0_concededItems_5 σ) ?_
                    show mK Γ M_X7_count (d + 4) Q 60 0 0 159 [(0, .ref 0), (1, .int a1)] [.int (nI (mCnt (bB (f_X0_concededItems_5 σ)) 64))] 60 mSH σ
                    exact mK_iret dX7_count_159 rfl (((((((((h.2 c1).2 c2).2 c3).2 c4).2 c5).2 c6).2 c7).2 c8).1 c9)
                  · refine qsplit (a1 = 9) (fun c10 => ?_) (fun c10 => ?_)
                    · refine mK_tabIn (tgt := 160) (off := 159) dX7_count_1 (by rw [c10]; decide) (by rw [c10]; decide) (by rw [c10]; rfl) (by decide) ?_
                      refine mK_aload_n dX7_count_160 rfl rfl (.head _) ?_
                      refine ru_getR (k := 3) (ci := 6) (a := 16) dX7_count_161 rfl rfl rfl kw_284 ?_
                      refine mK_invV (J := M_X4_rounds) (k := 0) (as := []) (st := []) (c1 := 0) (s1 := 0) dX7_count_164 rfl jw_X4_rounds jn_X4_rounds rfl (Nat.le_of_ble_eq_true rfl) (Nat.zero_le _) (Nat.zero_le _) rfl kw_785 kw_786 kw_787 (b := 16) (Nat.le_of_ble_eq_true rfl) (Nat.le_of_ble_eq_true rfl) rfl ?_
                      refine S_X4_rounds_16  ?_
                      show mK Γ M_X7_count (d + 4) Q 60 0 0 167 [(0, .ref 0), (1, .int a1)] [.int (f_X4_rounds_16 σ)] 60 mSH σ
                      exact mK_iret dX7_count_167 rfl ((((((((((h.2 c1).2 c2).2 c3).2 c4).2 c5).2 c6).2 c7).2 c8).2 c9).1 c10)
                    · refine qsplit (a1 = 10) (fun c11 => ?_) (fun c11 => ?_)
                      · refine mK_tabIn (tgt := 168) (off := 167) dX7_count_1 (by rw [c11]; decide) (by rw [c11]; decide) (by rw [c11]; rfl) (by decide) ?_
                        refine mK_aload_n dX7_count_168 rfl rfl (.head _) ?_
                        refine ru_getR (k := 0) (ci := 6) (a := 1) dX7_count_169 rfl rfl rfl kw_281 ?_
                        refine mK_invV (J := M_X3_length) (k := 0) (as := []) (st := []) (c1 := 0) (s1 := 0) dX7_count_172 rfl jw_X3_length jn_X3_length rfl (Nat.le_of_ble_eq_true rfl) (Nat.zero_le _) (Nat.zero_le _) rfl kw_746 kw_321 kw_322 (b := 1) (Nat.le_of_ble_eq_true rfl) (Nat.le_of_ble_eq_true rfl) rfl ?_
                        refine S_X3_length_1  ?_
                        show mK Γ M_X7_count (d + 4) Q 60 0 0 175 [(0, .ref 0), (1, .int a1)] [.int (f_X3_length_1 σ)] 60 mSH σ
                        exact mK_iret dX7_count_175 rfl (((((((((((h.2 c1).2 c2).2 c3).2 c4).2 c5).2 c6).2 c7).2 c8).2 c9).2 c10).1 c11)
                      · refine qsplit (a1 = 11) (fun c12 => ?_) (fun c12 => ?_)
                        · refine mK_tabIn (tgt := 176) (off := 175) dX7_count_1 (by rw [c12]; decide) (by rw [c12]; decide) (by rw [c12]; rfl) (by decide) ?_
                          refine mK_aload_n dX7_count_176 rfl rfl (.head _) ?_
                          refine ru_getR (k := 1) (ci := 6) (a := 3) dX7_count_177 rfl rfl rfl kw_282 ?_
                          refine mK_invV (J := M_X3_length) (k := 0) (as := []) (st := []) (c1 := 0) (s1 := 0) dX7_count_180 rfl jw_X3_length jn_X3_length rfl (Nat.le_of_ble_eq_true rfl) (Nat.zero_le _) (Nat.zero_le _) rfl kw_746 kw_321 kw_322 (b := 3) (Nat.le_of_ble_eq_true rfl) (Nat.le_of_ble_eq_true rfl) rfl ?_
                          refine S_X3_length_3  ?_
                          show mK Γ M_X7_count (d + 4) Q 60 0 0 183 [(0, .ref 0), (1, .int a1)] [.int (f_X3_length_3 σ)] 60 mSH σ
                          exact mK_iret dX7_count_183 rfl ((((((((((((h.2 c1).2 c2).2 c3).2 c4).2 c5).2 c6).2 c7).2 c8).2 c9).2 c10).2 c11).1 c12)
                        · refine mK_tabOut (tgt := 184) dX7_count_1 (qtab_12 c1 c2 c3 c4 c5 c6 c7 c8 c9 c10 c11 c12) (by decide) ?_
                          exact False.elim ((((((((((((h.2 c1).2 c2).2 c3).2 c4).2 c5).2 c6).2 c7).2 c8).2 c9).2 c10).2 c11).2 c12)
set_option maxRecDepth 20000 in
theorem O_X7_item_0 {Γ : Nat × (Nat → Int32)} {d : Nat} {Q : mQ} {σ : mS} (a1 : Int32) (a2 : Int32) (h : (((f_X0_hasItem_5 σ a1) = 0 → False) ∧ (¬ ((f_X0_hasItem_5 σ a1) = 0) → ((a2 = 0 → Q (.inl (some (.int (f_X0_kindOf_5 σ a1)))) 60 mSH σ) ∧ (¬ (a2 = 0) → ((a2 = 1 → Q (.inl (some (.int (f_X0_speakerOf_5 σ a1)))) 60 mSH σ) ∧ (¬ (a2 = 1) → ((a2 = 2 → Q (.inl (some (.int (f_X0_strengthOf_5 σ a1)))) 60 mSH σ) ∧ (¬ (a2 = 2) → ((a2 = 3 → Q (.inl (some (.int (f_X0_sourceOf_5 σ a1)))) 60 mSH σ) ∧ (¬ (a2 = 3) → ((a2 = 4 → Q (.inl (some (.int (f_X0_targetOf_5 σ a1)))) 60 mSH σ) ∧ (¬ (a2 = 4) → ((a2 = 5 → (((f_X4_isIn_16 σ a1) = 0 → (((f_X4_isOut_16 σ a1) = 0 → Q (.inl (some (.int 0))) 60 mSH σ) ∧ (¬ ((f_X4_isOut_16 σ a1) = 0) → Q (.inl (some (.int 2))) 60 mSH σ))) ∧ (¬ ((f_X4_isIn_16 σ a1) = 0) → Q (.inl (some (.int 1))) 60 mSH σ))) ∧ (¬ (a2 = 5) → ((a2 = 6 → Q (.inl (some (.int (f_X4_roundOf_16 σ a1)))) 60 mSH σ) ∧ (¬ (a2 = 6) → ((a2 = 7 → (((f_X0_isConceded_5 σ a1) = 0 → Q (.inl (some (.int 0))) 60 mSH σ) ∧ (¬ ((f_X0_isConceded_5 σ a1) = 0) → Q (.inl (some (.int 1))) 60 mSH σ))) ∧ (¬ (a2 = 7) → ((a2 = 8 → (((f_X0_isStrongAttack_5 σ a1) = 0 → Q (.inl (some (.int 0))) 60 mSH σ) ∧ (¬ ((f_X0_isStrongAttack_5 σ a1) = 0) → Q (.inl (some (.int 1))) 60 mSH σ))) ∧ (¬ (a2 = 8) → ((a2 = 9 → ((cnt (σ.1 5 10) 40) ∧ Q (.inl (some (.int (nI (mCnt (bB ((f_X0_itemsWithTarget_5 σ a1) &&& (f_X0_itemsOfKind_5 σ 1))) 64))))) 60 mSH σ)) ∧ (¬ (a2 = 9) → ((a2 = 10 → ((cnt (σ.1 5 10) 40) ∧ Q (.inl (some (.int (nI (mCnt (bB ((f_X0_itemsWithTarget_5 σ a1) &&& (f_X0_itemsOfKind_5 σ 2))) 64))))) 60 mSH σ)) ∧ (¬ (a2 = 10) → False))))))))))))))))))))))))) : mCall Γ M_X7_item (d + 4) 0 0 [.ref 0, .int a1, .int a2] 60 mSH σ Q := by
  refine mCall_of rfl (by decide) (Nat.le_of_ble_eq_true rfl) (mOkC (mOk_lo (Nat.le_of_ble_eq_true rfl)) (mOkC mOk_i (mOkC mOk_i mOkN))) ?_
  show mK Γ M_X7_item (d + 4) Q 60 0 0 0 [(0, .ref 0), (1, .int a1), (2, .int a2)] [] 60 mSH σ
  refine mK_aload_n dX7_item_0 rfl rfl (.head _) ?_
  refine mK_iload_n dX7_item_1 rfl rfl (.tail _ (.head _)) ?_
  refine mK_invV (J := M_X7_needItem) (k := 1) (as := [.int a1]) (st := []) (c1 := 0) (s1 := 0) dX7_item_2 rfl jw_X7_needItem jn_X7_needItem rfl (Nat.le_of_ble_eq_true rfl) (Nat.zero_le _) (Nat.zero_le _) rfl kw_882 kw_884 kw_34 (b := 0) (Nat.le_of_ble_eq_true rfl) (Nat.le_of_ble_eq_true rfl) rfl ?_
  refine O_X7_needItem_0 a1 ?_
  refine ⟨fun c1 => ?_, fun c1 => ?_⟩
  · exact False.elim (h.1 c1)
  · show mK Γ M_X7_item (d + 4) Q 60 0 0 5 [(0, .ref 0), (1, .int a1), (2, .int a2)] [] 60 mSH σ
    refine mK_iload_n dX7_item_5 rfl rfl (.tail _ (.tail _ (.head _))) ?_
    refine qsplit (a2 = 0) (fun c2 => ?_) (fun c2 => ?_)
    · refine mK_tabIn (tgt := 64) (off := 58) dX7_item_6 (by rw [c2]; decide) (by rw [c2]; decide) (by rw [c2]; rfl) (by decide) ?_
      refine mK_aload_n dX7_item_64 rfl rfl (.head _) ?_
      refine ru_getR (k := 2) (ci := 6) (a := 5) dX7_item_65 rfl rfl rfl kw_283 ?_
      refine mK_iload_n dX7_item_68 rfl rfl (.tail _ (.head _)) ?_
      refine mK_invV (J := M_X0_kindOf) (k := 1) (as := [.int a1]) (st := []) (c1 := 0) (s1 := 0) dX7_item_69 rfl jw_X0_kindOf jn_X0_kindOf rfl (Nat.le_of_ble_eq_true rfl) (Nat.zero_le _) (Nat.zero_le _) rfl kw_888 kw_570 kw_571 (b := 5) (Nat.le_of_ble_eq_true rfl) (Nat.le_of_ble_eq_true rfl) rfl ?_
      refine S_X0_kindOf_5 a1 ?_
      show mK Γ M_X7_item (d + 4) Q 60 0 0 72 [(0, .ref 0), (1, .int a1), (2, .int a2)] [.int (f_X0_kindOf_5 σ a1)] 60 mSH σ
      exact mK_iret dX7_item_72 rfl ((h.2 c1).1 c2)
    · refine qsplit (a2 = 1) (fun c3 => ?_) (fun c3 => ?_)
      · refine mK_tabIn (tgt := 73) (off := 67) dX7_item_6 (by rw [c3]; decide) (by rw [c3]; decide) (by rw [c3]; rfl) (by decide) ?_
        refine mK_aload_n dX7_item_73 rfl rfl (.head _) ?_
        refine ru_getR (k := 2) (ci := 6) (a := 5) dX7_item_74 rfl rfl rfl kw_283 ?_
        refine mK_iload_n dX7_item_77 rfl rfl (.tail _ (.head _)) ?_
        refine mK_invV (J := M_X0_speakerOf) (k := 1) (as := [.int a1]) (st := []) (c1 := 0) (s1 := 0) dX7_item_78 rfl jw_X0_speakerOf jn_X0_speakerOf rfl (Nat.le_of_ble_eq_true rfl) (Nat.zero_le _) (Nat.zero_le _) rfl kw_736 kw_585 kw_586 (b := 5) (Nat.le_of_ble_eq_true rfl) (Nat.le_of_ble_eq_true rfl) rfl ?_
        refine S_X0_speakerOf_5 a1 ?_
        show mK Γ M_X7_item (d + 4) Q 60 0 0 81 [(0, .ref 0), (1, .int a1), (2, .int a2)] [.int (f_X0_speakerOf_5 σ a1)] 60 mSH σ
        exact mK_iret dX7_item_81 rfl (((h.2 c1).2 c2).1 c3)
      · refine qsplit (a2 = 2) (fun c4 => ?_) (fun c4 => ?_)
        · refine mK_tabIn (tgt := 82) (off := 76) dX7_item_6 (by rw [c4]; decide) (by rw [c4]; decide) (by rw [c4]; rfl) (by decide) ?_
          refine mK_aload_n dX7_item_82 rfl rfl (.head _) ?_
          refine ru_getR (k := 2) (ci := 6) (a := 5) dX7_item_83 rfl rfl rfl kw_283 ?_
          refine mK_iload_n dX7_item_86 rfl rfl (.tail _ (.head _)) ?_
          refine mK_invV (J := M_X0_strengthOf) (k := 1) (as := [.int a1]) (st := []) (c1 := 0) (s1 := 0) dX7_item_87 rfl jw_X0_strengthOf jn_X0_strengthOf rfl (Nat.le_of_ble_eq_true rfl) (Nat.zero_le _) (Nat.zero_le _) rfl kw_889 kw_562 kw_563 (b := 5) (Nat.le_of_ble_eq_true rfl) (Nat.le_of_ble_eq_true rfl) rfl ?_
          refine S_X0_strengthOf_5 a1 ?_
          show mK Γ M_X7_item (d + 4) Q 60 0 0 90 [(0, .ref 0), (1, .int a1), (2, .int a2)] [.int (f_X0_strengthOf_5 σ a1)] 60 mSH σ
          exact mK_iret dX7_item_90 rfl ((((h.2 c1).2 c2).2 c3).1 c4)
        · refine qsplit (a2 = 3) (fun c5 => ?_) (fun c5 => ?_)
          · refine mK_tabIn (tgt := 91) (off := 85) dX7_item_6 (by rw [c5]; decide) (by rw [c5]; decide) (by rw [c5]; rfl) (by decide) ?_
            refine mK_aload_n dX7_item_91 rfl rfl (.head _) ?_
            refine ru_getR (k := 2) (ci := 6) (a := 5) dX7_item_92 rfl rfl rfl kw_283 ?_
            refine mK_iload_n dX7_item_95 rfl rfl (.tail _ (.head _)) ?_
            refine mK_invV (J := M_X0_sourceOf) (k := 1) (as := [.int a1]) (st := []) (c1 := 0) (s1 := 0) dX7_item_96 rfl jw_X0_sourceOf jn_X0_sourceOf rfl (Nat.le_of_ble_eq_true rfl) (Nat.zero_le _) (Nat.zero_le _) rfl kw_890 kw_623 kw_624 (b := 5) (Nat.le_of_ble_eq_true rfl) (Nat.le_of_ble_eq_true rfl) rfl ?_
            refine S_X0_sourceOf_5 a1 ?_
            show mK Γ M_X7_item (d + 4) Q 60 0 0 99 [(0, .ref 0), (1, .int a1), (2, .int a2)] [.int (f_X0_sourceOf_5 σ a1)] 60 mSH σ
            exact mK_iret dX7_item_99 rfl (((((h.2 c1).2 c2).2 c3).2 c4).1 c5)
          · refine qsplit (a2 = 4) (fun c6 => ?_) (fun c6 => ?_)
            · refine mK_tabIn (tgt := 100) (off := 94) dX7_item_6 (by rw [c6]; decide) (by rw [c6]; decide) (by rw [c6]; rfl) (by decide) ?_
              refine mK_aload_n dX7_item_100 rfl rfl (.head _) ?_
              refine ru_getR (k := 2) (ci := 6) (a := 5) dX7_item_101 rfl rfl rfl kw_283 ?_
              refine mK_iload_n dX7_item_104 rfl rfl (.tail _ (.head _)) ?_
              refine mK_invV (J := M_X0_targetOf) (k := 1) (as := [.int a1]) (st := []) (c1 := 0) (s1 := 0) dX7_item_105 rfl jw_X0_targetOf jn_X0_targetOf rfl (Nat.le_of_ble_eq_true rfl) (Nat.zero_le _) (Nat.zero_le _) rfl kw_891 kw_608 kw_609 (b := 5) (Nat.le_of_ble_eq_true rfl) (Nat.le_of_ble_eq_true rfl) rfl ?_
              refine S_X0_targetOf_5 a1 ?_
              show mK Γ M_X7_item (d + 4) Q 60 0 0 108 [(0, .ref 0), (1, .int a1), (2, .int a2)] [.int (f_X0_targetOf_5 σ a1)] 60 mSH σ
              exact mK_iret dX7_item_108 rfl ((((((h.2 c1).2 c2).2 c3).2 c4).2 c5).1 c6)
            · refine qsplit (a2 = 5) (fun c7 => ?_) (fun c7 => ?_)
              · refine mK_tabIn (tgt := 109) (off := 103) dX7_item_6 (by rw [c7]; decide) (by rw [c7]; decide) (by rw [c7]; rfl) (by decide) ?_
                refine mK_aload_n dX7_item_109 rfl rfl (.head _) ?_
                refine ru_getR (k := 3) (ci := 6) (a := 16) dX7_item_110 rfl rfl rfl kw_284 ?_
                refine mK_iload_n dX7_item_113 rfl rfl (.tail _ (.head _)) ?_
                refine mK_invV (J := M_X4_isIn) (k := 1) (as := [.int a1]) (st := []) (c1 := 0) (s1 := 0) dX7_item_114 rfl jw_X4_isIn jn_X4_isIn rfl (Nat.le_of_ble_eq_true rfl) (Nat.zero_le _) (Nat.zero_le _) rfl kw_892 kw_615 kw_616 (b := 16) (Nat.le_of_ble_eq_true rfl) (Nat.le_of_ble_eq_true rfl) rfl ?_
                refine S_X4_isIn_16 a1 ?_
                show mK Γ M_X7_item (d + 4) Q 60 0 0 117 [(0, .ref 0), (1, .int a1), (2, .int a2)] [.int (f_X4_isIn_16 σ a1)] 60 mSH σ
                refine mK_if_eq (tgt := 124) dX7_item_117 rfl (by decide) (fun c8 => ?_) (fun c8 => ?_)
                · refine mK_aload_n dX7_item_124 rfl rfl (.head _) ?_
                  refine ru_getR (k := 3) (ci := 6) (a := 16) dX7_item_125 rfl rfl rfl kw_284 ?_
                  refine mK_iload_n dX7_item_128 rfl rfl (.tail _ (.head _)) ?_
                  refine mK_invV (J := M_X4_isOut) (k := 1) (as := [.int a1]) (st := []) (c1 := 0) (s1 := 0) dX7_item_129 rfl jw_X4_isOut jn_X4_isOut rfl (Nat.le_of_ble_eq_true rfl) (Nat.zero_le _) (Nat.zero_le _) rfl kw_893 kw_619 kw_620 (b := 16) (Nat.le_of_ble_eq_true rfl) (Nat.le_of_ble_eq_true rfl) rfl ?_
                  refine S_X4_isOut_16 a1 ?_
                  show mK Γ M_X7_item (d + 4) Q 60 0 0 132 [(0, .ref 0), (1, .int a1), (2, .int a2)] [.int (f_X4_isOut_16 σ a1)] 60 mSH σ
                  refine mK_if_eq (tgt := 139) dX7_item_132 rfl (by decide) (fun c9 => ?_) (fun c9 => ?_)
                  · refine mK_iconst dX7_item_139 rfl qic_0 ?_
                    exact mK_iret dX7_item_140 rfl (((((((((h.2 c1).2 c2).2 c3).2 c4).2 c5).2 c6).1 c7).1 c8).1 c9)
                  · refine mK_iconst dX7_item_135 rfl qic_2 ?_
                    refine mK_goto (tgt := 140) dX7_item_136 (by decide) ?_
                    exact mK_iret dX7_item_140 rfl (((((((((h.2 c1).2 c2).2 c3).2 c4).2 c5).2 c6).1 c7).1 c8).2 c9)
                · refine mK_iconst dX7_item_120 rfl qic_1 ?_
                  refine mK_goto (tgt := 140) dX7_item_121 (by decide) ?_
                  exact mK_iret dX7_item_140 rfl ((((((((h.2 c1).2 c2).2 c3).2 c4).2 c5).2 c6).1 c7).2 c8)
              · refine qsplit (a2 = 6) (fun c10 => ?_) (fun c10 => ?_)
                · refine mK_tabIn (tgt := 141) (off := 135) dX7_item_6 (by rw [c10]; decide) (by rw [c10]; decide) (by rw [c10]; rfl) (by decide) ?_
                  refine mK_aload_n dX7_item_141 rfl rfl (.head _) ?_
                  refine ru_getR (k := 3) (ci := 6) (a := 16) dX7_item_142 rfl rfl rfl kw_284 ?_
                  refine mK_iload_n dX7_item_145 rfl rfl (.tail _ (.head _)) ?_
                  refine mK_invV (J := M_X4_roundOf) (k := 1) (as := [.int a1]) (st := []) (c1 := 0) (s1 := 0) dX7_item_146 rfl jw_X4_roundOf jn_X4_roundOf rfl (Nat.le_of_ble_eq_true rfl) (Nat.zero_le _) (Nat.zero_le _) rfl kw_894 kw_895 kw_896 (b := 16) (Nat.le_of_ble_eq_true rfl) (Nat.le_of_ble_eq_true rfl) rfl ?_
                  refine S_X4_roundOf_16 a1 ?_
                  show mK Γ M_X7_item (d + 4) Q 60 0 0 149 [(0, .ref 0), (1, .int a1), (2, .int a2)] [.int (f_X4_roundOf_16 σ a1)] 60 mSH σ
                  exact mK_iret dX7_item_149 rfl ((((((((h.2 c1).2 c2).2 c3).2 c4).2 c5).2 c6).2 c7).1 c10)
                · refine qsplit (a2 = 7) (fun c11 => ?_) (fun c11 => ?_)
                  · refine mK_tabIn (tgt := 150) (off := 144) dX7_item_6 (by rw [c11]; decide) (by rw [c11]; decide) (by rw [c11]; rfl) (by decide) ?_
                    refine mK_aload_n dX7_item_150 rfl rfl (.head _) ?_
                    refine ru_getR (k := 2) (ci := 6) (a := 5) dX7_item_151 rfl rfl rfl kw_283 ?_
                    refine mK_iload_n dX7_item_154 rfl rfl (.tail _ (.head _)) ?_
                    refine mK_invV (J := M_X0_isConceded) (k := 1) (as := [.int a1]) (st := []) (c1 := 0) (s1 := 0) dX7_item_155 rfl jw_X0_isConceded jn_X0_isConceded rfl (Nat.le_of_ble_eq_true rfl) (Nat.zero_le _) (Nat.zero_le _) rfl kw_898 kw_656 kw_657 (b := 5) (Nat.le_of_ble_eq_true rfl) (Nat.le_of_ble_eq_true rfl) rfl ?_
                    refine S_X0_isConceded_5 a1 ?_
                    show mK Γ M_X7_item (d + 4) Q 60 0 0 158 [(0, .ref 0), (1, .int a1), (2, .int a2)] [.int (f_X0_isConceded_5 σ a1)] 60 mSH σ
                    refine mK_if_eq (tgt := 165) dX7_item_158 rfl (by decide) (fun c12 => ?_) (fun c12 => ?_)
                    · refine mK_iconst dX7_item_165 rfl qic_0 ?_
                      exact mK_iret dX7_item_166 rfl ((((((((((h.2 c1).2 c2).2 c3).2 c4).2 c5).2 c6).2 c7).2 c10).1 c11).1 c12)
                    · refine mK_iconst dX7_item_161 rfl qic_1 ?_
                      refine mK_goto (tgt := 166) dX7_item_162 (by decide) ?_
                      exact mK_iret dX7_item_166 rfl ((((((((((h.2 c1).2 c2).2 c3).2 c4).2 c5).2 c6).2 c7).2 c10).1 c11).2 c12)
                  · refine qsplit (a2 = 8) (fun c13 => ?_) (fun c13 => ?_)
                    · refine mK_tabIn (tgt := 167) (off := 161) dX7_item_6 (by rw [c13]; decide) (by rw [c13]; decide) (by rw [c13]; rfl) (by decide) ?_
                      refine mK_aload_n dX7_item_167 rfl rfl (.head _) ?_
                      refine ru_getR (k := 2) (ci := 6) (a := 5) dX7_item_168 rfl rfl rfl kw_283 ?_
                      refine mK_iload_n dX7_item_171 rfl rfl (.tail _ (.head _)) ?_
                      refine mK_invV (J := M_X0_isStrongAttack) (k := 1) (as := [.int a1]) (st := []) (c1 := 0) (s1 := 0) dX7_item_172 rfl jw_X0_isStrongAttack jn_X0_isStrongAttack rfl (Nat.le_of_ble_eq_true rfl) (Nat.zero_le _) (Nat.zero_le _) rfl kw_899 kw_604 kw_605 (b := 5) (Nat.le_of_ble_eq_true rfl) (Nat.le_of_ble_eq_true rfl) rfl ?_
                      refine S_X0_isStrongAttack_5 a1 ?_
                      show mK Γ M_X7_item (d + 4) Q 60 0 0 175 [(0, .ref 0), (1, .int a1), (2, .int a2)] [.int (f_X0_isStrongAttack_5 σ a1)] 60 mSH σ
                      refine mK_if_eq (tgt := 182) dX7_item_175 rfl (by decide) (fun c14 => ?_) (fun c14 => ?_)
                      · refine mK_iconst dX7_item_182 rfl qic_0 ?_
                        exact mK_iret dX7_item_183 rfl (((((((((((h.2 c1).2 c2).2 c3).2 c4).2 c5).2 c6).2 c7).2 c10).2 c11).1 c13).1 c14)
                      · refine mK_iconst dX7_item_178 rfl qic_1 ?_
                        refine mK_goto (tgt := 183) dX7_item_179 (by decide) ?_
                        exact mK_iret dX7_item_183 rfl (((((((((((h.2 c1).2 c2).2 c3).2 c4).2 c5).2 c6).2 c7).2 c10).2 c11).1 c13).2 c14)
                    · refine qsplit (a2 = 9) (fun c15 => ?_) (fun c15 => ?_)
                      · refine mK_tabIn (tgt := 184) (off := 178) dX7_item_6 (by rw [c15]; decide) (by rw [c15]; decide) (by rw [c15]; rfl) (by decide) ?_
                        refine mK_aload_n dX7_item_184 rfl rfl (.head _) ?_
                        refine ru_getR (k := 2) (ci := 6) (a := 5) dX7_item_185 rfl rfl rfl kw_283 ?_
                        refine mK_iload_n dX7_item_188 rfl rfl (.tail _ (.head _)) ?_
                        refine mK_invV (J := M_X0_itemsWithTarget) (k := 1) (as := [.int a1]) (st := []) (c1 := 0) (s1 := 0) dX7_item_189 rfl jw_X0_itemsWithTarget jn_X0_itemsWithTarget rfl (Nat.le_of_ble_eq_true rfl) (Nat.zero_le _) (Nat.zero_le _) rfl kw_900 kw_901 kw_902 (b := 5) (Nat.le_of_ble_eq_true rfl) (Nat.le_of_ble_eq_true rfl) rfl ?_
                        refine S_X0_itemsWithTarget_5 a1 ((((((((((((h.2 c1).2 c2).2 c3).2 c4).2 c5).2 c6).2 c7).2 c10).2 c11).2 c13).1 c15).1) ?_
                        show mK Γ M_X7_item (d + 4) Q 60 0 0 192 [(0, .ref 0), (1, .int a1), (2, .int a2)] [.long (f_X0_itemsWithTarget_5 σ a1)] 60 mSH σ
                        refine mK_aload_n dX7_item_192 rfl rfl (.head _) ?_
                        refine ru_getR (k := 2) (ci := 6) (a := 5) dX7_item_193 rfl rfl rfl kw_283 ?_
                        refine mK_iconst dX7_item_196 rfl qic_1 ?_
                        refine mK_invV (J := M_X0_itemsOfKind) (k := 1) (as := [.int 1]) (st := [.long (f_X0_itemsWithTarget_5 σ a1)]) (c1 := 0) (s1 := 0) dX7_item_197 rfl jw_X0_itemsOfKind jn_X0_itemsOfKind rfl (Nat.le_of_ble_eq_true rfl) (Nat.zero_le _) (Nat.zero_le _) rfl kw_751 kw_752 kw_753 (b := 5) (Nat.le_of_ble_eq_true rfl) (Nat.le_of_ble_eq_true rfl) rfl ?_
                        refine S_X0_itemsOfKind_5 1 ((((((((((((h.2 c1).2 c2).2 c3).2 c4).2 c5).2 c6).2 c7).2 c10).2 c11).2 c13).1 c15).1) ?_
                        show mK Γ M_X7_item (d + 4) Q 60 0 0 200 [(0, .ref 0), (1, .int a1), (2, .int a2)] [.long (f_X0_itemsOfKind_5 σ 1), .long (f_X0_itemsWithTarget_5 σ a1)] 60 mSH σ
                        refine mK_land dX7_item_200 rfl ?_
                        refine mK_invS (J := M_J13_bitCount_95d88) (k := 1) (as := [.long ((f_X0_itemsWithTarget_5 σ a1) &&& (f_X0_itemsOfKind_5 σ 1))]) (st := []) (c1 := 0) (s1 := 0) dX7_item_201 rfl jw_J13_bitCount_95d88 jn_J13_bitCount_95d88 rfl (Nat.le_of_ble_eq_true rfl) (Nat.zero_le _) (Nat.zero_le _) rfl kw_759 kw_760 ?_
                        refine S_bitCount ((f_X0_itemsWithTarget_5 σ a1) &&& (f_X0_itemsOfKind_5 σ 1)) ?_
                        show mK Γ M_X7_item (d + 4) Q 60 0 0 204 [(0, .ref 0), (1, .int a1), (2, .int a2)] [.int (nI (mCnt (bB ((f_X0_itemsWithTarget_5 σ a1) &&& (f_X0_itemsOfKind_5 σ 1))) 64))] 60 mSH σ
                        exact mK_iret dX7_item_204 rfl (((((((((((h.2 c1).2 c2).2 c3).2 c4).2 c5).2 c6).2 c7).2 c10).2 c11).2 c13).1 c15).2
                      · refine qsplit (a2 = 10) (fun c16 => ?_) (fun c16 => ?_)
                        · refine mK_tabIn (tgt := 205) (off := 199) dX7_item_6 (by rw [c16]; decide) (by rw [c16]; decide) (by rw [c16]; rfl) (by decide) ?_
                          refine mK_aload_n dX7_item_205 rfl rfl (.head _) ?_
                          refine ru_getR (k := 2) (ci := 6) (a := 5) dX7_item_206 rfl rfl rfl kw_283 ?_
                          refine mK_iload_n dX7_item_209 rfl rfl (.tail _ (.head _)) ?_
                          refine mK_invV (J := M_X0_itemsWithTarget) (k := 1) (as := [.int a1]) (st := []) (c1 := 0) (s1 := 0) dX7_item_210 rfl jw_X0_itemsWithTarget jn_X0_itemsWithTarget rfl (Nat.le_of_ble_eq_true rfl) (Nat.zero_le _) (Nat.zero_le _) rfl kw_900 kw_901 kw_902 (b := 5) (Nat.le_of_ble_eq_true rfl) (Nat.le_of_ble_eq_true rfl) rfl ?_
                          refine S_X0_itemsWithTarget_5 a1 (((((((((((((h.2 c1).2 c2).2 c3).2 c4).2 c5).2 c6).2 c7).2 c10).2 c11).2 c13).2 c15).1 c16).1) ?_
                          show mK Γ M_X7_item (d + 4) Q 60 0 0 213 [(0, .ref 0), (1, .int a1), (2, .int a2)] [.long (f_X0_itemsWithTarget_5 σ a1)] 60 mSH σ
                          refine mK_aload_n dX7_item_213 rfl rfl (.head _) ?_
                          refine ru_getR (k := 2) (ci := 6) (a := 5) dX7_item_214 rfl rfl rfl kw_283 ?_
                          refine mK_iconst dX7_item_217 rfl qic_2 ?_
                          refine mK_invV (J := M_X0_itemsOfKind) (k := 1) (as := [.int 2]) (st := [.long (f_X0_itemsWithTarget_5 σ a1)]) (c1 := 0) (s1 := 0) dX7_item_218 rfl jw_X0_itemsOfKind jn_X0_itemsOfKind rfl (Nat.le_of_ble_eq_true rfl) (Nat.zero_le _) (Nat.zero_le _) rfl kw_751 kw_752 kw_753 (b := 5) (Nat.le_of_ble_eq_true rfl) (Nat.le_of_ble_eq_true rfl) rfl ?_
                          refine S_X0_itemsOfKind_5 2 (((((((((((((h.2 c1).2 c2).2 c3).2 c4).2 c5).2 c6).2 c7).2 c10).2 c11).2 c13).2 c15).1 c16).1) ?_
                          show mK Γ M_X7_item (d + 4) Q 60 0 0 221 [(0, .ref 0), (1, .int a1), (2, .int a2)] [.long (f_X0_itemsOfKind_5 σ 2), .long (f_X0_itemsWithTarget_5 σ a1)] 60 mSH σ
                          refine mK_land dX7_item_221 rfl ?_
                          refine mK_invS (J := M_J13_bitCount_95d88) (k := 1) (as := [.long ((f_X0_itemsWithTarget_5 σ a1) &&& (f_X0_itemsOfKind_5 σ 2))]) (st := []) (c1 := 0) (s1 := 0) dX7_item_222 rfl jw_J13_bitCount_95d88 jn_J13_bitCount_95d88 rfl (Nat.le_of_ble_eq_true rfl) (Nat.zero_le _) (Nat.zero_le _) rfl kw_759 kw_760 ?_
                          refine S_bitCount ((f_X0_itemsWithTarget_5 σ a1) &&& (f_X0_itemsOfKind_5 σ 2)) ?_
                          show mK Γ M_X7_item (d + 4) Q 60 0 0 225 [(0, .ref 0), (1, .int a1), (2, .int a2)] [.int (nI (mCnt (bB ((f_X0_itemsWithTarget_5 σ a1) &&& (f_X0_itemsOfKind_5 σ 2))) 64))] 60 mSH σ
                          exact mK_iret dX7_item_225 rfl ((((((((((((h.2 c1).2 c2).2 c3).2 c4).2 c5).2 c6).2 c7).2 c10).2 c11).2 c13).2 c15).1 c16).2
                        · refine mK_tabOut (tgt := 226) dX7_item_6 (qtab_11 c2 c3 c4 c5 c6 c7 c10 c11 c13 c15 c16) (by decide) ?_
                          exact False.elim ((((((((((((h.2 c1).2 c2).2 c3).2 c4).2 c5).2 c6).2 c7).2 c10).2 c11).2 c13).2 c15).2 c16)
set_option maxRecDepth 20000 in
theorem O_X7_why_0 {Γ : Nat × (Nat → Int32)} {d : Nat} {Q : mQ} {σ : mS} (a1 : Int32) (h : (((f_X0_hasItem_5 σ a1) = 0 → False) ∧ (¬ ((f_X0_hasItem_5 σ a1) = 0) → (((f_X4_isOut_16 σ a1) = 0 → Q (.inl (some (.int (-1)))) 60 mSH σ) ∧ (¬ ((f_X4_isOut_16 σ a1) = 0) → mK Γ M_X7_why (d + 3) Q 60 0 0 20 [(0, .ref 0), (1, .int a1), (2, .int 0)] [] 60 mSH σ))))) : mCall Γ M_X7_why (d + 3) 0 0 [.ref 0, .int a1] 60 mSH σ Q := by
  refine mCall_of rfl (by decide) (Nat.le_of_ble_eq_true rfl) (mOkC (mOk_lo (Nat.le_of_ble_eq_true rfl)) (mOkC mOk_i mOkN)) ?_
  show mK Γ M_X7_why (d + 3) Q 60 0 0 0 [(0, .ref 0), (1, .int a1)] [] 60 mSH σ
  refine mK_aload_n dX7_why_0 rfl rfl (.head _) ?_
  refine mK_iload_n dX7_why_1 rfl rfl (.tail _ (.head _)) ?_
  refine mK_invV (J := M_X7_needItem) (k := 1) (as := [.int a1]) (st := []) (c1 := 0) (s1 := 0) dX7_why_2 rfl jw_X7_needItem jn_X7_needItem rfl (Nat.le_of_ble_eq_true rfl) (Nat.zero_le _) (Nat.zero_le _) rfl kw_882 kw_884 kw_34 (b := 0) (Nat.le_of_ble_eq_true rfl) (Nat.le_of_ble_eq_true rfl) rfl ?_
  refine O_X7_needItem_0 a1 ?_
  refine ⟨fun c1 => ?_, fun c1 => ?_⟩
  · exact False.elim (h.1 c1)
  · show mK Γ M_X7_why (d + 3) Q 60 0 0 5 [(0, .ref 0), (1, .int a1)] [] 60 mSH σ
    refine mK_aload_n dX7_why_5 rfl rfl (.head _) ?_
    refine ru_getR (k := 3) (ci := 6) (a := 16) dX7_why_6 rfl rfl rfl kw_284 ?_
    refine mK_iload_n dX7_why_9 rfl rfl (.tail _ (.head _)) ?_
    refine mK_invV (J := M_X4_isOut) (k := 1) (as := [.int a1]) (st := []) (c1 := 0) (s1 := 0) dX7_why_10 rfl jw_X4_isOut jn_X4_isOut rfl (Nat.le_of_ble_eq_true rfl) (Nat.zero_le _) (Nat.zero_le _) rfl kw_893 kw_619 kw_620 (b := 16) (Nat.le_of_ble_eq_true rfl) (Nat.le_of_ble_eq_true rfl) rfl ?_
    refine S_X4_isOut_16 a1 ?_
    show mK Γ M_X7_why (d + 3) Q 60 0 0 13 [(0, .ref 0), (1, .int a1)] [.int (f_X4_isOut_16 σ a1)] 60 mSH σ
    refine ru_if_ne (tgt := 18) dX7_why_13 rfl (by decide) (fun c2 => ?_) (fun c2 => ?_)
    · refine mK_iconst dX7_why_18 rfl qic_0 ?_
      refine ru_istore_n (lv1 := [(0, .ref 0), (1, .int a1), (2, .int 0)]) dX7_why_19 rfl rfl (by decide) rfl ?_
      exact ((h.2 c1).2 c2)
    · refine mK_iconst dX7_why_16 rfl qic_m1 ?_
      exact mK_iret dX7_why_17 rfl ((h.2 c1).1 c2)
set_option maxRecDepth 20000 in
theorem O_X7_far_0 {Γ : Nat × (Nat → Int32)} {d : Nat} {Q : mQ} {σ : mS} (a1 : Int32) (h : (((f_X0_hasItem_5 σ a1) = 0 → False) ∧ (¬ ((f_X0_hasItem_5 σ a1) = 0) → mK Γ M_X7_far (d + 3) Q 60 0 0 16 [(0, .ref 0), (2, .int 0), (3, .int (f_X0_targetOf_5 σ a1))] [] 60 mSH σ))) : mCall Γ M_X7_far (d + 3) 0 0 [.ref 0, .int a1] 60 mSH σ Q := by
  refine mCall_of rfl (by decide) (Nat.le_of_ble_eq_true rfl) (mOkC (mOk_lo (Nat.le_of_ble_eq_true rfl)) (mOkC mOk_i mOkN)) ?_
  show mK Γ M_X7_far (d + 3) Q 60 0 0 0 [(0, .ref 0), (1, .int a1)] [] 60 mSH σ
  refine mK_aload_n dX7_far_0 rfl rfl (.head _) ?_
  refine mK_iload_n dX7_far_1 rfl rfl (.tail _ (.head _)) ?_
  refine mK_invV (J := M_X7_needItem) (k := 1) (as := [.int a1]) (st := []) (c1 := 0) (s1 := 0) dX7_far_2 rfl jw_X7_needItem jn_X7_needItem rfl (Nat.le_of_ble_eq_true rfl) (Nat.zero_le _) (Nat.zero_le _) rfl kw_882 kw_884 kw_34 (b := 0) (Nat.le_of_ble_eq_true rfl) (Nat.le_of_ble_eq_true rfl) rfl ?_
  refine O_X7_needItem_0 a1 ?_
  refine ⟨fun c1 => ?_, fun c1 => ?_⟩
  · exact False.elim (h.1 c1)
  · show mK Γ M_X7_far (d + 3) Q 60 0 0 5 [(0, .ref 0), (1, .int a1)] [] 60 mSH σ
    refine mK_iconst dX7_far_5 rfl qic_0 ?_
    refine ru_istore_n (lv1 := [(0, .ref 0), (1, .int a1), (2, .int 0)]) dX7_far_6 rfl rfl (by decide) rfl ?_
    refine mK_aload_n dX7_far_7 rfl rfl (.head _) ?_
    refine ru_getR (k := 2) (ci := 6) (a := 5) dX7_far_8 rfl rfl rfl kw_283 ?_
    refine mK_iload_n dX7_far_11 rfl rfl (.tail _ (.head _)) ?_
    refine mK_invV (J := M_X0_targetOf) (k := 1) (as := [.int a1]) (st := []) (c1 := 0) (s1 := 0) dX7_far_12 rfl jw_X0_targetOf jn_X0_targetOf rfl (Nat.le_of_ble_eq_true rfl) (Nat.zero_le _) (Nat.zero_le _) rfl kw_891 kw_608 kw_609 (b := 5) (Nat.le_of_ble_eq_true rfl) (Nat.le_of_ble_eq_true rfl) rfl ?_
    refine S_X0_targetOf_5 a1 ?_
    show mK Γ M_X7_far (d + 3) Q 60 0 0 15 [(0, .ref 0), (1, .int a1), (2, .int 0)] [.int (f_X0_targetOf_5 σ a1)] 60 mSH σ
    refine ru_istore_n (lv1 := [(0, .ref 0), (1, .int a1), (2, .int 0), (3, .int (f_X0_targetOf_5 σ a1))]) dX7_far_15 rfl rfl (by decide) rfl ?_
    exact ru_pick [0, 2, 3] rfl (h.2 c1)
set_option maxRecDepth 20000 in
theorem O_X7_speaker_0 {Γ : Nat × (Nat → Int32)} {d : Nat} {Q : mQ} {σ : mS} (a1 : Int32) (a2 : Int32) (h : (((f_X0_hasSpeaker_5 σ a1) = 0 → False) ∧ (¬ ((f_X0_hasSpeaker_5 σ a1) = 0) → ((cnt (σ.1 5 10) 40) ∧ ((a2 = 0 → Q (.inl (some (.int (f_X0_timeOf_5 σ a1)))) 60 mSH σ) ∧ (¬ (a2 = 0) → ((a2 = 1 → mCall Γ M_X4_scoreOf (d + 3) 0 0 [.ref 16, .int a1] 60 mSH σ (mRt Γ M_X7_speaker (d + 4) Q 60 0 0 73 [(0, .ref 0), (1, .int a1), (2, .int a2), (3, .long (f_X0_itemsOfSpeaker_5 σ a1))] [])) ∧ (¬ (a2 = 1) → ((a2 = 2 → mCall Γ M_X4_leadOf (d + 3) 0 0 [.ref 16, .int a1] 60 mSH σ (mRt Γ M_X7_speaker (d + 4) Q 60 0 0 82 [(0, .ref 0), (1, .int a1), (2, .int a2), (3, .long (f_X0_itemsOfSpeaker_5 σ a1))] [])) ∧ (¬ (a2 = 2) → ((a2 = 3 → Q (.inl (some (.int (nI (mCnt (bB ((f_X0_itemsOfSpeaker_5 σ a1) &&& (f_X0_itemsOfKind_5 σ 0))) 64))))) 60 mSH σ) ∧ (¬ (a2 = 3) → ((a2 = 4 → Q (.inl (some (.int (nI (mCnt (bB ((f_X0_itemsOfSpeaker_5 σ a1) &&& (f_X0_itemsOfKind_5 σ 1))) 64))))) 60 mSH σ) ∧ (¬ (a2 = 4) → ((a2 = 5 → Q (.inl (some (.int (nI (mCnt (bB ((f_X0_itemsOfSpeaker_5 σ a1) &&& (f_X0_itemsOfKind_5 σ 2))) 64))))) 60 mSH σ) ∧ (¬ (a2 = 5) → ((a2 = 6 → Q (.inl (some (.int (nI (mCnt (bB ((f_X0_itemsOfSpeaker_5 σ a1) &&& (f_X0_concededItems_5 σ))) 64))))) 60 mSH σ) ∧ (¬ (a2 = 6) → False)))))))))))))))))) : mCall Γ M_X7_speaker (d + 4) 0 0 [.ref 0, .int a1, .int a2] 60 mSH σ Q := by
  refine mCall_of rfl (by decide) (Nat.le_of_ble_eq_true rfl) (mOkC (mOk_lo (Nat.le_of_ble_eq_true rfl)) (mOkC mOk_i (mOkC mOk_i mOkN))) ?_
  show mK Γ M_X7_speaker (d + 4) Q 60 0 0 0 [(0, .ref 0), (1, .int a1), (2, .int a2)] [] 60 mSH σ
  refine mK_aload_n dX7_speaker_0 rfl rfl (.head _) ?_
  refine mK_iload_n dX7_speaker_1 rfl rfl (.tail _ (.head _)) ?_
  refine mK_invV (J := M_X7_needSpeaker) (k := 1) (as := [.int a1]) (st := []) (c1 := 0) (s1 := 0) dX7_speaker_2 rfl jw_X7_needSpeaker jn_X7_needSpeaker rfl (Nat.le_of_ble_eq_true rfl) (Nat.zero_le _) (Nat.zero_le _) rfl kw_860 kw_862 kw_33 (b := 0) (Nat.le_of_ble_eq_true rfl) (Nat.le_of_ble_eq_true rfl) rfl ?_
  refine O_X7_needSpeaker_0 a1 ?_
  refine ⟨fun c1 => ?_, fun c1 => ?_⟩
  · exact False.elim (h.1 c1)
  · show mK Γ M_X7_speaker (d + 4) Q 60 0 0 5 [(0, .ref 0), (1, .int a1), (2, .int a2)] [] 60 mSH σ
    refine mK_aload_n dX7_speaker_5 rfl rfl (.head _) ?_
    refine ru_getR (k := 2) (ci := 6) (a := 5) dX7_speaker_6 rfl rfl rfl kw_283 ?_
    refine mK_iload_n dX7_speaker_9 rfl rfl (.tail _ (.head _)) ?_
    refine mK_invV (J := M_X0_itemsOfSpeaker) (k := 1) (as := [.int a1]) (st := []) (c1 := 0) (s1 := 0) dX7_speaker_10 rfl jw_X0_itemsOfSpeaker jn_X0_itemsOfSpeaker rfl (Nat.le_of_ble_eq_true rfl) (Nat.zero_le _) (Nat.zero_le _) rfl kw_866 kw_867 kw_868 (b := 5) (Nat.le_of_ble_eq_true rfl) (Nat.le_of_ble_eq_true rfl) rfl ?_
    refine S_X0_itemsOfSpeaker_5 a1 ((h.2 c1).1) ?_
    show mK Γ M_X7_speaker (d + 4) Q 60 0 0 13 [(0, .ref 0), (1, .int a1), (2, .int a2)] [.long (f_X0_itemsOfSpeaker_5 σ a1)] 60 mSH σ
    refine ru_lstore_n (lv1 := [(0, .ref 0), (1, .int a1), (2, .int a2), (3, .long (f_X0_itemsOfSpeaker_5 σ a1))]) dX7_speaker_13 rfl rfl (by decide) rfl ?_
    refine mK_iload_n dX7_speaker_14 rfl rfl (.tail _ (.tail _ (.head _))) ?_
    refine qsplit (a2 = 0) (fun c2 => ?_) (fun c2 => ?_)
    · refine mK_tabIn (tgt := 56) (off := 41) dX7_speaker_15 (by rw [c2]; decide) (by rw [c2]; decide) (by rw [c2]; rfl) (by decide) ?_
      refine mK_aload_n dX7_speaker_56 rfl rfl (.head _) ?_
      refine ru_getR (k := 2) (ci := 6) (a := 5) dX7_speaker_57 rfl rfl rfl kw_283 ?_
      refine mK_iload_n dX7_speaker_60 rfl rfl (.tail _ (.head _)) ?_
      refine mK_invV (J := M_X0_timeOf) (k := 1) (as := [.int a1]) (st := []) (c1 := 0) (s1 := 0) dX7_speaker_61 rfl jw_X0_timeOf jn_X0_timeOf rfl (Nat.le_of_ble_eq_true rfl) (Nat.zero_le _) (Nat.zero_le _) rfl kw_870 kw_538 kw_539 (b := 5) (Nat.le_of_ble_eq_true rfl) (Nat.le_of_ble_eq_true rfl) rfl ?_
      refine S_X0_timeOf_5 a1 ?_
      show mK Γ M_X7_speaker (d + 4) Q 60 0 0 64 [(0, .ref 0), (1, .int a1), (2, .int a2), (3, .long (f_X0_itemsOfSpeaker_5 σ a1))] [.int (f_X0_timeOf_5 σ a1)] 60 mSH σ
      exact mK_iret dX7_speaker_64 rfl ((h.2 c1).2.1 c2)
    · refine qsplit (a2 = 1) (fun c3 => ?_) (fun c3 => ?_)
      · refine mK_tabIn (tgt := 65) (off := 50) dX7_speaker_15 (by rw [c3]; decide) (by rw [c3]; decide) (by rw [c3]; rfl) (by decide) ?_
        refine mK_aload_n dX7_speaker_65 rfl rfl (.head _) ?_
        refine ru_getR (k := 3) (ci := 6) (a := 16) dX7_speaker_66 rfl rfl rfl kw_284 ?_
        refine mK_iload_n dX7_speaker_69 rfl rfl (.tail _ (.head _)) ?_
        refine mK_invV (J := M_X4_scoreOf) (k := 1) (as := [.int a1]) (st := []) (c1 := 0) (s1 := 0) dX7_speaker_70 rfl jw_X4_scoreOf jn_X4_scoreOf rfl (Nat.le_of_ble_eq_true rfl) (Nat.zero_le _) (Nat.zero_le _) rfl kw_702 kw_703 kw_704 (b := 16) (Nat.le_of_ble_eq_true rfl) (Nat.le_of_ble_eq_true rfl) rfl ?_
        exact (((h.2 c1).2.2 c2).1 c3)
      · refine qsplit (a2 = 2) (fun c4 => ?_) (fun c4 => ?_)
        · refine mK_tabIn (tgt := 74) (off := 59) dX7_speaker_15 (by rw [c4]; decide) (by rw [c4]; decide) (by rw [c4]; rfl) (by decide) ?_
          refine mK_aload_n dX7_speaker_74 rfl rfl (.head _) ?_
          refine ru_getR (k := 3) (ci := 6) (a := 16) dX7_speaker_75 rfl rfl rfl kw_284 ?_
          refine mK_iload_n dX7_speaker_78 rfl rfl (.tail _ (.head _)) ?_
          refine mK_invV (J := M_X4_leadOf) (k := 1) (as := [.int a1]) (st := []) (c1 := 0) (s1 := 0) dX7_speaker_79 rfl jw_X4_leadOf jn_X4_leadOf rfl (Nat.le_of_ble_eq_true rfl) (Nat.zero_le _) (Nat.zero_le _) rfl kw_871 kw_872 kw_873 (b := 16) (Nat.le_of_ble_eq_true rfl) (Nat.le_of_ble_eq_true rfl) rfl ?_
          exact ((((h.2 c1).2.2 c2).2 c3).1 c4)
        · refine qsplit (a2 = 3) (fun c5 => ?_) (fun c5 => ?_)
          · refine mK_tabIn (tgt := 83) (off := 68) dX7_speaker_15 (by rw [c5]; decide) (by rw [c5]; decide) (by rw [c5]; rfl) (by decide) ?_
            refine mK_lload_n dX7_speaker_83 rfl rfl (.tail _ (.tail _ (.tail _ (.head _)))) ?_
            refine mK_aload_n dX7_speaker_84 rfl rfl (.head _) ?_
            refine ru_getR (k := 2) (ci := 6) (a := 5) dX7_speaker_85 rfl rfl rfl kw_283 ?_
            refine mK_iconst dX7_speaker_88 rfl qic_0 ?_
            refine mK_invV (J := M_X0_itemsOfKind) (k := 1) (as := [.int 0]) (st := [.long (f_X0_itemsOfSpeaker_5 σ a1)]) (c1 := 0) (s1 := 0) dX7_speaker_89 rfl jw_X0_itemsOfKind jn_X0_itemsOfKind rfl (Nat.le_of_ble_eq_true rfl) (Nat.zero_le _) (Nat.zero_le _) rfl kw_751 kw_752 kw_753 (b := 5) (Nat.le_of_ble_eq_true rfl) (Nat.le_of_ble_eq_true rfl) rfl ?_
            refine S_X0_itemsOfKind_5 0 ((h.2 c1).1) ?_
            show mK Γ M_X7_speaker (d + 4) Q 60 0 0 92 [(0, .ref 0), (1, .int a1), (2, .int a2), (3, .long (f_X0_itemsOfSpeaker_5 σ a1))] [.long (f_X0_itemsOfKind_5 σ 0), .long (f_X0_itemsOfSpeaker_5 σ a1)] 60 mSH σ
            refine mK_land dX7_speaker_92 rfl ?_
            refine mK_invS (J := M_J13_bitCount_95d88) (k := 1) (as := [.long ((f_X0_itemsOfSpeaker_5 σ a1) &&& (f_X0_itemsOfKind_5 σ 0))]) (st := []) (c1 := 0) (s1 := 0) dX7_speaker_93 rfl jw_J13_bitCount_95d88 jn_J13_bitCount_95d88 rfl (Nat.le_of_ble_eq_true rfl) (Nat.zero_le _) (Nat.zero_le _) rfl kw_759 kw_760 ?_
            refine S_bitCount ((f_X0_itemsOfSpeaker_5 σ a1) &&& (f_X0_itemsOfKind_5 σ 0)) ?_
            show mK Γ M_X7_speaker (d + 4) Q 60 0 0 96 [(0, .ref 0), (1, .int a1), (2, .int a2), (3, .long (f_X0_itemsOfSpeaker_5 σ a1))] [.int (nI (mCnt (bB ((f_X0_itemsOfSpeaker_5 σ a1) &&& (f_X0_itemsOfKind_5 σ 0))) 64))] 60 mSH σ
            exact mK_iret dX7_speaker_96 rfl (((((h.2 c1).2.2 c2).2 c3).2 c4).1 c5)
          · refine qsplit (a2 = 4) (fun c6 => ?_) (fun c6 => ?_)
            · refine mK_tabIn (tgt := 97) (off := 82) dX7_speaker_15 (by rw [c6]; decide) (by rw [c6]; decide) (by rw [c6]; rfl) (by decide) ?_
              refine mK_lload_n dX7_speaker_97 rfl rfl (.tail _ (.tail _ (.tail _ (.head _)))) ?_
              refine mK_aload_n dX7_speaker_98 rfl rfl (.head _) ?_
              refine ru_getR (k := 2) (ci := 6) (a := 5) dX7_speaker_99 rfl rfl rfl kw_283 ?_
              refine mK_iconst dX7_speaker_102 rfl qic_1 ?_
              refine mK_invV (J := M_X0_itemsOfKind) (k := 1) (as := [.int 1]) (st := [.long (f_X0_itemsOfSpeaker_5 σ a1)]) (c1 := 0) (s1 := 0) dX7_speaker_103 rfl jw_X0_itemsOfKind jn_X0_itemsOfKind rfl (Nat.le_of_ble_eq_true rfl) (Nat.zero_le _) (Nat.zero_le _) rfl kw_751 kw_752 kw_753 (b := 5) (Nat.le_of_ble_eq_true rfl) (Nat.le_of_ble_eq_true rfl) rfl ?_
              refine S_X0_itemsOfKind_5 1 ((h.2 c1).1) ?_
              show mK Γ M_X7_speaker (d + 4) Q 60 0 0 106 [(0, .ref 0), (1, .int a1), (2, .int a2), (3, .long (f_X0_itemsOfSpeaker_5 σ a1))] [.long (f_X0_itemsOfKind_5 σ 1), .long (f_X0_itemsOfSpeaker_5 σ a1)] 60 mSH σ
              refine mK_land dX7_speaker_106 rfl ?_
              refine mK_invS (J := M_J13_bitCount_95d88) (k := 1) (as := [.long ((f_X0_itemsOfSpeaker_5 σ a1) &&& (f_X0_itemsOfKind_5 σ 1))]) (st := []) (c1 := 0) (s1 := 0) dX7_speaker_107 rfl jw_J13_bitCount_95d88 jn_J13_bitCount_95d88 rfl (Nat.le_of_ble_eq_true rfl) (Nat.zero_le _) (Nat.zero_le _) rfl kw_759 kw_760 ?_
              refine S_bitCount ((f_X0_itemsOfSpeaker_5 σ a1) &&& (f_X0_itemsOfKind_5 σ 1)) ?_
              show mK Γ M_X7_speaker (d + 4) Q 60 0 0 110 [(0, .ref 0), (1, .int a1), (2, .int a2), (3, .long (f_X0_itemsOfSpeaker_5 σ a1))] [.int (nI (mCnt (bB ((f_X0_itemsOfSpeaker_5 σ a1) &&& (f_X0_itemsOfKind_5 σ 1))) 64))] 60 mSH σ
              exact mK_iret dX7_speaker_110 rfl ((((((h.2 c1).2.2 c2).2 c3).2 c4).2 c5).1 c6)
            · refine qsplit (a2 = 5) (fun c7 => ?_) (fun c7 => ?_)
              · refine mK_tabIn (tgt := 111) (off := 96) dX7_speaker_15 (by rw [c7]; decide) (by rw [c7]; decide) (by rw [c7]; rfl) (by decide) ?_
                refine mK_lload_n dX7_speaker_111 rfl rfl (.tail _ (.tail _ (.tail _ (.head _)))) ?_
                refine mK_aload_n dX7_speaker_112 rfl rfl (.head _) ?_
                refine ru_getR (k := 2) (ci := 6) (a := 5) dX7_speaker_113 rfl rfl rfl kw_283 ?_
                refine mK_iconst dX7_speaker_116 rfl qic_2 ?_
                refine mK_invV (J := M_X0_itemsOfKind) (k := 1) (as := [.int 2]) (st := [.long (f_X0_itemsOfSpeaker_5 σ a1)]) (c1 := 0) (s1 := 0) dX7_speaker_117 rfl jw_X0_itemsOfKind jn_X0_itemsOfKind rfl (Nat.le_of_ble_eq_true rfl) (Nat.zero_le _) (Nat.zero_le _) rfl kw_751 kw_752 kw_753 (b := 5) (Nat.le_of_ble_eq_true rfl) (Nat.le_of_ble_eq_true rfl) rfl ?_
                refine S_X0_itemsOfKind_5 2 ((h.2 c1).1) ?_
                show mK Γ M_X7_speaker (d + 4) Q 60 0 0 120 [(0, .ref 0), (1, .int a1), (2, .int a2), (3, .long (f_X0_itemsOfSpeaker_5 σ a1))] [.long (f_X0_itemsOfKind_5 σ 2), .long (f_X0_itemsOfSpeaker_5 σ a1)] 60 mSH σ
                refine mK_land dX7_speaker_120 rfl ?_
                refine mK_invS (J := M_J13_bitCount_95d88) (k := 1) (as := [.long ((f_X0_itemsOfSpeaker_5 σ a1) &&& (f_X0_itemsOfKind_5 σ 2))]) (st := []) (c1 := 0) (s1 := 0) dX7_speaker_121 rfl jw_J13_bitCount_95d88 jn_J13_bitCount_95d88 rfl (Nat.le_of_ble_eq_true rfl) (Nat.zero_le _) (Nat.zero_le _) rfl kw_759 kw_760 ?_
                refine S_bitCount ((f_X0_itemsOfSpeaker_5 σ a1) &&& (f_X0_itemsOfKind_5 σ 2)) ?_
                show mK Γ M_X7_speaker (d + 4) Q 60 0 0 124 [(0, .ref 0), (1, .int a1), (2, .int a2), (3, .long (f_X0_itemsOfSpeaker_5 σ a1))] [.int (nI (mCnt (bB ((f_X0_itemsOfSpeaker_5 σ a1) &&& (f_X0_itemsOfKind_5 σ 2))) 64))] 60 mSH σ
                exact mK_iret dX7_speaker_124 rfl (((((((h.2 c1).2.2 c2).2 c3).2 c4).2 c5).2 c6).1 c7)
              · refine qsplit (a2 = 6) (fun c8 => ?_) (fun c8 => ?_)
                · refine mK_tabIn (tgt := 125) (off := 110) dX7_speaker_15 (by rw [c8]; decide) (by rw [c8]; decide) (by rw [c8]; rfl) (by decide) ?_
                  refine mK_lload_n dX7_speaker_125 rfl rfl (.tail _ (.tail _ (.tail _ (.head _)))) ?_
                  refine mK_aload_n dX7_speaker_126 rfl rfl (.head _) ?_
                  refine ru_getR (k := 2) (ci := 6) (a := 5) dX7_speaker_127 rfl rfl rfl kw_283 ?_
                  refine mK_invV (J := M_X0_concededItems) (k := 0) (as := []) (st := [.long (f_X0_itemsOfSpeaker_5 σ a1)]) (c1 := 0) (s1 := 0) dX7_speaker_130 rfl jw_X0_concededItems jn_X0_concededItems rfl (Nat.le_of_ble_eq_true rfl) (Nat.zero_le _) (Nat.zero_le _) rfl kw_784 kw_595 kw_596 (b := 5) (Nat.le_of_ble_eq_true rfl) (Nat.le_of_ble_eq_true rfl) rfl ?_
                  refine S_X0_concededItems_5  ?_
                  show mK Γ M_X7_speaker (d + 4) Q 60 0 0 133 [(0, .ref 0), (1, .int a1), (2, .int a2), (3, .long (f_X0_itemsOfSpeaker_5 σ a1))] [.long (f_X0_concededItems_5 σ), .long (f_X0_itemsOfSpeaker_5 σ a1)] 60 mSH σ
                  refine mK_land dX7_speaker_133 rfl ?_
                  refine mK_invS (J := M_J13_bitCount_95d88) (k := 1) (as := [.long ((f_X0_itemsOfSpeaker_5 σ a1) &&& (f_X0_concededItems_5 σ))]) (st := []) (c1 := 0) (s1 := 0) dX7_speaker_134 rfl jw_J13_bitCount_95d88 jn_J13_bitCount_95d88 rfl (Nat.le_of_ble_eq_true rfl) (Nat.zero_le _) (Nat.zero_le _) rfl kw_759 kw_760 ?_
                  refine S_bitCount ((f_X0_itemsOfSpeaker_5 σ a1) &&& (f_X0_concededItems_5 σ)) ?_
                  show mK Γ M_X7_speaker (d + 4) Q 60 0 0 137 [(0, .ref 0), (1, .int a1), (2, .int a2), (3, .long (f_X0_itemsOfSpeaker_5 σ a1))] [.int (nI (mCnt (bB ((f_X0_itemsOfSpeaker_5 σ a1) &&& (f_X0_concededItems_5 σ))) 64))] 60 mSH σ
                  exact mK_iret dX7_speaker_137 rfl ((((((((h.2 c1).2.2 c2).2 c3).2 c4).2 c5).2 c6).2 c7).1 c8)
                · refine mK_tabOut (tgt := 138) dX7_speaker_15 (qtab_7 c2 c3 c4 c5 c6 c7 c8) (by decide) ?_
                  exact False.elim ((((((((h.2 c1).2.2 c2).2 c3).2 c4).2 c5).2 c6).2 c7).2 c8)
