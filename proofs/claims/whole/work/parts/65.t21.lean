
theorem S_packedL {Γ : Nat × (Nat → Int32)} {d : Nat} {Q : mQ} {N : Nat} {sh : mH} {σ : mS} (a : Nat) (h : 1200 ≤ a ∧ a < 1221) (hQ : Q (.inl (some (.long (mKy (a - 1200))))) N sh σ) : mCall Γ M_X9_packed (d + 5) 0 0 [.ref a] N sh σ Q := by
  obtain ⟨i, rfl⟩ : ∃ i, a = 1200 + i := ⟨a - 1200, by omega⟩
  rw [Nat.add_sub_cancel_left] at hQ
  exact S_packed (by omega) hQ
set_option maxRecDepth 20000 in
theorem E_X3_appendWord_3 {Γ : Nat × (Nat → Int32)} {d : Nat} {Q : mQ} {σ : mS} (a1 : Int64) (h : mK Γ M_X3_appendWord (d + 2) Q 60 0 0 3 [(0, .ref 3), (1, .long a1), (3, .int 56)] [] 60 mSH σ) : mCall Γ M_X3_appendWord (d + 2) 0 0 [.ref 3, .long a1] 60 mSH σ Q := by
  refine mCall_of rfl (by decide) (Nat.le_of_ble_eq_true rfl) (mOkC (mOk_lo (Nat.le_of_ble_eq_true rfl)) (mOkC mOk_l mOkN)) ?_
  show mK Γ M_X3_appendWord (d + 2) Q 60 0 0 0 [(0, .ref 3), (1, .long a1)] [] 60 mSH σ
  refine mK_bipush dX3_appendWord_0 rfl qbi_56 ?_
  refine ru_istore_n (lv1 := [(0, .ref 3), (1, .long a1), (3, .int 56)]) dX3_appendWord_2 rfl rfl (by decide) rfl ?_
  exact h
set_option maxRecDepth 20000 in
theorem T_X3_appendWord_3_3 {Γ : Nat × (Nat → Int32)} {d n0 bc bs : Nat} {Q : mQ} {σ : mS} (x1 : Int64) (x3 : Int32) (h : ((x3 < 0 → Q (.inl none) 60 mSH σ) ∧ (¬ (x3 < 0) → ((((Int64.toInt32 (x1 >>> (Int32.toInt64 x3 &&& 63))) &&& 255) = 0 → mK Γ M_X3_appendWord (d + 2) Q n0 bc bs 3 [(0, .ref 3), (1, .long x1), (3, .int (x3 + (-8)))] [] 60 mSH σ) ∧ (¬ (((Int64.toInt32 (x1 >>> (Int32.toInt64 x3 &&& 63))) &&& 255) = 0) → mK Γ M_X3_appendWord (d + 2) Q n0 bc bs 3 [(0, .ref 3), (1, .long x1), (3, .int (x3 + (-8)))] [] 60 mSH (g_X3_append_3 σ ((Int64.toInt32 (x1 >>> (Int32.toInt64 x3 &&& 63))) &&& 255))))))) : mK Γ M_X3_appendWord (d + 2) Q n0 bc bs 3 [(0, .ref 3), (1, .long x1), (3, .int x3)] [] 60 mSH σ := by
  refine mK_iload_n dX3_appendWord_3 rfl rfl (.tail _ (.tail _ (.head _))) ?_
  refine mK_if_lt (tgt := 34) dX3_appendWord_4 rfl (by decide) (fun c1 => ?_) (fun c1 => ?_)
  · exact mK_vret dX3_appendWord_34 rfl (h.1 c1)
  · refine mK_lload_n dX3_appendWord_7 rfl rfl (.tail _ (.head _)) ?_
    refine mK_iload_n dX3_appendWord_8 rfl rfl (.tail _ (.tail _ (.head _))) ?_
    refine mK_lshr dX3_appendWord_9 rfl ?_
    refine mK_l2i dX3_appendWord_10 rfl ?_
    refine mK_sipush dX3_appendWord_11 rfl qsi_255 ?_
    refine mK_iand dX3_appendWord_14 rfl ?_
    refine ru_istore (lv1 := [(0, .ref 3), (1, .long x1), (3, .int x3), (4, .int ((Int64.toInt32 (x1 >>> (Int32.toInt64 x3 &&& 63))) &&& 255))]) dX3_appendWord_15 rfl (by decide) rfl ?_
    refine mK_iload dX3_appendWord_17 rfl (.tail _ (.tail _ (.tail _ (.head _)))) ?_
    refine mK_if_eq (tgt := 28) dX3_appendWord_19 rfl (by decide) (fun c2 => ?_) (fun c2 => ?_)
    · refine ru_iinc (lv1 := [(0, .ref 3), (1, .long x1), (3, .int (x3 + (-8))), (4, .int ((Int64.toInt32 (x1 >>> (Int32.toInt64 x3 &&& 63))) &&& 255))]) dX3_appendWord_28 rfl (.tail _ (.tail _ (.head _))) qic_m8 (by decide) rfl ?_
      refine mK_goto (tgt := 3) dX3_appendWord_31 (by decide) ?_
      exact ru_pick [0, 1, 2] rfl ((h.2 c1).1 c2)
    · refine mK_aload_n dX3_appendWord_22 rfl rfl (.head _) ?_
      refine mK_iload dX3_appendWord_23 rfl (.tail _ (.tail _ (.tail _ (.head _)))) ?_
      refine mK_invV (J := M_X3_append) (k := 1) (as := [.int ((Int64.toInt32 (x1 >>> (Int32.toInt64 x3 &&& 63))) &&& 255)]) (st := []) (c1 := 0) (s1 := 0) dX3_appendWord_25 rfl jw_X3_append jn_X3_append rfl (Nat.le_of_ble_eq_true rfl) (Nat.zero_le _) (Nat.zero_le _) rfl kw_731 kw_732 kw_733 (b := 3) (Nat.le_of_ble_eq_true rfl) (Nat.le_of_ble_eq_true rfl) rfl ?_
      refine S_X3_append_3 ((Int64.toInt32 (x1 >>> (Int32.toInt64 x3 &&& 63))) &&& 255) ?_
      show mK Γ M_X3_appendWord (d + 2) Q n0 bc bs 28 [(0, .ref 3), (1, .long x1), (3, .int x3), (4, .int ((Int64.toInt32 (x1 >>> (Int32.toInt64 x3 &&& 63))) &&& 255))] [] 60 mSH (g_X3_append_3 σ ((Int64.toInt32 (x1 >>> (Int32.toInt64 x3 &&& 63))) &&& 255))
      refine ru_iinc (lv1 := [(0, .ref 3), (1, .long x1), (3, .int (x3 + (-8))), (4, .int ((Int64.toInt32 (x1 >>> (Int32.toInt64 x3 &&& 63))) &&& 255))]) dX3_appendWord_28 rfl (.tail _ (.tail _ (.head _))) qic_m8 (by decide) rfl ?_
      refine mK_goto (tgt := 3) dX3_appendWord_31 (by decide) ?_
      exact ru_pick [0, 1, 2] rfl ((h.2 c1).2 c2)
set_option maxRecDepth 20000 in
theorem E_X9_print__26 {Γ : Nat × (Nat → Int32)} {d : Nat} {Q : mQ} {σ : mS} (a1 : Int64) (h : mK Γ M_X9_print_ (d + 2) Q 60 0 0 3 [(0, .ref 26), (1, .long a1), (3, .int 56)] [] 60 mSH σ) : mCall Γ M_X9_print_ (d + 2) 0 0 [.ref 26, .long a1] 60 mSH σ Q := by
  refine mCall_of rfl (by decide) (Nat.le_of_ble_eq_true rfl) (mOkC (mOk_lo (Nat.le_of_ble_eq_true rfl)) (mOkC mOk_l mOkN)) ?_
  show mK Γ M_X9_print_ (d + 2) Q 60 0 0 0 [(0, .ref 26), (1, .long a1)] [] 60 mSH σ
  refine mK_bipush dX9_print__0 rfl qbi_56 ?_
  refine ru_istore_n (lv1 := [(0, .ref 26), (1, .long a1), (3, .int 56)]) dX9_print__2 rfl rfl (by decide) rfl ?_
  exact h
set_option maxRecDepth 20000 in
theorem T_X9_print__26_3 {Γ : Nat × (Nat → Int32)} {d n0 bc bs : Nat} {Q : mQ} {σ : mS} (x1 : Int64) (x3 : Int32) (h : ((((x1 >>> (Int32.toInt64 x3 &&& 63)) &&& 255) = 0 → mK Γ M_X9_print_ (d + 2) Q n0 bc bs 3 [(0, .ref 26), (1, .long x1), (3, .int (x3 + (-8)))] [] 60 mSH σ) ∧ (¬ (((x1 >>> (Int32.toInt64 x3 &&& 63)) &&& 255) = 0) → mK Γ M_X9_print_ (d + 2) Q n0 bc bs 21 [(0, .ref 26), (1, .long x1), (3, .int x3)] [] 60 mSH σ))) : mK Γ M_X9_print_ (d + 2) Q n0 bc bs 3 [(0, .ref 26), (1, .long x1), (3, .int x3)] [] 60 mSH σ := by
  refine mK_lload_n dX9_print__3 rfl rfl (.tail _ (.head _)) ?_
  refine mK_iload_n dX9_print__4 rfl rfl (.tail _ (.tail _ (.head _))) ?_
  refine mK_lshr dX9_print__5 rfl ?_
  refine mK_ldc2 dX9_print__6 rfl kw_1579 ?_
  refine mK_land dX9_print__9 rfl ?_
  refine mK_lconst dX9_print__10 rfl (v := 0) rfl ?_
  refine ru_lif_ne (tgt := 21) dX9_print__11 rfl dX9_print__12 rfl (by decide) (fun c1 => ?_) (fun c1 => ?_)
  · exact (h.2 c1)
  · refine ru_iinc (lv1 := [(0, .ref 26), (1, .long x1), (3, .int (x3 + (-8)))]) dX9_print__15 rfl (.tail _ (.tail _ (.head _))) qic_m8 (by decide) rfl ?_
    refine mK_goto (tgt := 3) dX9_print__18 (by decide) ?_
    exact (h.1 c1)
set_option maxRecDepth 20000 in
theorem T_X9_print__26_21 {Γ : Nat × (Nat → Int32)} {d n0 bc bs : Nat} {Q : mQ} {σ : mS} (x1 : Int64) (x3 : Int32) (h : ((x3 < 0 → Q (.inl none) 60 mSH σ) ∧ (¬ (x3 < 0) → ((vp_in (σ.1 26 4) 1280) ∧ mK Γ M_X9_print_ (d + 2) Q n0 bc bs 21 [(0, .ref 26), (1, .long x1), (3, .int (x3 + (-8)))] [] 60 mSH (g_X9_print_26 σ (Int64.toInt32 ((x1 >>> (Int32.toInt64 x3 &&& 63)) &&& 255))))))) : mK Γ M_X9_print_ (d + 2) Q n0 bc bs 21 [(0, .ref 26), (1, .long x1), (3, .int x3)] [] 60 mSH σ := by
  refine mK_iload_n dX9_print__21 rfl rfl (.tail _ (.tail _ (.head _))) ?_
  refine mK_if_lt (tgt := 43) dX9_print__22 rfl (by decide) (fun c1 => ?_) (fun c1 => ?_)
  · exact mK_vret dX9_print__43 rfl (h.1 c1)
  · refine mK_aload_n dX9_print__25 rfl rfl (.head _) ?_
    refine mK_lload_n dX9_print__26 rfl rfl (.tail _ (.head _)) ?_
    refine mK_iload_n dX9_print__27 rfl rfl (.tail _ (.tail _ (.head _))) ?_
    refine mK_lshr dX9_print__28 rfl ?_
    refine mK_ldc2 dX9_print__29 rfl kw_1579 ?_
    refine mK_land dX9_print__32 rfl ?_
    refine mK_l2i dX9_print__33 rfl ?_
    refine mK_invV (J := M_X9_print) (k := 1) (as := [.int (Int64.toInt32 ((x1 >>> (Int32.toInt64 x3 &&& 63)) &&& 255))]) (st := []) (c1 := 0) (s1 := 0) dX9_print__34 rfl jw_X9_print jn_X9_print rfl (Nat.le_of_ble_eq_true rfl) (Nat.zero_le _) (Nat.zero_le _) rfl kw_1580 kw_1582 kw_85 (b := 26) (Nat.le_of_ble_eq_true rfl) (Nat.le_of_ble_eq_true rfl) rfl ?_
    refine S_X9_print_26 (Int64.toInt32 ((x1 >>> (Int32.toInt64 x3 &&& 63)) &&& 255)) ((h.2 c1).1) ?_
    show mK Γ M_X9_print_ (d + 2) Q n0 bc bs 37 [(0, .ref 26), (1, .long x1), (3, .int x3)] [] 60 mSH (g_X9_print_26 σ (Int64.toInt32 ((x1 >>> (Int32.toInt64 x3 &&& 63)) &&& 255)))
    refine ru_iinc (lv1 := [(0, .ref 26), (1, .long x1), (3, .int (x3 + (-8)))]) dX9_print__37 rfl (.tail _ (.tail _ (.head _))) qic_m8 (by decide) rfl ?_
    refine mK_goto (tgt := 21) dX9_print__40 (by decide) ?_
    exact (h.2 c1).2
set_option maxRecDepth 20000 in
theorem E_X7_sheet_0 {Γ : Nat × (Nat → Int32)} {d : Nat} {Q : mQ} {σ : mS} (h : mK Γ M_X7_sheet (d + 3) Q 60 0 0 10 [(0, .ref 0), (1, .int 0)] [] 60 mSH (g_X3_shortenTo_3 σ 0)) : mCall Γ M_X7_sheet (d + 3) 0 0 [.ref 0] 60 mSH σ Q := by
  refine mCall_of rfl (by decide) (Nat.le_of_ble_eq_true rfl) (mOkC (mOk_lo (Nat.le_of_ble_eq_true rfl)) mOkN) ?_
  show mK Γ M_X7_sheet (d + 3) Q 60 0 0 0 [(0, .ref 0)] [] 60 mSH σ
  refine mK_aload_n dX7_sheet_0 rfl rfl (.head _) ?_
  refine ru_getR (k := 1) (ci := 6) (a := 3) dX7_sheet_1 rfl rfl rfl kw_282 ?_
  refine mK_iconst dX7_sheet_4 rfl qic_0 ?_
  refine mK_invV (J := M_X3_shortenTo) (k := 1) (as := [.int 0]) (st := []) (c1 := 0) (s1 := 0) dX7_sheet_5 rfl jw_X3_shortenTo jn_X3_shortenTo rfl (Nat.le_of_ble_eq_true rfl) (Nat.zero_le _) (Nat.zero_le _) rfl kw_365 kw_366 kw_367 (b := 3) (Nat.le_of_ble_eq_true rfl) (Nat.le_of_ble_eq_true rfl) rfl ?_
  refine S_X3_shortenTo_3 0 ?_
  show mK Γ M_X7_sheet (d + 3) Q 60 0 0 8 [(0, .ref 0)] [] 60 mSH (g_X3_shortenTo_3 σ 0)
  refine mK_iconst dX7_sheet_8 rfl qic_0 ?_
  refine ru_istore_n (lv1 := [(0, .ref 0), (1, .int 0)]) dX7_sheet_9 rfl rfl (by decide) rfl ?_
  exact h
set_option maxRecDepth 20000 in
theorem T_X7_sheet_0_10 {Γ : Nat × (Nat → Int32)} {d n0 bc bs : Nat} {Q : mQ} {σ : mS} (x1 : Int32) (h : (((f_X0_items_5 σ) ≤ x1 → Q (.inl (some (.int (f_X3_length_3 σ)))) 60 mSH σ) ∧ (¬ ((f_X0_items_5 σ) ≤ x1) → mCall Γ M_X3_appendWord (d + 2) 0 0 [.ref 3, .long (f_X0_nameOfItem_5 σ x1)] 60 mSH σ (mRt Γ M_X7_sheet (d + 3) Q n0 bc bs 36 [(0, .ref 0), (1, .int x1)] [])))) : mK Γ M_X7_sheet (d + 3) Q n0 bc bs 10 [(0, .ref 0), (1, .int x1)] [] 60 mSH σ := by
  refine mK_iload_n dX7_sheet_10 rfl rfl (.tail _ (.head _)) ?_
  refine mK_aload_n dX7_sheet_11 rfl rfl (.head _) ?_
  refine ru_getR (k := 2) (ci := 6) (a := 5) dX7_sheet_12 rfl rfl rfl kw_283 ?_
  refine mK_invV (J := M_X0_items) (k := 0) (as := []) (st := [.int x1]) (c1 := 0) (s1 := 0) dX7_sheet_15 rfl jw_X0_items jn_X0_items rfl (Nat.le_of_ble_eq_true rfl) (Nat.zero_le _) (Nat.zero_le _) rfl kw_722 kw_529 kw_530 (b := 5) (Nat.le_of_ble_eq_true rfl) (Nat.le_of_ble_eq_true rfl) rfl ?_
  refine S_X0_items_5  ?_
  show mK Γ M_X7_sheet (d + 3) Q n0 bc bs 18 [(0, .ref 0), (1, .int x1)] [.int (f_X0_items_5 σ), .int x1] 60 mSH σ
  refine mK_icmp_ge (tgt := 109) dX7_sheet_18 rfl (by decide) (fun c1 => ?_) (fun c1 => ?_)
  · refine mK_aload_n dX7_sheet_109 rfl rfl (.head _) ?_
    refine ru_getR (k := 1) (ci := 6) (a := 3) dX7_sheet_110 rfl rfl rfl kw_282 ?_
    refine mK_invV (J := M_X3_length) (k := 0) (as := []) (st := []) (c1 := 0) (s1 := 0) dX7_sheet_113 rfl jw_X3_length jn_X3_length rfl (Nat.le_of_ble_eq_true rfl) (Nat.zero_le _) (Nat.zero_le _) rfl kw_746 kw_321 kw_322 (b := 3) (Nat.le_of_ble_eq_true rfl) (Nat.le_of_ble_eq_true rfl) rfl ?_
    refine S_X3_length_3  ?_
    show mK Γ M_X7_sheet (d + 3) Q n0 bc bs 116 [(0, .ref 0), (1, .int x1)] [.int (f_X3_length_3 σ)] 60 mSH σ
    exact mK_iret dX7_sheet_116 rfl (h.1 c1)
  · refine mK_aload_n dX7_sheet_21 rfl rfl (.head _) ?_
    refine ru_getR (k := 1) (ci := 6) (a := 3) dX7_sheet_22 rfl rfl rfl kw_282 ?_
    refine mK_aload_n dX7_sheet_25 rfl rfl (.head _) ?_
    refine ru_getR (k := 2) (ci := 6) (a := 5) dX7_sheet_26 rfl rfl rfl kw_283 ?_
    refine mK_iload_n dX7_sheet_29 rfl rfl (.tail _ (.head _)) ?_
    refine mK_invV (J := M_X0_nameOfItem) (k := 1) (as := [.int x1]) (st := [.ref 3]) (c1 := 0) (s1 := 0) dX7_sheet_30 rfl jw_X0_nameOfItem jn_X0_nameOfItem rfl (Nat.le_of_ble_eq_true rfl) (Nat.zero_le _) (Nat.zero_le _) rfl kw_723 kw_724 kw_725 (b := 5) (Nat.le_of_ble_eq_true rfl) (Nat.le_of_ble_eq_true rfl) rfl ?_
    refine S_X0_nameOfItem_5 x1 ?_
    show mK Γ M_X7_sheet (d + 3) Q n0 bc bs 33 [(0, .ref 0), (1, .int x1)] [.long (f_X0_nameOfItem_5 σ x1), .ref 3] 60 mSH σ
    refine mK_invV (J := M_X3_appendWord) (k := 1) (as := [.long (f_X0_nameOfItem_5 σ x1)]) (st := []) (c1 := 0) (s1 := 0) dX7_sheet_33 rfl jw_X3_appendWord jn_X3_appendWord rfl (Nat.le_of_ble_eq_true rfl) (Nat.zero_le _) (Nat.zero_le _) rfl kw_727 kw_728 kw_729 (b := 3) (Nat.le_of_ble_eq_true rfl) (Nat.le_of_ble_eq_true rfl) rfl ?_
    exact (h.2 c1)
set_option maxRecDepth 20000 in
theorem T_X7_sheet_0_36a {Γ : Nat × (Nat → Int32)} {d n0 bc bs : Nat} {Q : mQ} {σ : mS} (x1 : Int32) (h : mCall Γ M_X3_appendWord (d + 2) 0 0 [.ref 3, .long (f_X0_nameOfSpeaker_5 (g_X3_append_3 σ 32) (f_X0_speakerOf_5 (g_X3_append_3 σ 32) x1))] 60 mSH (g_X3_append_3 σ 32) (mRt Γ M_X7_sheet (d + 3) Q n0 bc bs 67 [(0, .ref 0), (1, .int x1)] [])) : mRt Γ M_X7_sheet (d + 3) Q n0 bc bs 36 [(0, .ref 0), (1, .int x1)] [] (.inl none) 60 mSH σ := by
  show mK Γ M_X7_sheet (d + 3) Q n0 bc bs 36 [(0, .ref 0), (1, .int x1)] [] 60 mSH σ
  refine mK_aload_n dX7_sheet_36 rfl rfl (.head _) ?_
  refine ru_getR (k := 1) (ci := 6) (a := 3) dX7_sheet_37 rfl rfl rfl kw_282 ?_
  refine mK_bipush dX7_sheet_40 rfl qbi_32 ?_
  refine mK_invV (J := M_X3_append) (k := 1) (as := [.int 32]) (st := []) (c1 := 0) (s1 := 0) dX7_sheet_42 rfl jw_X3_append jn_X3_append rfl (Nat.le_of_ble_eq_true rfl) (Nat.zero_le _) (Nat.zero_le _) rfl kw_735 kw_732 kw_733 (b := 3) (Nat.le_of_ble_eq_true rfl) (Nat.le_of_ble_eq_true rfl) rfl ?_
  refine S_X3_append_3 32 ?_
  show mK Γ M_X7_sheet (d + 3) Q n0 bc bs 45 [(0, .ref 0), (1, .int x1)] [] 60 mSH (g_X3_append_3 σ 32)
  refine mK_aload_n dX7_sheet_45 rfl rfl (.head _) ?_
  refine ru_getR (k := 1) (ci := 6) (a := 3) dX7_sheet_46 rfl rfl rfl kw_282 ?_
  refine mK_aload_n dX7_sheet_49 rfl rfl (.head _) ?_
  refine ru_getR (k := 2) (ci := 6) (a := 5) dX7_sheet_50 rfl rfl rfl kw_283 ?_
  refine mK_aload_n dX7_sheet_53 rfl rfl (.head _) ?_
  refine ru_getR (k := 2) (ci := 6) (a := 5) dX7_sheet_54 rfl rfl rfl kw_283 ?_
  refine mK_iload_n dX7_sheet_57 rfl rfl (.tail _ (.head _)) ?_
  refine mK_invV (J := M_X0_speakerOf) (k := 1) (as := [.int x1]) (st := [.ref 5, .ref 3]) (c1 := 0) (s1 := 0) dX7_sheet_58 rfl jw_X0_speakerOf jn_X0_speakerOf rfl (Nat.le_of_ble_eq_true rfl) (Nat.zero_le _) (Nat.zero_le _) rfl kw_736 kw_585 kw_586 (b := 5) (Nat.le_of_ble_eq_true rfl) (Nat.le_of_ble_eq_true rfl) rfl ?_
  refine S_X0_speakerOf_5 x1 ?_
  show mK Γ M_X7_sheet (d + 3) Q n0 bc bs 61 [(0, .ref 0), (1, .int x1)] [.int (f_X0_speakerOf_5 (g_X3_append_3 σ 32) x1), .ref 5, .ref 3] 60 mSH (g_X3_append_3 σ 32)
  refine mK_invV (J := M_X0_nameOfSpeaker) (k := 1) (as := [.int (f_X0_speakerOf_5 (g_X3_append_3 σ 32) x1)]) (st := [.ref 3]) (c1 := 0) (s1 := 0) dX7_sheet_61 rfl jw_X0_nameOfSpeaker jn_X0_nameOfSpeaker rfl (Nat.le_of_ble_eq_true rfl) (Nat.zero_le _) (Nat.zero_le _) rfl kw_737 kw_738 kw_739 (b := 5) (Nat.le_of_ble_eq_true rfl) (Nat.le_of_ble_eq_true rfl) rfl ?_
  refine S_X0_nameOfSpeaker_5 (f_X0_speakerOf_5 (g_X3_append_3 σ 32) x1) ?_
  show mK Γ M_X7_sheet (d + 3) Q n0 bc bs 64 [(0, .ref 0), (1, .int x1)] [.long (f_X0_nameOfSpeaker_5 (g_X3_append_3 σ 32) (f_X0_speakerOf_5 (g_X3_append_3 σ 32) x1)), .ref 3] 60 mSH (g_X3_append_3 σ 32)
  refine mK_invV (J := M_X3_appendWord) (k := 1) (as := [.long (f_X0_nameOfSpeaker_5 (g_X3_append_3 σ 32) (f_X0_speakerOf_5 (g_X3_append_3 σ 32) x1))]) (st := []) (c1 := 0) (s1 := 0) dX7_sheet_64 rfl jw_X3_appendWord jn_X3_appendWord rfl (Nat.le_of_ble_eq_true rfl) (Nat.zero_le _) (Nat.zero_le _) rfl kw_727 kw_728 kw_729 (b := 3) (Nat.le_of_ble_eq_true rfl) (Nat.le_of_ble_eq_true rfl) rfl ?_
  exact h
set_option maxRecDepth 20000 in
theorem T_X7_sheet_0_67a {Γ : Nat × (Nat → Int32)} {d n0 bc bs : Nat} {Q : mQ} {σ : mS} (x1 : Int32) (h : ((1000 ≤ (f_X4_wordFor_16 (g_X3_append_3 σ 32) x1) ∧ (f_X4_wordFor_16 (g_X3_append_3 σ 32) x1) < 1028) ∧ mCall Γ M_X3_appendWord (d + 2) 0 0 [.ref 3, .long (f_X2_code (g_X3_append_3 σ 32) (f_X4_wordFor_16 (g_X3_append_3 σ 32) x1))] 60 mSH (g_X3_append_3 σ 32) (mRt Γ M_X7_sheet (d + 3) Q n0 bc bs 94 [(0, .ref 0), (1, .int x1)] []))) : mRt Γ M_X7_sheet (d + 3) Q n0 bc bs 67 [(0, .ref 0), (1, .int x1)] [] (.inl none) 60 mSH σ := by
  show mK Γ M_X7_sheet (d + 3) Q n0 bc bs 67 [(0, .ref 0), (1, .int x1)] [] 60 mSH σ
  refine mK_aload_n dX7_sheet_67 rfl rfl (.head _) ?_
  refine ru_getR (k := 1) (ci := 6) (a := 3) dX7_sheet_68 rfl rfl rfl kw_282 ?_
  refine mK_bipush dX7_sheet_71 rfl qbi_32 ?_
  refine mK_invV (J := M_X3_append) (k := 1) (as := [.int 32]) (st := []) (c1 := 0) (s1 := 0) dX7_sheet_73 rfl jw_X3_append jn_X3_append rfl (Nat.le_of_ble_eq_true rfl) (Nat.zero_le _) (Nat.zero_le _) rfl kw_735 kw_732 kw_733 (b := 3) (Nat.le_of_ble_eq_true rfl) (Nat.le_of_ble_eq_true rfl) rfl ?_
  refine S_X3_append_3 32 ?_
  show mK Γ M_X7_sheet (d + 3) Q n0 bc bs 76 [(0, .ref 0), (1, .int x1)] [] 60 mSH (g_X3_append_3 σ 32)
  refine mK_aload_n dX7_sheet_76 rfl rfl (.head _) ?_
  refine ru_getR (k := 1) (ci := 6) (a := 3) dX7_sheet_77 rfl rfl rfl kw_282 ?_
  refine mK_aload_n dX7_sheet_80 rfl rfl (.head _) ?_
  refine ru_getR (k := 3) (ci := 6) (a := 16) dX7_sheet_81 rfl rfl rfl kw_284 ?_
  refine mK_iload_n dX7_sheet_84 rfl rfl (.tail _ (.head _)) ?_
  refine mK_invV (J := M_X4_wordFor) (k := 1) (as := [.int x1]) (st := [.ref 3]) (c1 := 0) (s1 := 0) dX7_sheet_85 rfl jw_X4_wordFor jn_X4_wordFor rfl (Nat.le_of_ble_eq_true rfl) (Nat.zero_le _) (Nat.zero_le _) rfl kw_741 kw_660 kw_661 (b := 16) (Nat.le_of_ble_eq_true rfl) (Nat.le_of_ble_eq_true rfl) rfl ?_
  refine S_X4_wordFor_16 x1 ?_
  show mK Γ M_X7_sheet (d + 3) Q n0 bc bs 88 [(0, .ref 0), (1, .int x1)] [.ref (f_X4_wordFor_16 (g_X3_append_3 σ 32) x1), .ref 3] 60 mSH (g_X3_append_3 σ 32)
  refine mK_invVk (J := M_X2_code) (k := 0) (as := []) (st := [.ref 3]) (c1 := 0) (s1 := 0) dX7_sheet_88 rfl jw_X2_code jn_X2_code rfl (Nat.le_of_ble_eq_true rfl) (Nat.zero_le _) (Nat.zero_le _) rfl kw_742 kw_743 kw_744 (h.1) rfl ?_
  refine S_X2_code (f_X4_wordFor_16 (g_X3_append_3 σ 32) x1) (h.1) ?_
  show mK Γ M_X7_sheet (d + 3) Q n0 bc bs 91 [(0, .ref 0), (1, .int x1)] [.long (f_X2_code (g_X3_append_3 σ 32) (f_X4_wordFor_16 (g_X3_append_3 σ 32) x1)), .ref 3] 60 mSH (g_X3_append_3 σ 32)
  refine mK_invV (J := M_X3_appendWord) (k := 1) (as := [.long (f_X2_code (g_X3_append_3 σ 32) (f_X4_wordFor_16 (g_X3_append_3 σ 32) x1))]) (st := []) (c1 := 0) (s1 := 0) dX7_sheet_91 rfl jw_X3_appendWord jn_X3_appendWord rfl (Nat.le_of_ble_eq_true rfl) (Nat.zero_le _) (Nat.zero_le _) rfl kw_727 kw_728 kw_729 (b := 3) (Nat.le_of_ble_eq_true rfl) (Nat.le_of_ble_eq_true rfl) rfl ?_
  exact h.2
set_option maxRecDepth 20000 in
theorem T_X7_sheet_0_94a {Γ : Nat × (Nat → Int32)} {d n0 bc bs : Nat} {Q : mQ} {σ : mS} (x1 : Int32) (h : mK Γ M_X7_sheet (d + 3) Q n0 bc bs 10 [(0, .ref 0), (1, .int (x1 + 1))] [] 60 mSH (g_X3_append_3 σ 10)) : mRt Γ M_X7_sheet (d + 3) Q n0 bc bs 94 [(0, .ref 0), (1, .int x1)] [] (.inl none) 60 mSH σ := by
  show mK Γ M_X7_sheet (d + 3) Q n0 bc bs 94 [(0, .ref 0), (1, .int x1)] [] 60 mSH σ
  refine mK_aload_n dX7_sheet_94 rfl rfl (.head _) ?_
  refine ru_getR (k := 1) (ci := 6) (a := 3) dX7_sheet_95 rfl rfl rfl kw_282 ?_
  refine mK_bipush dX7_sheet_98 rfl qbi_10 ?_
  refine mK_invV (J := M_X3_append) (k := 1) (as := [.int 10]) (st := []) (c1 := 0) (s1 := 0) dX7_sheet_100 rfl jw_X3_append jn_X3_append rfl (Nat.le_of_ble_eq_true rfl) (Nat.zero_le _) (Nat.zero_le _) rfl kw_735 kw_732 kw_733 (b := 3) (Nat.le_of_ble_eq_true rfl) (Nat.le_of_ble_eq_true rfl) rfl ?_
  refine S_X3_append_3 10 ?_
  show mK Γ M_X7_sheet (d + 3) Q n0 bc bs 103 [(0, .ref 0), (1, .int x1)] [] 60 mSH (g_X3_append_3 σ 10)
  refine ru_iinc (lv1 := [(0, .ref 0), (1, .int (x1 + 1))]) dX7_sheet_103 rfl (.tail _ (.head _)) qic_1 (by decide) rfl ?_
  refine mK_goto (tgt := 10) dX7_sheet_106 (by decide) ?_
  exact h
set_option maxRecDepth 20000 in
theorem E_X9_sheet_26 {Γ : Nat × (Nat → Int32)} {d : Nat} {Q : mQ} {σ : mS} (h : mK Γ M_X9_sheet (d + 6) Q 60 0 0 12 [(0, .ref 26), (1, .int 0)] [] 60 mSH (mPI (mPI σ 26 0 0) 26 4 0)) : mCall Γ M_X9_sheet (d + 6) 0 0 [.ref 26] 60 mSH σ Q := by
  refine mCall_of rfl (by decide) (Nat.le_of_ble_eq_true rfl) (mOkC (mOk_lo (Nat.le_of_ble_eq_true rfl)) mOkN) ?_
  show mK Γ M_X9_sheet (d + 6) Q 60 0 0 0 [(0, .ref 26)] [] 60 mSH σ
  refine mK_aload_n dX9_sheet_0 rfl rfl (.head _) ?_
  refine mK_iconst dX9_sheet_1 rfl qic_0 ?_
  refine ru_putI (k := 0) (ci := 8) dX9_sheet_2 rfl rfl rfl kw_1127 ?_
  refine mK_aload_n dX9_sheet_5 rfl rfl (.head _) ?_
  refine mK_iconst dX9_sheet_6 rfl qic_0 ?_
  refine ru_putI (k := 4) (ci := 8) dX9_sheet_7 rfl rfl rfl kw_1131 ?_
  refine mK_iconst dX9_sheet_10 rfl qic_0 ?_
  refine ru_istore_n (lv1 := [(0, .ref 26), (1, .int 0)]) dX9_sheet_11 rfl rfl (by decide) rfl ?_
  exact h
set_option maxRecDepth 20000 in
theorem T_X9_sheet_26_12 {Γ : Nat × (Nat → Int32)} {d n0 bc bs : Nat} {Q : mQ} {σ : mS} (x1 : Int32) (h : (((σ.1 32 3) ≤ x1 → Q (.inl (some (.int (σ.1 26 4)))) 60 mSH σ) ∧ (¬ ((σ.1 32 3) ≤ x1) → ((vp_in x1 40) ∧ mCall Γ M_X9_print_ (d + 5) 0 0 [.ref 26, .long (σ.2.1 35 (x1).toNatClampNeg)] 60 mSH σ (mRt Γ M_X9_sheet (d + 6) Q n0 bc bs 36 [(0, .ref 26), (1, .int x1)] []))))) : mK Γ M_X9_sheet (d + 6) Q n0 bc bs 12 [(0, .ref 26), (1, .int x1)] [] 60 mSH σ := by
  refine mK_iload_n dX9_sheet_12 rfl rfl (.tail _ (.head _)) ?_
  refine mK_aload_n dX9_sheet_13 rfl rfl (.head _) ?_
  refine ru_getR (k := 11) (ci := 8) (a := 32) dX9_sheet_14 rfl rfl rfl kw_1138 ?_
  refine ru_getIN (k := 3) (ci := 7) dX9_sheet_17 rfl rfl kn_1086 ?_
  refine mK_icmp_ge (tgt := 120) dX9_sheet_20 rfl (by decide) (fun c1 => ?_) (fun c1 => ?_)
  · refine mK_aload_n dX9_sheet_120 rfl rfl (.head _) ?_
    refine ru_getI (k := 4) (ci := 8) dX9_sheet_121 rfl rfl kw_1131 ?_
    exact mK_iret dX9_sheet_124 rfl (h.1 c1)
  · refine mK_aload_n dX9_sheet_23 rfl rfl (.head _) ?_
    refine mK_aload_n dX9_sheet_24 rfl rfl (.head _) ?_
    refine ru_getR (k := 11) (ci := 8) (a := 32) dX9_sheet_25 rfl rfl rfl kw_1138 ?_
    refine ru_getRN (k := 4) (ci := 7) (a := 35) dX9_sheet_28 rfl rfl rfl kn_1088 ?_
    refine mK_iload_n dX9_sheet_31 rfl rfl (.tail _ (.head _)) ?_
    refine ru_lald (n := 40) dX9_sheet_32 rfl rfl ((h.2 c1).1) ?_
    refine mK_invV (J := M_X9_print_) (k := 1) (as := [.long (σ.2.1 35 (x1).toNatClampNeg)]) (st := []) (c1 := 0) (s1 := 0) dX9_sheet_33 rfl jw_X9_print_ jn_X9_print_ rfl (Nat.le_of_ble_eq_true rfl) (Nat.zero_le _) (Nat.zero_le _) rfl kw_1575 kw_1577 kw_84 (b := 26) (Nat.le_of_ble_eq_true rfl) (Nat.le_of_ble_eq_true rfl) rfl ?_
    exact (h.2 c1).2
set_option maxRecDepth 20000 in
theorem T_X9_sheet_26_36a {Γ : Nat × (Nat → Int32)} {d n0 bc bs : Nat} {Q : mQ} {σ : mS} (x1 : Int32) (h : ((vp_in (σ.1 26 4) 1280) ∧ ((vp_in x1 40) ∧ ((vp_in ((g_X9_print_26 σ 32).1 37 (x1).toNatClampNeg) 6) ∧ mCall Γ M_X9_print_ (d + 5) 0 0 [.ref 26, .long ((g_X9_print_26 σ 32).2.1 33 ((g_X9_print_26 σ 32).1 37 (x1).toNatClampNeg).toNatClampNeg)] 60 mSH (g_X9_print_26 σ 32) (mRt Γ M_X9_sheet (d + 6) Q n0 bc bs 63 [(0, .ref 26), (1, .int x1)] []))))) : mRt Γ M_X9_sheet (d + 6) Q n0 bc bs 36 [(0, .ref 26), (1, .int x1)] [] (.inl none) 60 mSH σ := by
  show mK Γ M_X9_sheet (d + 6) Q n0 bc bs 36 [(0, .ref 26), (1, .int x1)] [] 60 mSH σ
  refine mK_aload_n dX9_sheet_36 rfl rfl (.head _) ?_
  refine mK_bipush dX9_sheet_37 rfl qbi_32 ?_
  refine mK_invV (J := M_X9_print) (k := 1) (as := [.int 32]) (st := []) (c1 := 0) (s1 := 0) dX9_sheet_39 rfl jw_X9_print jn_X9_print rfl (Nat.le_of_ble_eq_true rfl) (Nat.zero_le _) (Nat.zero_le _) rfl kw_1580 kw_1582 kw_85 (b := 26) (Nat.le_of_ble_eq_true rfl) (Nat.le_of_ble_eq_true rfl) rfl ?_
  refine S_X9_print_26 32 (h.1) ?_
  show mK Γ M_X9_sheet (d + 6) Q n0 bc bs 42 [(0, .ref 26), (1, .int x1)] [] 60 mSH (g_X9_print_26 σ 32)
  refine mK_aload_n dX9_sheet_42 rfl rfl (.head _) ?_
  refine mK_aload_n dX9_sheet_43 rfl rfl (.head _) ?_
  refine ru_getR (k := 11) (ci := 8) (a := 32) dX9_sheet_44 rfl rfl rfl kw_1138 ?_
  refine ru_getRN (k := 1) (ci := 7) (a := 33) dX9_sheet_47 rfl rfl rfl kn_1082 ?_
  refine mK_aload_n dX9_sheet_50 rfl rfl (.head _) ?_
  refine ru_getR (k := 11) (ci := 8) (a := 32) dX9_sheet_51 rfl rfl rfl kw_1138 ?_
  refine ru_getRN (k := 6) (ci := 7) (a := 37) dX9_sheet_54 rfl rfl rfl kn_1092 ?_
  refine mK_iload_n dX9_sheet_57 rfl rfl (.tail _ (.head _)) ?_
  refine ru_iald (n := 40) dX9_sheet_58 rfl rfl (h.2.1) ?_
  refine ru_lald (n := 6) dX9_sheet_59 rfl rfl (h.2.2.1) ?_
  refine mK_invV (J := M_X9_print_) (k := 1) (as := [.long ((g_X9_print_26 σ 32).2.1 33 ((g_X9_print_26 σ 32).1 37 (x1).toNatClampNeg).toNatClampNeg)]) (st := []) (c1 := 0) (s1 := 0) dX9_sheet_60 rfl jw_X9_print_ jn_X9_print_ rfl (Nat.le_of_ble_eq_true rfl) (Nat.zero_le _) (Nat.zero_le _) rfl kw_1575 kw_1577 kw_84 (b := 26) (Nat.le_of_ble_eq_true rfl) (Nat.le_of_ble_eq_true rfl) rfl ?_
  exact h.2.2.2
set_option maxRecDepth 20000 in
theorem T_X9_sheet_26_63a {Γ : Nat × (Nat → Int32)} {d n0 bc bs : Nat} {Q : mQ} {σ : mS} (x1 : Int32) (h : ((vp_in (σ.1 26 4) 1280) ∧ ((vp_in x1 40) ∧ ((((g_X9_print_26 σ 32).1 52 (x1).toNatClampNeg) = 1 → mCall Γ M_X9_print_ (d + 5) 0 0 [.ref 26, .long (mKy (1214 - 1200))] 60 mSH (g_X9_print_26 σ 32) (mRt Γ M_X9_sheet (d + 6) Q n0 bc bs 108 [(0, .ref 26), (1, .int x1)] [])) ∧ (¬ (((g_X9_print_26 σ 32).1 52 (x1).toNatClampNeg) = 1) → ((((g_X9_print_26 σ 32).1 52 (x1).toNatClampNeg) = 2 → mCall Γ M_X9_print_ (d + 5) 0 0 [.ref 26, .long (mKy (1215 - 1200))] 60 mSH (g_X9_print_26 σ 32) (mRt Γ M_X9_sheet (d + 6) Q n0 bc bs 108 [(0, .ref 26), (1, .int x1)] [])) ∧ (¬ (((g_X9_print_26 σ 32).1 52 (x1).toNatClampNeg) = 2) → mCall Γ M_X9_print_ (d + 5) 0 0 [.ref 26, .long (mKy (1216 - 1200))] 60 mSH (g_X9_print_26 σ 32) (mRt Γ M_X9_sheet (d + 6) Q n0 bc bs 108 [(0, .ref 26), (1, .int x1)] [])))))))) : mRt Γ M_X9_sheet (d + 6) Q n0 bc bs 63 [(0, .ref 26), (1, .int x1)] [] (.inl none) 60 mSH σ := by
  show mK Γ M_X9_sheet (d + 6) Q n0 bc bs 63 [(0, .ref 26), (1, .int x1)] [] 60 mSH σ
  refine mK_aload_n dX9_sheet_63 rfl rfl (.head _) ?_
  refine mK_bipush dX9_sheet_64 rfl qbi_32 ?_
  refine mK_invV (J := M_X9_print) (k := 1) (as := [.int 32]) (st := []) (c1 := 0) (s1 := 0) dX9_sheet_66 rfl jw_X9_print jn_X9_print rfl (Nat.le_of_ble_eq_true rfl) (Nat.zero_le _) (Nat.zero_le _) rfl kw_1580 kw_1582 kw_85 (b := 26) (Nat.le_of_ble_eq_true rfl) (Nat.le_of_ble_eq_true rfl) rfl ?_
  refine S_X9_print_26 32 (h.1) ?_
  show mK Γ M_X9_sheet (d + 6) Q n0 bc bs 69 [(0, .ref 26), (1, .int x1)] [] 60 mSH (g_X9_print_26 σ 32)
  refine mK_aload_n dX9_sheet_69 rfl rfl (.head _) ?_
  refine mK_aload_n dX9_sheet_70 rfl rfl (.head _) ?_
  refine ru_getR (k := 13) (ci := 8) (a := 52) dX9_sheet_71 rfl rfl rfl kw_1140 ?_
  refine mK_iload_n dX9_sheet_74 rfl rfl (.tail _ (.head _)) ?_
  refine ru_iald (n := 40) dX9_sheet_75 rfl rfl (h.2.1) ?_
  refine mK_iconst dX9_sheet_76 rfl qic_1 ?_
  refine ru_icmp_ne (tgt := 85) dX9_sheet_77 rfl (by decide) (fun c1 => ?_) (fun c1 => ?_)
  · refine mK_aload_n dX9_sheet_85 rfl rfl (.head _) ?_
    refine ru_getR (k := 13) (ci := 8) (a := 52) dX9_sheet_86 rfl rfl rfl kw_1140 ?_
    refine mK_iload_n dX9_sheet_89 rfl rfl (.tail _ (.head _)) ?_
    refine ru_iald (n := 40) dX9_sheet_90 rfl rfl (h.2.1) ?_
    refine mK_iconst dX9_sheet_91 rfl qic_2 ?_
    refine ru_icmp_ne (tgt := 100) dX9_sheet_92 rfl (by decide) (fun c2 => ?_) (fun c2 => ?_)
    · refine mK_ldcS (i := 16) dX9_sheet_100 rfl (by decide) rfl rfl ?_
      refine mK_invS (J := M_X9_packed) (k := 1) (as := [.ref 1216]) (st := [.ref 26]) (c1 := 0) (s1 := 0) dX9_sheet_102 rfl jw_X9_packed jn_X9_packed rfl (Nat.le_of_ble_eq_true rfl) (Nat.zero_le _) (Nat.zero_le _) rfl kw_1259 kw_1260 ?_
      refine S_packedL 1216 (by decide) ?_
      show mK Γ M_X9_sheet (d + 6) Q n0 bc bs 105 [(0, .ref 26), (1, .int x1)] [.long (mKy (1216 - 1200)), .ref 26] 60 mSH (g_X9_print_26 σ 32)
      refine mK_invV (J := M_X9_print_) (k := 1) (as := [.long (mKy (1216 - 1200))]) (st := []) (c1 := 0) (s1 := 0) dX9_sheet_105 rfl jw_X9_print_ jn_X9_print_ rfl (Nat.le_of_ble_eq_true rfl) (Nat.zero_le _) (Nat.zero_le _) rfl kw_1575 kw_1577 kw_84 (b := 26) (Nat.le_of_ble_eq_true rfl) (Nat.le_of_ble_eq_true rfl) rfl ?_
      exact ((h.2.2.2 c1).2 c2)
    · refine mK_ldcS (i := 15) dX9_sheet_95 rfl (by decide) rfl rfl ?_
      refine mK_goto (tgt := 102) dX9_sheet_97 (by decide) ?_
      refine mK_invS (J := M_X9_packed) (k := 1) (as := [.ref 1215]) (st := [.ref 26]) (c1 := 0) (s1 := 0) dX9_sheet_102 rfl jw_X9_packed jn_X9_packed rfl (Nat.le_of_ble_eq_true rfl) (Nat.zero_le _) (Nat.zero_le _) rfl kw_1259 kw_1260 ?_
      refine S_packedL 1215 (by decide) ?_
      show mK Γ M_X9_sheet (d + 6) Q n0 bc bs 105 [(0, .ref 26), (1, .int x1)] [.long (mKy (1215 - 1200)), .ref 26] 60 mSH (g_X9_print_26 σ 32)
      refine mK_invV (J := M_X9_print_) (k := 1) (as := [.long (mKy (1215 - 1200))]) (st := []) (c1 := 0) (s1 := 0) dX9_sheet_105 rfl jw_X9_print_ jn_X9_print_ rfl (Nat.le_of_ble_eq_true rfl) (Nat.zero_le _) (Nat.zero_le _) rfl kw_1575 kw_1577 kw_84 (b := 26) (Nat.le_of_ble_eq_true rfl) (Nat.le_of_ble_eq_true rfl) rfl ?_
      exact ((h.2.2.2 c1).1 c2)
  · refine mK_ldcS (i := 14) dX9_sheet_80 rfl (by decide) rfl rfl ?_
    refine mK_goto (tgt := 102) dX9_sheet_82 (by decide) ?_
    refine mK_invS (J := M_X9_packed) (k := 1) (as := [.ref 1214]) (st := [.ref 26]) (c1 := 0) (s1 := 0) dX9_sheet_102 rfl jw_X9_packed jn_X9_packed rfl (Nat.le_of_ble_eq_true rfl) (Nat.zero_le _) (Nat.zero_le _) rfl kw_1259 kw_1260 ?_
    refine S_packedL 1214 (by decide) ?_
    show mK Γ M_X9_sheet (d + 6) Q n0 bc bs 105 [(0, .ref 26), (1, .int x1)] [.long (mKy (1214 - 1200)), .ref 26] 60 mSH (g_X9_print_26 σ 32)
    refine mK_invV (J := M_X9_print_) (k := 1) (as := [.long (mKy (1214 - 1200))]) (st := []) (c1 := 0) (s1 := 0) dX9_sheet_105 rfl jw_X9_print_ jn_X9_print_ rfl (Nat.le_of_ble_eq_true rfl) (Nat.zero_le _) (Nat.zero_le _) rfl kw_1575 kw_1577 kw_84 (b := 26) (Nat.le_of_ble_eq_true rfl) (Nat.le_of_ble_eq_true rfl) rfl ?_
    exact (h.2.2.1 c1)
set_option maxRecDepth 20000 in
theorem T_X9_sheet_26_108a {Γ : Nat × (Nat → Int32)} {d n0 bc bs : Nat} {Q : mQ} {σ : mS} (x1 : Int32) (h : ((vp_in (σ.1 26 4) 1280) ∧ mK Γ M_X9_sheet (d + 6) Q n0 bc bs 12 [(0, .ref 26), (1, .int (x1 + 1))] [] 60 mSH (g_X9_print_26 σ 10))) : mRt Γ M_X9_sheet (d + 6) Q n0 bc bs 108 [(0, .ref 26), (1, .int x1)] [] (.inl none) 60 mSH σ := by
  show mK Γ M_X9_sheet (d + 6) Q n0 bc bs 108 [(0, .ref 26), (1, .int x1)] [] 60 mSH σ
  refine mK_aload_n dX9_sheet_108 rfl rfl (.head _) ?_
  refine mK_bipush dX9_sheet_109 rfl qbi_10 ?_
  refine mK_invV (J := M_X9_print) (k := 1) (as := [.int 10]) (st := []) (c1 := 0) (s1 := 0) dX9_sheet_111 rfl jw_X9_print jn_X9_print rfl (Nat.le_of_ble_eq_true rfl) (Nat.zero_le _) (Nat.zero_le _) rfl kw_1580 kw_1582 kw_85 (b := 26) (Nat.le_of_ble_eq_true rfl) (Nat.le_of_ble_eq_true rfl) rfl ?_
  refine S_X9_print_26 10 (h.1) ?_
  show mK Γ M_X9_sheet (d + 6) Q n0 bc bs 114 [(0, .ref 26), (1, .int x1)] [] 60 mSH (g_X9_print_26 σ 10)
  refine ru_iinc (lv1 := [(0, .ref 26), (1, .int (x1 + 1))]) dX9_sheet_114 rfl (.tail _ (.head _)) qic_1 (by decide) rfl ?_
  refine mK_goto (tgt := 12) dX9_sheet_117 (by decide) ?_
  exact h.2
