def f_X0_itemsOfKind_5 (σ : mS) (a1 : Int32) : Int64 := (mSetP (fun k => decide (σ.1 9 k = a1)) (σ.1 5 10).toNatClampNeg)
set_option maxRecDepth 20000 in
theorem S_X0_itemsOfKind_5 {Γ : Nat × (Nat → Int32)} {d : Nat} {Q : mQ} {σ : mS} (a1 : Int32) (hs1 : cnt (σ.1 5 10) 40) (hQ : Q (.inl (some (.long (f_X0_itemsOfKind_5 σ a1)))) 60 mSH σ) : mCall Γ M_X0_itemsOfKind (d + 3) 0 0 [.ref 5, .int a1] 60 mSH σ Q := by
  refine mCall_of rfl (by decide) (Nat.le_of_ble_eq_true rfl) (mOkC (mOk_lo (Nat.le_of_ble_eq_true rfl)) (mOkC mOk_i mOkN)) ?_
  show mK Γ M_X0_itemsOfKind (d + 3) Q 60 0 0 0 [(0, .ref 5), (1, .int a1)] [] 60 mSH σ
  refine mK_aload_n dX0_itemsOfKind_0 rfl rfl (.head _) ?_
  refine mK_aload_n dX0_itemsOfKind_1 rfl rfl (.head _) ?_
  refine ru_getR (k := 4) (ci := 0) (a := 9) dX0_itemsOfKind_2 rfl rfl rfl kw_146 ?_
  refine mK_iload_n dX0_itemsOfKind_5 rfl rfl (.tail _ (.head _)) ?_
  refine mK_invV (J := M_X0_itemsWith) (k := 2) (as := [.ref 9, .int a1]) (st := []) (c1 := 0) (s1 := 0) dX0_itemsOfKind_6 rfl jw_X0_itemsWith jn_X0_itemsWith rfl (Nat.le_of_ble_eq_true rfl) (Nat.zero_le _) (Nat.zero_le _) rfl kw_755 kw_757 kw_31 (b := 5) (Nat.le_of_ble_eq_true rfl) (Nat.le_of_ble_eq_true rfl) rfl ?_
  refine S_X0_itemsWith_9 a1 hs1 ?_
  show mK Γ M_X0_itemsOfKind (d + 3) Q 60 0 0 9 [(0, .ref 5), (1, .int a1)] [.long (mSetP (fun k => decide (σ.1 9 k = a1)) (σ.1 5 10).toNatClampNeg)] 60 mSH σ
  exact mK_lret dX0_itemsOfKind_9 rfl (by rw [(show (f_X0_itemsOfKind_5 σ a1) = (mSetP (fun k => decide (σ.1 9 k = a1)) (σ.1 5 10).toNatClampNeg) from rfl)] at hQ; exact hQ)
def f_X0_itemsOfSpeaker_5 (σ : mS) (a1 : Int32) : Int64 := (mSetP (fun k => decide (σ.1 10 k = a1)) (σ.1 5 10).toNatClampNeg)
set_option maxRecDepth 20000 in
theorem S_X0_itemsOfSpeaker_5 {Γ : Nat × (Nat → Int32)} {d : Nat} {Q : mQ} {σ : mS} (a1 : Int32) (hs1 : cnt (σ.1 5 10) 40) (hQ : Q (.inl (some (.long (f_X0_itemsOfSpeaker_5 σ a1)))) 60 mSH σ) : mCall Γ M_X0_itemsOfSpeaker (d + 3) 0 0 [.ref 5, .int a1] 60 mSH σ Q := by
  refine mCall_of rfl (by decide) (Nat.le_of_ble_eq_true rfl) (mOkC (mOk_lo (Nat.le_of_ble_eq_true rfl)) (mOkC mOk_i mOkN)) ?_
  show mK Γ M_X0_itemsOfSpeaker (d + 3) Q 60 0 0 0 [(0, .ref 5), (1, .int a1)] [] 60 mSH σ
  refine mK_aload_n dX0_itemsOfSpeaker_0 rfl rfl (.head _) ?_
  refine mK_aload_n dX0_itemsOfSpeaker_1 rfl rfl (.head _) ?_
  refine ru_getR (k := 5) (ci := 0) (a := 10) dX0_itemsOfSpeaker_2 rfl rfl rfl kw_147 ?_
  refine mK_iload_n dX0_itemsOfSpeaker_5 rfl rfl (.tail _ (.head _)) ?_
  refine mK_invV (J := M_X0_itemsWith) (k := 2) (as := [.ref 10, .int a1]) (st := []) (c1 := 0) (s1 := 0) dX0_itemsOfSpeaker_6 rfl jw_X0_itemsWith jn_X0_itemsWith rfl (Nat.le_of_ble_eq_true rfl) (Nat.zero_le _) (Nat.zero_le _) rfl kw_755 kw_757 kw_31 (b := 5) (Nat.le_of_ble_eq_true rfl) (Nat.le_of_ble_eq_true rfl) rfl ?_
  refine S_X0_itemsWith_10 a1 hs1 ?_
  show mK Γ M_X0_itemsOfSpeaker (d + 3) Q 60 0 0 9 [(0, .ref 5), (1, .int a1)] [.long (mSetP (fun k => decide (σ.1 10 k = a1)) (σ.1 5 10).toNatClampNeg)] 60 mSH σ
  exact mK_lret dX0_itemsOfSpeaker_9 rfl (by rw [(show (f_X0_itemsOfSpeaker_5 σ a1) = (mSetP (fun k => decide (σ.1 10 k = a1)) (σ.1 5 10).toNatClampNeg) from rfl)] at hQ; exact hQ)
def f_X0_itemsWithTarget_5 (σ : mS) (a1 : Int32) : Int64 := (mSetP (fun k => decide (σ.1 13 k = a1)) (σ.1 5 10).toNatClampNeg)
set_option maxRecDepth 20000 in
theorem S_X0_itemsWithTarget_5 {Γ : Nat × (Nat → Int32)} {d : Nat} {Q : mQ} {σ : mS} (a1 : Int32) (hs1 : cnt (σ.1 5 10) 40) (hQ : Q (.inl (some (.long (f_X0_itemsWithTarget_5 σ a1)))) 60 mSH σ) : mCall Γ M_X0_itemsWithTarget (d + 3) 0 0 [.ref 5, .int a1] 60 mSH σ Q := by
  refine mCall_of rfl (by decide) (Nat.le_of_ble_eq_true rfl) (mOkC (mOk_lo (Nat.le_of_ble_eq_true rfl)) (mOkC mOk_i mOkN)) ?_
  show mK Γ M_X0_itemsWithTarget (d + 3) Q 60 0 0 0 [(0, .ref 5), (1, .int a1)] [] 60 mSH σ
  refine mK_aload_n dX0_itemsWithTarget_0 rfl rfl (.head _) ?_
  refine mK_aload_n dX0_itemsWithTarget_1 rfl rfl (.head _) ?_
  refine ru_getR (k := 8) (ci := 0) (a := 13) dX0_itemsWithTarget_2 rfl rfl rfl kw_150 ?_
  refine mK_iload_n dX0_itemsWithTarget_5 rfl rfl (.tail _ (.head _)) ?_
  refine mK_invV (J := M_X0_itemsWith) (k := 2) (as := [.ref 13, .int a1]) (st := []) (c1 := 0) (s1 := 0) dX0_itemsWithTarget_6 rfl jw_X0_itemsWith jn_X0_itemsWith rfl (Nat.le_of_ble_eq_true rfl) (Nat.zero_le _) (Nat.zero_le _) rfl kw_755 kw_757 kw_31 (b := 5) (Nat.le_of_ble_eq_true rfl) (Nat.le_of_ble_eq_true rfl) rfl ?_
  refine S_X0_itemsWith_13 a1 hs1 ?_
  show mK Γ M_X0_itemsWithTarget (d + 3) Q 60 0 0 9 [(0, .ref 5), (1, .int a1)] [.long (mSetP (fun k => decide (σ.1 13 k = a1)) (σ.1 5 10).toNatClampNeg)] 60 mSH σ
  exact mK_lret dX0_itemsWithTarget_9 rfl (by rw [(show (f_X0_itemsWithTarget_5 σ a1) = (mSetP (fun k => decide (σ.1 13 k = a1)) (σ.1 5 10).toNatClampNeg) from rfl)] at hQ; exact hQ)
def h_X5_takeNewItem_25 (σ : mS) : Int64 × mS := if (mFind (σ.2.1 8) (f_X6_valueAt_20 σ (σ.1 25 3)) 0 (σ.1 5 10).toNatClampNeg) = (-1) then (if (f_X0_items_5 (g_X5_failIf_25 σ 0 2)) < 40 then ((f_X6_valueAt_20 σ (σ.1 25 3)), (mPI (g_X5_failIf_25 (g_X5_failIf_25 σ 0 2) 0 4) 25 3 (((g_X5_failIf_25 (g_X5_failIf_25 σ 0 2) 0 4).1 25 3) + 1))) else ((f_X6_valueAt_20 σ (σ.1 25 3)), (mPI (g_X5_failIf_25 (g_X5_failIf_25 σ 0 2) 1 4) 25 3 (((g_X5_failIf_25 (g_X5_failIf_25 σ 0 2) 1 4).1 25 3) + 1)))) else (if (f_X0_items_5 (g_X5_failIf_25 σ 1 2)) < 40 then ((f_X6_valueAt_20 σ (σ.1 25 3)), (mPI (g_X5_failIf_25 (g_X5_failIf_25 σ 1 2) 0 4) 25 3 (((g_X5_failIf_25 (g_X5_failIf_25 σ 1 2) 0 4).1 25 3) + 1))) else ((f_X6_valueAt_20 σ (σ.1 25 3)), (mPI (g_X5_failIf_25 (g_X5_failIf_25 σ 1 2) 1 4) 25 3 (((g_X5_failIf_25 (g_X5_failIf_25 σ 1 2) 1 4).1 25 3) + 1))))
set_option maxRecDepth 20000 in
theorem S_X5_takeNewItem_25 {Γ : Nat × (Nat → Int32)} {d : Nat} {Q : mQ} {σ : mS} (hs1 : ¬ ((σ.1 25 3) < 0) → ¬ ((σ.1 20 3) ≤ (σ.1 25 3)) → ¬ (400 < (σ.1 25 3)) → vp_in (σ.1 25 3) 401) (hs2 : cnt (σ.1 5 10) 40) (hQ : Q (.inl (some (.long (h_X5_takeNewItem_25 σ).1))) 60 mSH (h_X5_takeNewItem_25 σ).2) : mCall Γ M_X5_takeNewItem (d + 2) 0 0 [.ref 25] 60 mSH σ Q := by
  refine mCall_of rfl (by decide) (Nat.le_of_ble_eq_true rfl) (mOkC (mOk_lo (Nat.le_of_ble_eq_true rfl)) mOkN) ?_
  show mK Γ M_X5_takeNewItem (d + 2) Q 60 0 0 0 [(0, .ref 25)] [] 60 mSH σ
  refine mK_aload_n dX5_takeNewItem_0 rfl rfl (.head _) ?_
  refine ru_getR (k := 0) (ci := 4) (a := 20) dX5_takeNewItem_1 rfl rfl rfl kw_262 ?_
  refine mK_aload_n dX5_takeNewItem_4 rfl rfl (.head _) ?_
  refine ru_getI (k := 3) (ci := 4) dX5_takeNewItem_5 rfl rfl kw_265 ?_
  refine mK_invV (J := M_X6_valueAt) (k := 1) (as := [.int (σ.1 25 3)]) (st := []) (c1 := 0) (s1 := 0) dX5_takeNewItem_8 rfl jw_X6_valueAt jn_X6_valueAt rfl (Nat.le_of_ble_eq_true rfl) (Nat.zero_le _) (Nat.zero_le _) rfl kw_490 kw_491 kw_492 (b := 20) (Nat.le_of_ble_eq_true rfl) (Nat.le_of_ble_eq_true rfl) rfl ?_
  refine S_X6_valueAt_20 (σ.1 25 3) hs1 ?_
  show mK Γ M_X5_takeNewItem (d + 2) Q 60 0 0 11 [(0, .ref 25)] [.long (f_X6_valueAt_20 σ (σ.1 25 3))] 60 mSH σ
  refine ru_lstore_n (lv1 := [(0, .ref 25), (1, .long (f_X6_valueAt_20 σ (σ.1 25 3)))]) dX5_takeNewItem_11 rfl rfl (by decide) rfl ?_
  refine mK_aload_n dX5_takeNewItem_12 rfl rfl (.head _) ?_
  refine mK_aload_n dX5_takeNewItem_13 rfl rfl (.head _) ?_
  refine ru_getR (k := 1) (ci := 4) (a := 5) dX5_takeNewItem_14 rfl rfl rfl kw_263 ?_
  refine mK_lload_n dX5_takeNewItem_17 rfl rfl (.tail _ (.head _)) ?_
  refine mK_invV (J := M_X0_findItem) (k := 1) (as := [.long (f_X6_valueAt_20 σ (σ.1 25 3))]) (st := [.ref 25]) (c1 := 0) (s1 := 0) dX5_takeNewItem_18 rfl jw_X0_findItem jn_X0_findItem rfl (Nat.le_of_ble_eq_true rfl) (Nat.zero_le _) (Nat.zero_le _) rfl kw_524 kw_525 kw_526 (b := 5) (Nat.le_of_ble_eq_true rfl) (Nat.le_of_ble_eq_true rfl) rfl ?_
  refine S_X0_findItem (f_X6_valueAt_20 σ (σ.1 25 3)) hs2 ?_
  show mK Γ M_X5_takeNewItem (d + 2) Q 60 0 0 21 [(0, .ref 25), (1, .long (f_X6_valueAt_20 σ (σ.1 25 3)))] [.int (mFind (σ.2.1 8) (f_X6_valueAt_20 σ (σ.1 25 3)) 0 (σ.1 5 10).toNatClampNeg), .ref 25] 60 mSH σ
  refine mK_iconst dX5_takeNewItem_21 rfl qic_m1 ?_
  refine mK_icmp_eq (tgt := 29) dX5_takeNewItem_22 rfl (by decide) (fun c1 => ?_) (fun c1 => ?_)
  · refine mK_iconst dX5_takeNewItem_29 rfl qic_0 ?_
    refine mK_iconst dX5_takeNewItem_30 rfl qic_2 ?_
    refine mK_invV (J := M_X5_failIf) (k := 2) (as := [.int 0, .int 2]) (st := []) (c1 := 0) (s1 := 0) dX5_takeNewItem_31 rfl jw_X5_failIf jn_X5_failIf rfl (Nat.le_of_ble_eq_true rfl) (Nat.zero_le _) (Nat.zero_le _) rfl kw_498 kw_500 kw_15 (b := 25) (Nat.le_of_ble_eq_true rfl) (Nat.le_of_ble_eq_true rfl) rfl ?_
    refine S_X5_failIf_25 0 2 ?_
    show mK Γ M_X5_takeNewItem (d + 2) Q 60 0 0 34 [(0, .ref 25), (1, .long (f_X6_valueAt_20 σ (σ.1 25 3)))] [] 60 mSH (g_X5_failIf_25 σ 0 2)
    refine mK_aload_n dX5_takeNewItem_34 rfl rfl (.head _) ?_
    refine mK_aload_n dX5_takeNewItem_35 rfl rfl (.head _) ?_
    refine ru_getR (k := 1) (ci := 4) (a := 5) dX5_takeNewItem_36 rfl rfl rfl kw_263 ?_
    refine mK_invV (J := M_X0_items) (k := 0) (as := []) (st := [.ref 25]) (c1 := 0) (s1 := 0) dX5_takeNewItem_39 rfl jw_X0_items jn_X0_items rfl (Nat.le_of_ble_eq_true rfl) (Nat.zero_le _) (Nat.zero_le _) rfl kw_528 kw_529 kw_530 (b := 5) (Nat.le_of_ble_eq_true rfl) (Nat.le_of_ble_eq_true rfl) rfl ?_
    refine S_X0_items_5  ?_
    show mK Γ M_X5_takeNewItem (d + 2) Q 60 0 0 42 [(0, .ref 25), (1, .long (f_X6_valueAt_20 σ (σ.1 25 3)))] [.int (f_X0_items_5 (g_X5_failIf_25 σ 0 2)), .ref 25] 60 mSH (g_X5_failIf_25 σ 0 2)
    refine mK_bipush dX5_takeNewItem_42 rfl qbi_40 ?_
    refine mK_icmp_lt (tgt := 51) dX5_takeNewItem_44 rfl (by decide) (fun c2 => ?_) (fun c2 => ?_)
    · refine mK_iconst dX5_takeNewItem_51 rfl qic_0 ?_
      refine mK_iconst dX5_takeNewItem_52 rfl qic_4 ?_
      refine mK_invV (J := M_X5_failIf) (k := 2) (as := [.int 0, .int 4]) (st := []) (c1 := 0) (s1 := 0) dX5_takeNewItem_53 rfl jw_X5_failIf jn_X5_failIf rfl (Nat.le_of_ble_eq_true rfl) (Nat.zero_le _) (Nat.zero_le _) rfl kw_498 kw_500 kw_15 (b := 25) (Nat.le_of_ble_eq_true rfl) (Nat.le_of_ble_eq_true rfl) rfl ?_
      refine S_X5_failIf_25 0 4 ?_
      show mK Γ M_X5_takeNewItem (d + 2) Q 60 0 0 56 [(0, .ref 25), (1, .long (f_X6_valueAt_20 σ (σ.1 25 3)))] [] 60 mSH (g_X5_failIf_25 (g_X5_failIf_25 σ 0 2) 0 4)
      refine mK_aload_n dX5_takeNewItem_56 rfl rfl (.head _) ?_
      refine mK_dup dX5_takeNewItem_57 rfl rfl ?_
      refine ru_getI (k := 3) (ci := 4) dX5_takeNewItem_58 rfl rfl kw_265 ?_
      refine mK_iconst dX5_takeNewItem_61 rfl qic_1 ?_
      refine mK_iadd dX5_takeNewItem_62 rfl ?_
      refine ru_putI (k := 3) (ci := 4) dX5_takeNewItem_63 rfl rfl rfl kw_265 ?_
      refine mK_lload_n dX5_takeNewItem_66 rfl rfl (.tail _ (.head _)) ?_
      exact mK_lret dX5_takeNewItem_67 rfl (by rw [(show (h_X5_takeNewItem_25 σ) = ((f_X6_valueAt_20 σ (σ.1 25 3)), (mPI (g_X5_failIf_25 (g_X5_failIf_25 σ 0 2) 0 4) 25 3 (((g_X5_failIf_25 (g_X5_failIf_25 σ 0 2) 0 4).1 25 3) + 1))) from by unfold h_X5_takeNewItem_25; exact ((if_pos c1).trans ((if_pos c2).trans rfl)))] at hQ; exact hQ)
    · refine mK_iconst dX5_takeNewItem_47 rfl qic_1 ?_
      refine mK_goto (tgt := 52) dX5_takeNewItem_48 (by decide) ?_
      refine mK_iconst dX5_takeNewItem_52 rfl qic_4 ?_
      refine mK_invV (J := M_X5_failIf) (k := 2) (as := [.int 1, .int 4]) (st := []) (c1 := 0) (s1 := 0) dX5_takeNewItem_53 rfl jw_X5_failIf jn_X5_failIf rfl (Nat.le_of_ble_eq_true rfl) (Nat.zero_le _) (Nat.zero_le _) rfl kw_498 kw_500 kw_15 (b := 25) (Nat.le_of_ble_eq_true rfl) (Nat.le_of_ble_eq_true rfl) rfl ?_
      refine S_X5_failIf_25 1 4 ?_
      show mK Γ M_X5_takeNewItem (d + 2) Q 60 0 0 56 [(0, .ref 25), (1, .long (f_X6_valueAt_20 σ (σ.1 25 3)))] [] 60 mSH (g_X5_failIf_25 (g_X5_failIf_25 σ 0 2) 1 4)
      refine mK_aload_n dX5_takeNewItem_56 rfl rfl (.head _) ?_
      refine mK_dup dX5_takeNewItem_57 rfl rfl ?_
      refine ru_getI (k := 3) (ci := 4) dX5_takeNewItem_58 rfl rfl kw_265 ?_
      refine mK_iconst dX5_takeNewItem_61 rfl qic_1 ?_
      refine mK_iadd dX5_takeNewItem_62 rfl ?_
      refine ru_putI (k := 3) (ci := 4) dX5_takeNewItem_63 rfl rfl rfl kw_265 ?_
      refine mK_lload_n dX5_takeNewItem_66 rfl rfl (.tail _ (.head _)) ?_
      exact mK_lret dX5_takeNewItem_67 rfl (by rw [(show (h_X5_takeNewItem_25 σ) = ((f_X6_valueAt_20 σ (σ.1 25 3)), (mPI (g_X5_failIf_25 (g_X5_failIf_25 σ 0 2) 1 4) 25 3 (((g_X5_failIf_25 (g_X5_failIf_25 σ 0 2) 1 4).1 25 3) + 1))) from by unfold h_X5_takeNewItem_25; exact ((if_pos c1).trans ((if_neg c2).trans rfl)))] at hQ; exact hQ)
  · refine mK_iconst dX5_takeNewItem_25 rfl qic_1 ?_
    refine mK_goto (tgt := 30) dX5_takeNewItem_26 (by decide) ?_
    refine mK_iconst dX5_takeNewItem_30 rfl qic_2 ?_
    refine mK_invV (J := M_X5_failIf) (k := 2) (as := [.int 1, .int 2]) (st := []) (c1 := 0) (s1 := 0) dX5_takeNewItem_31 rfl jw_X5_failIf jn_X5_failIf rfl (Nat.le_of_ble_eq_true rfl) (Nat.zero_le _) (Nat.zero_le _) rfl kw_498 kw_500 kw_15 (b := 25) (Nat.le_of_ble_eq_true rfl) (Nat.le_of_ble_eq_true rfl) rfl ?_
    refine S_X5_failIf_25 1 2 ?_
    show mK Γ M_X5_takeNewItem (d + 2) Q 60 0 0 34 [(0, .ref 25), (1, .long (f_X6_valueAt_20 σ (σ.1 25 3)))] [] 60 mSH (g_X5_failIf_25 σ 1 2)
    refine mK_aload_n dX5_takeNewItem_34 rfl rfl (.head _) ?_
    refine mK_aload_n dX5_takeNewItem_35 rfl rfl (.head _) ?_
    refine ru_getR (k := 1) (ci := 4) (a := 5) dX5_takeNewItem_36 rfl rfl rfl kw_263 ?_
    refine mK_invV (J := M_X0_items) (k := 0) (as := []) (st := [.ref 25]) (c1 := 0) (s1 := 0) dX5_takeNewItem_39 rfl jw_X0_items jn_X0_items rfl (Nat.le_of_ble_eq_true rfl) (Nat.zero_le _) (Nat.zero_le _) rfl kw_528 kw_529 kw_530 (b := 5) (Nat.le_of_ble_eq_true rfl) (Nat.le_of_ble_eq_true rfl) rfl ?_
    refine S_X0_items_5  ?_
    show mK Γ M_X5_takeNewItem (d + 2) Q 60 0 0 42 [(0, .ref 25), (1, .long (f_X6_valueAt_20 σ (σ.1 25 3)))] [.int (f_X0_items_5 (g_X5_failIf_25 σ 1 2)), .ref 25] 60 mSH (g_X5_failIf_25 σ 1 2)
    refine mK_bipush dX5_takeNewItem_42 rfl qbi_40 ?_
    refine mK_icmp_lt (tgt := 51) dX5_takeNewItem_44 rfl (by decide) (fun c3 => ?_) (fun c3 => ?_)
    · refine mK_iconst dX5_takeNewItem_51 rfl qic_0 ?_
      refine mK_iconst dX5_takeNewItem_52 rfl qic_4 ?_
      refine mK_invV (J := M_X5_failIf) (k := 2) (as := [.int 0, .int 4]) (st := []) (c1 := 0) (s1 := 0) dX5_takeNewItem_53 rfl jw_X5_failIf jn_X5_failIf rfl (Nat.le_of_ble_eq_true rfl) (Nat.zero_le _) (Nat.zero_le _) rfl kw_498 kw_500 kw_15 (b := 25) (Nat.le_of_ble_eq_true rfl) (Nat.le_of_ble_eq_true rfl) rfl ?_
      refine S_X5_failIf_25 0 4 ?_
      show mK Γ M_X5_takeNewItem (d + 2) Q 60 0 0 56 [(0, .ref 25), (1, .long (f_X6_valueAt_20 σ (σ.1 25 3)))] [] 60 mSH (g_X5_failIf_25 (g_X5_failIf_25 σ 1 2) 0 4)
      refine mK_aload_n dX5_takeNewItem_56 rfl rfl (.head _) ?_
      refine mK_dup dX5_takeNewItem_57 rfl rfl ?_
      refine ru_getI (k := 3) (ci := 4) dX5_takeNewItem_58 rfl rfl kw_265 ?_
      refine mK_iconst dX5_takeNewItem_61 rfl qic_1 ?_
      refine mK_iadd dX5_takeNewItem_62 rfl ?_
      refine ru_putI (k := 3) (ci := 4) dX5_takeNewItem_63 rfl rfl rfl kw_265 ?_
      refine mK_lload_n dX5_takeNewItem_66 rfl rfl (.tail _ (.head _)) ?_
      exact mK_lret dX5_takeNewItem_67 rfl (by rw [(show (h_X5_takeNewItem_25 σ) = ((f_X6_valueAt_20 σ (σ.1 25 3)), (mPI (g_X5_failIf_25 (g_X5_failIf_25 σ 1 2) 0 4) 25 3 (((g_X5_failIf_25 (g_X5_failIf_25 σ 1 2) 0 4).1 25 3) + 1))) from by unfold h_X5_takeNewItem_25; exact ((if_neg c1).trans ((if_pos c3).trans rfl)))] at hQ; exact hQ)
    · refine mK_iconst dX5_takeNewItem_47 rfl qic_1 ?_
      refine mK_goto (tgt := 52) dX5_takeNewItem_48 (by decide) ?_
      refine mK_iconst dX5_takeNewItem_52 rfl qic_4 ?_
      refine mK_invV (J := M_X5_failIf) (k := 2) (as := [.int 1, .int 4]) (st := []) (c1 := 0) (s1 := 0) dX5_takeNewItem_53 rfl jw_X5_failIf jn_X5_failIf rfl (Nat.le_of_ble_eq_true rfl) (Nat.zero_le _) (Nat.zero_le _) rfl kw_498 kw_500 kw_15 (b := 25) (Nat.le_of_ble_eq_true rfl) (Nat.le_of_ble_eq_true rfl) rfl ?_
      refine S_X5_failIf_25 1 4 ?_
      show mK Γ M_X5_takeNewItem (d + 2) Q 60 0 0 56 [(0, .ref 25), (1, .long (f_X6_valueAt_20 σ (σ.1 25 3)))] [] 60 mSH (g_X5_failIf_25 (g_X5_failIf_25 σ 1 2) 1 4)
      refine mK_aload_n dX5_takeNewItem_56 rfl rfl (.head _) ?_
      refine mK_dup dX5_takeNewItem_57 rfl rfl ?_
      refine ru_getI (k := 3) (ci := 4) dX5_takeNewItem_58 rfl rfl kw_265 ?_
      refine mK_iconst dX5_takeNewItem_61 rfl qic_1 ?_
      refine mK_iadd dX5_takeNewItem_62 rfl ?_
      refine ru_putI (k := 3) (ci := 4) dX5_takeNewItem_63 rfl rfl rfl kw_265 ?_
      refine mK_lload_n dX5_takeNewItem_66 rfl rfl (.tail _ (.head _)) ?_
      exact mK_lret dX5_takeNewItem_67 rfl (by rw [(show (h_X5_takeNewItem_25 σ) = ((f_X6_valueAt_20 σ (σ.1 25 3)), (mPI (g_X5_failIf_25 (g_X5_failIf_25 σ 1 2) 1 4) 25 3 (((g_X5_failIf_25 (g_X5_failIf_25 σ 1 2) 1 4).1 25 3) + 1))) from by unfold h_X5_takeNewItem_25; exact ((if_neg c1).trans ((if_neg c3).trans rfl)))] at hQ; exact hQ)
def h_X5_seeItem_25 (σ : mS) : Int32 × mS := if (mFind (σ.2.1 8) (f_X6_valueAt_20 σ (σ.1 25 3)) 0 (σ.1 5 10).toNatClampNeg) = (-1) then ((mFind (σ.2.1 8) (f_X6_valueAt_20 σ (σ.1 25 3)) 0 (σ.1 5 10).toNatClampNeg), (g_X5_failIf_25 σ 1 3)) else ((mFind (σ.2.1 8) (f_X6_valueAt_20 σ (σ.1 25 3)) 0 (σ.1 5 10).toNatClampNeg), (g_X5_failIf_25 σ 0 3))
set_option maxRecDepth 20000 in
theorem S_X5_seeItem_25 {Γ : Nat × (Nat → Int32)} {d : Nat} {Q : mQ} {σ : mS} (hs1 : ¬ ((σ.1 25 3) < 0) → ¬ ((σ.1 20 3) ≤ (σ.1 25 3)) → ¬ (400 < (σ.1 25 3)) → vp_in (σ.1 25 3) 401) (hs2 : cnt (σ.1 5 10) 40) (hQ : Q (.inl (some (.int (h_X5_seeItem_25 σ).1))) 60 mSH (h_X5_seeItem_25 σ).2) : mCall Γ M_X5_seeItem (d + 2) 0 0 [.ref 25] 60 mSH σ Q := by
  refine mCall_of rfl (by decide) (Nat.le_of_ble_eq_true rfl) (mOkC (mOk_lo (Nat.le_of_ble_eq_true rfl)) mOkN) ?_
  show mK Γ M_X5_seeItem (d + 2) Q 60 0 0 0 [(0, .ref 25)] [] 60 mSH σ
  refine mK_aload_n dX5_seeItem_0 rfl rfl (.head _) ?_
  refine ru_getR (k := 1) (ci := 4) (a := 5) dX5_seeItem_1 rfl rfl rfl kw_263 ?_
  refine mK_aload_n dX5_seeItem_4 rfl rfl (.head _) ?_
  refine ru_getR (k := 0) (ci := 4) (a := 20) dX5_seeItem_5 rfl rfl rfl kw_262 ?_
  refine mK_aload_n dX5_seeItem_8 rfl rfl (.head _) ?_
  refine ru_getI (k := 3) (ci := 4) dX5_seeItem_9 rfl rfl kw_265 ?_
  refine mK_invV (J := M_X6_valueAt) (k := 1) (as := [.int (σ.1 25 3)]) (st := [.ref 5]) (c1 := 0) (s1 := 0) dX5_seeItem_12 rfl jw_X6_valueAt jn_X6_valueAt rfl (Nat.le_of_ble_eq_true rfl) (Nat.zero_le _) (Nat.zero_le _) rfl kw_490 kw_491 kw_492 (b := 20) (Nat.le_of_ble_eq_true rfl) (Nat.le_of_ble_eq_true rfl) rfl ?_
  refine S_X6_valueAt_20 (σ.1 25 3) hs1 ?_
  show mK Γ M_X5_seeItem (d + 2) Q 60 0 0 15 [(0, .ref 25)] [.long (f_X6_valueAt_20 σ (σ.1 25 3)), .ref 5] 60 mSH σ
  refine mK_invV (J := M_X0_findItem) (k := 1) (as := [.long (f_X6_valueAt_20 σ (σ.1 25 3))]) (st := []) (c1 := 0) (s1 := 0) dX5_seeItem_15 rfl jw_X0_findItem jn_X0_findItem rfl (Nat.le_of_ble_eq_true rfl) (Nat.zero_le _) (Nat.zero_le _) rfl kw_524 kw_525 kw_526 (b := 5) (Nat.le_of_ble_eq_true rfl) (Nat.le_of_ble_eq_true rfl) rfl ?_
  refine S_X0_findItem (f_X6_valueAt_20 σ (σ.1 25 3)) hs2 ?_
  show mK Γ M_X5_seeItem (d + 2) Q 60 0 0 18 [(0, .ref 25)] [.int (mFind (σ.2.1 8) (f_X6_valueAt_20 σ (σ.1 25 3)) 0 (σ.1 5 10).toNatClampNeg)] 60 mSH σ
  refine ru_istore_n (lv1 := [(0, .ref 25), (1, .int (mFind (σ.2.1 8) (f_X6_valueAt_20 σ (σ.1 25 3)) 0 (σ.1 5 10).toNatClampNeg))]) dX5_seeItem_18 rfl rfl (by decide) rfl ?_
  refine mK_aload_n dX5_seeItem_19 rfl rfl (.head _) ?_
  refine mK_iload_n dX5_seeItem_20 rfl rfl (.tail _ (.head _)) ?_
  refine mK_iconst dX5_seeItem_21 rfl qic_m1 ?_
  refine ru_icmp_ne (tgt := 29) dX5_seeItem_22 rfl (by decide) (fun c1 => ?_) (fun c1 => ?_)
  · refine mK_iconst dX5_seeItem_29 rfl qic_0 ?_
    refine mK_iconst dX5_seeItem_30 rfl qic_3 ?_
    refine mK_invV (J := M_X5_failIf) (k := 2) (as := [.int 0, .int 3]) (st := []) (c1 := 0) (s1 := 0) dX5_seeItem_31 rfl jw_X5_failIf jn_X5_failIf rfl (Nat.le_of_ble_eq_true rfl) (Nat.zero_le _) (Nat.zero_le _) rfl kw_498 kw_500 kw_15 (b := 25) (Nat.le_of_ble_eq_true rfl) (Nat.le_of_ble_eq_true rfl) rfl ?_
    refine S_X5_failIf_25 0 3 ?_
    show mK Γ M_X5_seeItem (d + 2) Q 60 0 0 34 [(0, .ref 25), (1, .int (mFind (σ.2.1 8) (f_X6_valueAt_20 σ (σ.1 25 3)) 0 (σ.1 5 10).toNatClampNeg))] [] 60 mSH (g_X5_failIf_25 σ 0 3)
    refine mK_iload_n dX5_seeItem_34 rfl rfl (.tail _ (.head _)) ?_
    exact mK_iret dX5_seeItem_35 rfl (by rw [(show (h_X5_seeItem_25 σ) = ((mFind (σ.2.1 8) (f_X6_valueAt_20 σ (σ.1 25 3)) 0 (σ.1 5 10).toNatClampNeg), (g_X5_failIf_25 σ 0 3)) from by unfold h_X5_seeItem_25; exact ((if_neg c1).trans rfl))] at hQ; exact hQ)
  · refine mK_iconst dX5_seeItem_25 rfl qic_1 ?_
    refine mK_goto (tgt := 30) dX5_seeItem_26 (by decide) ?_
    refine mK_iconst dX5_seeItem_30 rfl qic_3 ?_
    refine mK_invV (J := M_X5_failIf) (k := 2) (as := [.int 1, .int 3]) (st := []) (c1 := 0) (s1 := 0) dX5_seeItem_31 rfl jw_X5_failIf jn_X5_failIf rfl (Nat.le_of_ble_eq_true rfl) (Nat.zero_le _) (Nat.zero_le _) rfl kw_498 kw_500 kw_15 (b := 25) (Nat.le_of_ble_eq_true rfl) (Nat.le_of_ble_eq_true rfl) rfl ?_
    refine S_X5_failIf_25 1 3 ?_
    show mK Γ M_X5_seeItem (d + 2) Q 60 0 0 34 [(0, .ref 25), (1, .int (mFind (σ.2.1 8) (f_X6_valueAt_20 σ (σ.1 25 3)) 0 (σ.1 5 10).toNatClampNeg))] [] 60 mSH (g_X5_failIf_25 σ 1 3)
    refine mK_iload_n dX5_seeItem_34 rfl rfl (.tail _ (.head _)) ?_
    exact mK_iret dX5_seeItem_35 rfl (by rw [(show (h_X5_seeItem_25 σ) = ((mFind (σ.2.1 8) (f_X6_valueAt_20 σ (σ.1 25 3)) 0 (σ.1 5 10).toNatClampNeg), (g_X5_failIf_25 σ 1 3)) from by unfold h_X5_seeItem_25; exact ((if_pos c1).trans rfl))] at hQ; exact hQ)
def h_X9_newName_26 (σ : mS) (a1 : Int32) : Int32 × mS := if (mFind (σ.2.1 35) (σ.2.1 31 (a1).toNatClampNeg) 0 (σ.1 32 3).toNatClampNeg) = (-1) then (if (σ.1 32 3) = 40 then ((h_X9_fail_26 σ 4 a1).1, (h_X9_fail_26 σ 4 a1).2) else (0, σ)) else ((h_X9_fail_26 σ 2 a1).1, (h_X9_fail_26 σ 2 a1).2)
set_option maxRecDepth 20000 in
theorem S_X9_newName_26 {Γ : Nat × (Nat → Int32)} {d : Nat} {Q : mQ} {σ : mS} (a1 : Int32) (hs1 : vp_in a1 402) (hs2 : cnt (σ.1 32 3) 40) (hQ : Q (.inl (some (.int (h_X9_newName_26 σ a1).1))) 60 mSH (h_X9_newName_26 σ a1).2) : mCall Γ M_X9_newName (d + 2) 0 0 [.ref 26, .int a1] 60 mSH σ Q := by
  refine mCall_of rfl (by decide) (Nat.le_of_ble_eq_true rfl) (mOkC (mOk_lo (Nat.le_of_ble_eq_true rfl)) (mOkC mOk_i mOkN)) ?_
  show mK Γ M_X9_newName (d + 2) Q 60 0 0 0 [(0, .ref 26), (1, .int a1)] [] 60 mSH σ
  refine mK_aload_n dX9_newName_0 rfl rfl (.head _) ?_
  refine ru_getR (k := 11) (ci := 8) (a := 32) dX9_newName_1 rfl rfl rfl kw_1138 ?_
  refine mK_aload_n dX9_newName_4 rfl rfl (.head _) ?_
  refine ru_getR (k := 9) (ci := 8) (a := 31) dX9_newName_5 rfl rfl rfl kw_1136 ?_
  refine mK_iload_n dX9_newName_8 rfl rfl (.tail _ (.head _)) ?_
  refine ru_lald (n := 402) dX9_newName_9 rfl rfl hs1 ?_
  refine mK_invV (J := M_X8_itemOf) (k := 1) (as := [.long (σ.2.1 31 (a1).toNatClampNeg)]) (st := []) (c1 := 0) (s1 := 0) dX9_newName_10 rfl jw_X8_itemOf jn_X8_itemOf rfl (Nat.le_of_ble_eq_true rfl) (Nat.zero_le _) (Nat.zero_le _) rfl kw_1401 kw_1402 kw_1403 (b := 32) (Nat.le_of_ble_eq_true rfl) (Nat.le_of_ble_eq_true rfl) rfl ?_
  refine S_X8_itemOf (σ.2.1 31 (a1).toNatClampNeg) hs2 ?_
  show mK Γ M_X9_newName (d + 2) Q 60 0 0 13 [(0, .ref 26), (1, .int a1)] [.int (mFind (σ.2.1 35) (σ.2.1 31 (a1).toNatClampNeg) 0 (σ.1 32 3).toNatClampNeg)] 60 mSH σ
  refine mK_iconst dX9_newName_13 rfl qic_m1 ?_
  refine mK_icmp_eq (tgt := 24) dX9_newName_14 rfl (by decide) (fun c1 => ?_) (fun c1 => ?_)
  · refine mK_aload_n dX9_newName_24 rfl rfl (.head _) ?_
    refine ru_getR (k := 11) (ci := 8) (a := 32) dX9_newName_25 rfl rfl rfl kw_1138 ?_
    refine ru_getIN (k := 3) (ci := 7) dX9_newName_28 rfl rfl kn_1086 ?_
    refine mK_bipush dX9_newName_31 rfl qbi_40 ?_
    refine ru_icmp_ne (tgt := 45) dX9_newName_33 rfl (by decide) (fun c2 => ?_) (fun c2 => ?_)
    · refine mK_iconst dX9_newName_45 rfl qic_0 ?_
      exact mK_iret dX9_newName_46 rfl (by rw [(show (h_X9_newName_26 σ a1) = (0, σ) from by unfold h_X9_newName_26; exact ((if_pos c1).trans ((if_neg c2).trans rfl)))] at hQ; exact hQ)
    · refine mK_aload_n dX9_newName_36 rfl rfl (.head _) ?_
      refine mK_iconst dX9_newName_37 rfl qic_4 ?_
      refine mK_iload_n dX9_newName_38 rfl rfl (.tail _ (.head _)) ?_
      refine mK_invV (J := M_X9_fail) (k := 2) (as := [.int 4, .int a1]) (st := []) (c1 := 0) (s1 := 0) dX9_newName_39 rfl jw_X9_fail jn_X9_fail rfl (Nat.le_of_ble_eq_true rfl) (Nat.zero_le _) (Nat.zero_le _) rfl kw_1367 kw_1369 kw_53 (b := 26) (Nat.le_of_ble_eq_true rfl) (Nat.le_of_ble_eq_true rfl) rfl ?_
      refine S_X9_fail_26 4 a1 hs1 ?_
      show mK Γ M_X9_newName (d + 2) Q 60 0 0 42 [(0, .ref 26), (1, .int a1)] [.int (h_X9_fail_26 σ 4 a1).1] 60 mSH (h_X9_fail_26 σ 4 a1).2
      refine mK_goto (tgt := 46) dX9_newName_42 (by decide) ?_
      exact mK_iret dX9_newName_46 rfl (by rw [(show (h_X9_newName_26 σ a1) = ((h_X9_fail_26 σ 4 a1).1, (h_X9_fail_26 σ 4 a1).2) from by unfold h_X9_newName_26; exact ((if_pos c1).trans ((if_pos c2).trans rfl)))] at hQ; exact hQ)
  · refine mK_aload_n dX9_newName_17 rfl rfl (.head _) ?_
    refine mK_iconst dX9_newName_18 rfl qic_2 ?_
    refine mK_iload_n dX9_newName_19 rfl rfl (.tail _ (.head _)) ?_
    refine mK_invV (J := M_X9_fail) (k := 2) (as := [.int 2, .int a1]) (st := []) (c1 := 0) (s1 := 0) dX9_newName_20 rfl jw_X9_fail jn_X9_fail rfl (Nat.le_of_ble_eq_true rfl) (Nat.zero_le _) (Nat.zero_le _) rfl kw_1367 kw_1369 kw_53 (b := 26) (Nat.le_of_ble_eq_true rfl) (Nat.le_of_ble_eq_true rfl) rfl ?_
    refine S_X9_fail_26 2 a1 hs1 ?_
    show mK Γ M_X9_newName (d + 2) Q 60 0 0 23 [(0, .ref 26), (1, .int a1)] [.int (h_X9_fail_26 σ 2 a1).1] 60 mSH (h_X9_fail_26 σ 2 a1).2
    exact mK_iret dX9_newName_23 rfl (by rw [(show (h_X9_newName_26 σ a1) = ((h_X9_fail_26 σ 2 a1).1, (h_X9_fail_26 σ 2 a1).2) from by unfold h_X9_newName_26; exact ((if_neg c1).trans rfl))] at hQ; exact hQ)
def h_X9_concedeLine_26 (σ : mS) (a1 : Int32) : Int32 × mS := if (mFind (σ.2.1 35) (σ.2.1 31 ((σ.1 26 10) + 1).toNatClampNeg) 0 (σ.1 32 3).toNatClampNeg) = (-1) then ((h_X9_fail_26 σ 3 ((σ.1 26 10) + 1)).1, (h_X9_fail_26 σ 3 ((σ.1 26 10) + 1)).2) else (if (σ.1 41 (mFind (σ.2.1 35) (σ.2.1 31 ((σ.1 26 10) + 1).toNatClampNeg) 0 (σ.1 32 3).toNatClampNeg).toNatClampNeg) = a1 then ((h_X9_fail_26 σ 6 ((σ.1 26 10) + 1)).1, (h_X9_fail_26 σ 6 ((σ.1 26 10) + 1)).2) else (if (h_X9_take_26 (mPI σ 26 10 ((σ.1 26 10) + 2)) (σ.1 37 (mFind (σ.2.1 35) (σ.2.1 31 ((σ.1 26 10) + 1).toNatClampNeg) 0 (σ.1 32 3).toNatClampNeg).toNatClampNeg) 2).1 = 0 then ((h_X9_take_26 (mPI σ 26 10 ((σ.1 26 10) + 2)) (σ.1 37 (mFind (σ.2.1 35) (σ.2.1 31 ((σ.1 26 10) + 1).toNatClampNeg) 0 (σ.1 32 3).toNatClampNeg).toNatClampNeg) 2).1, (mPI (h_X9_take_26 (mPI σ 26 10 ((σ.1 26 10) + 2)) (σ.1 37 (mFind (σ.2.1 35) (σ.2.1 31 ((σ.1 26 10) + 1).toNatClampNeg) 0 (σ.1 32 3).toNatClampNeg).toNatClampNeg) 2).2 41 (mFind (σ.2.1 35) (σ.2.1 31 ((σ.1 26 10) + 1).toNatClampNeg) 0 (σ.1 32 3).toNatClampNeg).toNatClampNeg a1)) else ((h_X9_take_26 (mPI σ 26 10 ((σ.1 26 10) + 2)) (σ.1 37 (mFind (σ.2.1 35) (σ.2.1 31 ((σ.1 26 10) + 1).toNatClampNeg) 0 (σ.1 32 3).toNatClampNeg).toNatClampNeg) 2).1, (h_X9_take_26 (mPI σ 26 10 ((σ.1 26 10) + 2)) (σ.1 37 (mFind (σ.2.1 35) (σ.2.1 31 ((σ.1 26 10) + 1).toNatClampNeg) 0 (σ.1 32 3).toNatClampNeg).toNatClampNeg) 2).2)))
set_option maxRecDepth 20000 in
theorem S_X9_concedeLine_26 {Γ : Nat × (Nat → Int32)} {d : Nat} {Q : mQ} {σ : mS} (a1 : Int32) (hs1 : vp_in ((σ.1 26 10) + 1) 402) (hs2 : cnt (σ.1 32 3) 40) (hs3 : ¬ ((mFind (σ.2.1 35) (σ.2.1 31 ((σ.1 26 10) + 1).toNatClampNeg) 0 (σ.1 32 3).toNatClampNeg) = (-1)) → vp_in (mFind (σ.2.1 35) (σ.2.1 31 ((σ.1 26 10) + 1).toNatClampNeg) 0 (σ.1 32 3).toNatClampNeg) 40) (hs4 : ¬ ((mFind (σ.2.1 35) (σ.2.1 31 ((σ.1 26 10) + 1).toNatClampNeg) 0 (σ.1 32 3).toNatClampNeg) = (-1)) → ¬ ((σ.1 41 (mFind (σ.2.1 35) (σ.2.1 31 ((σ.1 26 10) + 1).toNatClampNeg) 0 (σ.1 32 3).toNatClampNeg).toNatClampNeg) = a1) → vp_in (σ.1 37 (mFind (σ.2.1 35) (σ.2.1 31 ((σ.1 26 10) + 1).toNatClampNeg) 0 (σ.1 32 3).toNatClampNeg).toNatClampNeg) 6) (hs5 : ¬ ((mFind (σ.2.1 35) (σ.2.1 31 ((σ.1 26 10) + 1).toNatClampNeg) 0 (σ.1 32 3).toNatClampNeg) = (-1)) → ¬ ((σ.1 41 (mFind (σ.2.1 35) (σ.2.1 31 ((σ.1 26 10) + 1).toNatClampNeg) 0 (σ.1 32 3).toNatClampNeg).toNatClampNeg) = a1) → ¬ (2 ≤ ((mPI σ 26 10 ((σ.1 26 10) + 2)).1 34 ((σ.1 37 (mFind (σ.2.1 35) (σ.2.1 31 ((σ.1 26 10) + 1).toNatClampNeg) 0 (σ.1 32 3).toNatClampNeg).toNatClampNeg)).toNatClampNeg)) → vp_in ((mPI σ 26 10 ((σ.1 26 10) + 2)).1 26 10) 402) (hQ : Q (.inl (some (.int (h_X9_concedeLine_26 σ a1).1))) 60 mSH (h_X9_concedeLine_26 σ a1).2) : mCall Γ M_X9_concedeLine (d + 3) 0 0 [.ref 26, .int a1] 60 mSH σ Q := by
  refine mCall_of rfl (by decide) (Nat.le_of_ble_eq_true rfl) (mOkC (mOk_lo (Nat.le_of_ble_eq_true rfl)) (mOkC mOk_i mOkN)) ?_
  show mK Γ M_X9_concedeLine (d + 3) Q 60 0 0 0 [(0, .ref 26), (1, .int a1)] [] 60 mSH σ
  refine mK_aload_n dX9_concedeLine_0 rfl rfl (.head _) ?_
  refine ru_getI (k := 10) (ci := 8) dX9_concedeLine_1 rfl rfl kw_1137 ?_
  refine mK_iconst dX9_concedeLine_4 rfl qic_1 ?_
  refine mK_iadd dX9_concedeLine_5 rfl ?_
  refine ru_istore_n (lv1 := [(0, .ref 26), (1, .int a1), (2, .int ((σ.1 26 10) + 1))]) dX9_concedeLine_6 rfl rfl (by decide) rfl ?_
  refine mK_aload_n dX9_concedeLine_7 rfl rfl (.head _) ?_
  refine ru_getR (k := 11) (ci := 8) (a := 32) dX9_concedeLine_8 rfl rfl rfl kw_1138 ?_
  refine mK_aload_n dX9_concedeLine_11 rfl rfl (.head _) ?_
  refine ru_getR (k := 9) (ci := 8) (a := 31) dX9_concedeLine_12 rfl rfl rfl kw_1136 ?_
  refine mK_iload_n dX9_concedeLine_15 rfl rfl (.tail _ (.tail _ (.head _))) ?_
  refine ru_lald (n := 402) dX9_concedeLine_16 rfl rfl hs1 ?_
  refine mK_invV (J := M_X8_itemOf) (k := 1) (as := [.long (σ.2.1 31 ((σ.1 26 10) + 1).toNatClampNeg)]) (st := []) (c1 := 0) (s1 := 0) dX9_concedeLine_17 rfl jw_X8_itemOf jn_X8_itemOf rfl (Nat.le_of_ble_eq_true rfl) (Nat.zero_le _) (Nat.zero_le _) rfl kw_1401 kw_1402 kw_1403 (b := 32) (Nat.le_of_ble_eq_true rfl) (Nat.le_of_ble_eq_true rfl) rfl ?_
  refine S_X8_itemOf (σ.2.1 31 ((σ.1 26 10) + 1).toNatClampNeg) hs2 ?_
  show mK Γ M_X9_concedeLine (d + 3) Q 60 0 0 20 [(0, .ref 26), (1, .int a1), (2, .int ((σ.1 26 10) + 1))] [.int (mFind (σ.2.1 35) (σ.2.1 31 ((σ.1 26 10) + 1).toNatClampNeg) 0 (σ.1 32 3).toNatClampNeg)] 60 mSH σ
  refine ru_istore_n (lv1 := [(0, .ref 26), (1, .int a1), (2, .int ((σ.1 26 10) + 1)), (3, .int (mFind (σ.2.1 35) (σ.2.1 31 ((σ.1 26 10) + 1).toNatClampNeg) 0 (σ.1 32 3).toNatClampNeg))]) dX9_concedeLine_20 rfl rfl (by decide) rfl ?_
  refine mK_iload_n dX9_concedeLine_21 rfl rfl (.tail _ (.tail _ (.tail _ (.head _)))) ?_
  refine mK_iconst dX9_concedeLine_22 rfl qic_m1 ?_
  refine ru_icmp_ne (tgt := 33) dX9_concedeLine_23 rfl (by decide) (fun c1 => ?_) (fun c1 => ?_)
  · refine mK_aload_n dX9_concedeLine_33 rfl rfl (.head _) ?_
    refine ru_getR (k := 11) (ci := 8) (a := 32) dX9_concedeLine_34 rfl rfl rfl kw_1138 ?_
    refine ru_getRN (k := 10) (ci := 7) (a := 41) dX9_concedeLine_37 rfl rfl rfl kn_1100 ?_
    refine mK_iload_n dX9_concedeLine_40 rfl rfl (.tail _ (.tail _ (.tail _ (.head _)))) ?_
    refine ru_iald (n := 40) dX9_concedeLine_41 rfl rfl (hs3 c1) ?_
    refine mK_iload_n dX9_concedeLine_42 rfl rfl (.tail _ (.head _)) ?_
    refine ru_icmp_ne (tgt := 54) dX9_concedeLine_43 rfl (by decide) (fun c2 => ?_) (fun c2 => ?_)
    · refine mK_aload_n dX9_concedeLine_54 rfl rfl (.head _) ?_
      refine mK_dup dX9_concedeLine_55 rfl rfl ?_
      refine ru_getI (k := 10) (ci := 8) dX9_concedeLine_56 rfl rfl kw_1137 ?_
      refine mK_iconst dX9_concedeLine_59 rfl qic_2 ?_
      refine mK_iadd dX9_concedeLine_60 rfl ?_
      refine ru_putI (k := 10) (ci := 8) dX9_concedeLine_61 rfl rfl rfl kw_1137 ?_
      refine mK_aload_n dX9_concedeLine_64 rfl rfl (.head _) ?_
      refine mK_aload_n dX9_concedeLine_65 rfl rfl (.head _) ?_
      refine ru_getR (k := 11) (ci := 8) (a := 32) dX9_concedeLine_66 rfl rfl rfl kw_1138 ?_
      refine ru_getRN (k := 6) (ci := 7) (a := 37) dX9_concedeLine_69 rfl rfl rfl kn_1092 ?_
      refine mK_iload_n dX9_concedeLine_72 rfl rfl (.tail _ (.tail _ (.tail _ (.head _)))) ?_
      refine ru_iald (n := 40) dX9_concedeLine_73 rfl rfl (hs3 c1) ?_
      refine mK_iconst dX9_concedeLine_74 rfl qic_2 ?_
      refine mK_invV (J := M_X9_take) (k := 2) (as := [.int (σ.1 37 (mFind (σ.2.1 35) (σ.2.1 31 ((σ.1 26 10) + 1).toNatClampNeg) 0 (σ.1 32 3).toNatClampNeg).toNatClampNeg), .int 2]) (st := []) (c1 := 0) (s1 := 0) dX9_concedeLine_75 rfl jw_X9_take jn_X9_take rfl (Nat.le_of_ble_eq_true rfl) (Nat.zero_le _) (Nat.zero_le _) rfl kw_1409 kw_1411 kw_60 (b := 26) (Nat.le_of_ble_eq_true rfl) (Nat.le_of_ble_eq_true rfl) rfl ?_
      refine S_X9_take_26 (σ.1 37 (mFind (σ.2.1 35) (σ.2.1 31 ((σ.1 26 10) + 1).toNatClampNeg) 0 (σ.1 32 3).toNatClampNeg).toNatClampNeg) 2 (hs4 c1 c2) (hs5 c1 c2) ?_
      show mK Γ M_X9_concedeLine (d + 3) Q 60 0 0 78 [(0, .ref 26), (1, .int a1), (2, .int ((σ.1 26 10) + 1)), (3, .int (mFind (σ.2.1 35) (σ.2.1 31 ((σ.1 26 10) + 1).toNatClampNeg) 0 (σ.1 32 3).toNatClampNeg))] [.int (h_X9_take_26 (mPI σ 26 10 ((σ.1 26 10) + 2)) (σ.1 37 (mFind (σ.2.1 35) (σ.2.1 31 ((σ.1 26 10) + 1).toNatClampNeg) 0 (σ.1 32 3).toNatClampNeg).toNatClampNeg) 2).1] 60 mSH (h_X9_take_26 (mPI σ 26 10 ((σ.1 26 10) + 2)) (σ.1 37 (mFind (σ.2.1 35) (σ.2.1 31 ((σ.1 26 10) + 1).toNatClampNeg) 0 (σ.1 32 3).toNatClampNeg).toNatClampNeg) 2).2
      refine ru_istore (lv1 := [(0, .ref 26), (1, .int a1), (2, .int ((σ.1 26 10) + 1)), (3, .int (mFind (σ.2.1 35) (σ.2.1 31 ((σ.1 26 10) + 1).toNatClampNeg) 0 (σ.1 32 3).toNatClampNeg)), (4, .int (h_X9_take_26 (mPI σ 26 10 ((σ.1 26 10) + 2)) (σ.1 37 (mFind (σ.2.1 35) (σ.2.1 31 ((σ.1 26 10) + 1).toNatClampNeg) 0 (σ.1 32 3).toNatClampNeg).toNatClampNeg) 2).1)]) dX9_concedeLine_78 rfl (by decide) rfl ?_
      refine mK_iload dX9_concedeLine_80 rfl (.tail _ (.tail _ (.tail _ (.tail _ (.head _))))) ?_
      refine ru_if_ne (tgt := 95) dX9_concedeLine_82 rfl (by decide) (fun c3 => ?_) (fun c3 => ?_)
      · refine mK_iload dX9_concedeLine_95 rfl (.tail _ (.tail _ (.tail _ (.tail _ (.head _))))) ?_
        exact mK_iret dX9_concedeLine_97 rfl (by rw [(show (h_X9_concedeLine_26 σ a1) = ((h_X9_take_26 (mPI σ 26 10 ((σ.1 26 10) + 2)) (σ.1 37 (mFind (σ.2.1 35) (σ.2.1 31 ((σ.1 26 10) + 1).toNatClampNeg) 0 (σ.1 32 3).toNatClampNeg).toNatClampNeg) 2).1, (h_X9_take_26 (mPI σ 26 10 ((σ.1 26 10) + 2)) (σ.1 37 (mFind (σ.2.1 35) (σ.2.1 31 ((σ.1 26 10) + 1).toNatClampNeg) 0 (σ.1 32 3).toNatClampNeg).toNatClampNeg) 2).2) from by unfold h_X9_concedeLine_26; exact ((if_neg c1).trans ((if_neg c2).trans ((if_neg c3).trans rfl))))] at hQ; exact hQ)
      · refine mK_aload_n dX9_concedeLine_85 rfl rfl (.head _) ?_
        refine ru_getR (k := 11) (ci := 8) (a := 32) dX9_concedeLine_86 rfl rfl rfl kw_1138 ?_
        refine ru_getRN (k := 10) (ci := 7) (a := 41) dX9_concedeLine_89 rfl rfl rfl kn_1100 ?_
        refine mK_iload_n dX9_concedeLine_92 rfl rfl (.tail _ (.tail _ (.tail _ (.head _)))) ?_
        refine mK_iload_n dX9_concedeLine_93 rfl rfl (.tail _ (.head _)) ?_
        refine ru_iast (n := 40) dX9_concedeLine_94 rfl rfl (hs3 c1) ?_
        refine mK_iload dX9_concedeLine_95 rfl (.tail _ (.tail _ (.tail _ (.tail _ (.head _))))) ?_
        exact mK_iret dX9_concedeLine_97 rfl (by rw [(show (h_X9_concedeLine_26 σ a1) = ((h_X9_take_26 (mPI σ 26 10 ((σ.1 26 10) + 2)) (σ.1 37 (mFind (σ.2.1 35) (σ.2.1 31 ((σ.1 26 10) + 1).toNatClampNeg) 0 (σ.1 32 3).toNatClampNeg).toNatClampNeg) 2).1, (mPI (h_X9_take_26 (mPI σ 26 10 ((σ.1 26 10) + 2)) (σ.1 37 (mFind (σ.2.1 35) (σ.2.1 31 ((σ.1 26 10) + 1).toNatClampNeg) 0 (σ.1 32 3).toNatClampNeg).toNatClampNeg) 2).2 41 (mFind (σ.2.1 35) (σ.2.1 31 ((σ.1 26 10) + 1).toNatClampNeg) 0 (σ.1 32 3).toNatClampNeg).toNatClampNeg a1)) from by unfold h_X9_concedeLine_26; exact ((if_neg c1).trans ((if_neg c2).trans ((if_pos c3).trans rfl))))] at hQ; exact hQ)
    · refine mK_aload_n dX9_concedeLine_46 rfl rfl (.head _) ?_
      refine mK_bipush dX9_concedeLine_47 rfl qbi_6 ?_
      refine mK_iload_n dX9_concedeLine_49 rfl rfl (.tail _ (.tail _ (.head _))) ?_
      refine mK_invV (J := M_X9_fail) (k := 2) (as := [.int 6, .int ((σ.1 26 10) + 1)]) (st := []) (c1 := 0) (s1 := 0) dX9_concedeLine_50 rfl jw_X9_fail jn_X9_fail rfl (Nat.le_of_ble_eq_true rfl) (Nat.zero_le _) (Nat.zero_le _) rfl kw_1367 kw_1369 kw_53 (b := 26) (Nat.le_of_ble_eq_true rfl) (Nat.le_of_ble_eq_true rfl) rfl ?_
      refine S_X9_fail_26 6 ((σ.1 26 10) + 1) hs1 ?_
      show mK Γ M_X9_concedeLine (d + 3) Q 60 0 0 53 [(0, .ref 26), (1, .int a1), (2, .int ((σ.1 26 10) + 1)), (3, .int (mFind (σ.2.1 35) (σ.2.1 31 ((σ.1 26 10) + 1).toNatClampNeg) 0 (σ.1 32 3).toNatClampNeg))] [.int (h_X9_fail_26 σ 6 ((σ.1 26 10) + 1)).1] 60 mSH (h_X9_fail_26 σ 6 ((σ.1 26 10) + 1)).2
      exact mK_iret dX9_concedeLine_53 rfl (by rw [(show (h_X9_concedeLine_26 σ a1) = ((h_X9_fail_26 σ 6 ((σ.1 26 10) + 1)).1, (h_X9_fail_26 σ 6 ((σ.1 26 10) + 1)).2) from by unfold h_X9_concedeLine_26; exact ((if_neg c1).trans ((if_pos c2).trans rfl)))] at hQ; exact hQ)
  · refine mK_aload_n dX9_concedeLine_26 rfl rfl (.head _) ?_
    refine mK_iconst dX9_concedeLine_27 rfl qic_3 ?_
    refine mK_iload_n dX9_concedeLine_28 rfl rfl (.tail _ (.tail _ (.head _))) ?_
    refine mK_invV (J := M_X9_fail) (k := 2) (as := [.int 3, .int ((σ.1 26 10) + 1)]) (st := []) (c1 := 0) (s1 := 0) dX9_concedeLine_29 rfl jw_X9_fail jn_X9_fail rfl (Nat.le_of_ble_eq_true rfl) (Nat.zero_le _) (Nat.zero_le _) rfl kw_1367 kw_1369 kw_53 (b := 26) (Nat.le_of_ble_eq_true rfl) (Nat.le_of_ble_eq_true rfl) rfl ?_
    refine S_X9_fail_26 3 ((σ.1 26 10) + 1) hs1 ?_
    show mK Γ M_X9_concedeLine (d + 3) Q 60 0 0 32 [(0, .ref 26), (1, .int a1), (2, .int ((σ.1 26 10) + 1)), (3, .int (mFind (σ.2.1 35) (σ.2.1 31 ((σ.1 26 10) + 1).toNatClampNeg) 0 (σ.1 32 3).toNatClampNeg))] [.int (h_X9_fail_26 σ 3 ((σ.1 26 10) + 1)).1] 60 mSH (h_X9_fail_26 σ 3 ((σ.1 26 10) + 1)).2
    exact mK_iret dX9_concedeLine_32 rfl (by rw [(show (h_X9_concedeLine_26 σ a1) = ((h_X9_fail_26 σ 3 ((σ.1 26 10) + 1)).1, (h_X9_fail_26 σ 3 ((σ.1 26 10) + 1)).2) from by unfold h_X9_concedeLine_26; exact ((if_pos c1).trans rfl))] at hQ; exact hQ)
