def f_X0_hasItem_5 (σ : mS) (a1 : Int32) : Int32 := if a1 < 0 then 0 else (if (σ.1 5 10) ≤ a1 then 0 else (if 40 ≤ a1 then 0 else 1))
set_option maxRecDepth 20000 in
theorem S_X0_hasItem_5 {Γ : Nat × (Nat → Int32)} {d : Nat} {Q : mQ} {σ : mS} (a1 : Int32) (hQ : Q (.inl (some (.int (f_X0_hasItem_5 σ a1)))) 60 mSH σ) : mCall Γ M_X0_hasItem (d + 1) 0 0 [.ref 5, .int a1] 60 mSH σ Q := by
  refine mCall_of rfl (by decide) (Nat.le_of_ble_eq_true rfl) (mOkC (mOk_lo (Nat.le_of_ble_eq_true rfl)) (mOkC mOk_i mOkN)) ?_
  show mK Γ M_X0_hasItem (d + 1) Q 60 0 0 0 [(0, .ref 5), (1, .int a1)] [] 60 mSH σ
  refine mK_iload_n dX0_hasItem_0 rfl rfl (.tail _ (.head _)) ?_
  refine mK_if_lt (tgt := 22) dX0_hasItem_1 rfl (by decide) (fun c1 => ?_) (fun c1 => ?_)
  · refine mK_iconst dX0_hasItem_22 rfl qic_0 ?_
    exact mK_zret dX0_hasItem_23 rfl (by decide) (by rw [(show (f_X0_hasItem_5 σ a1) = 0 from by unfold f_X0_hasItem_5; exact ((if_pos c1).trans rfl))] at hQ; exact hQ)
  · refine mK_iload_n dX0_hasItem_4 rfl rfl (.tail _ (.head _)) ?_
    refine mK_aload_n dX0_hasItem_5 rfl rfl (.head _) ?_
    refine ru_getI (k := 10) (ci := 0) dX0_hasItem_6 rfl rfl kw_152 ?_
    refine mK_icmp_ge (tgt := 22) dX0_hasItem_9 rfl (by decide) (fun c2 => ?_) (fun c2 => ?_)
    · refine mK_iconst dX0_hasItem_22 rfl qic_0 ?_
      exact mK_zret dX0_hasItem_23 rfl (by decide) (by rw [(show (f_X0_hasItem_5 σ a1) = 0 from by unfold f_X0_hasItem_5; exact ((if_neg c1).trans ((if_pos c2).trans rfl)))] at hQ; exact hQ)
    · refine mK_iload_n dX0_hasItem_12 rfl rfl (.tail _ (.head _)) ?_
      refine mK_bipush dX0_hasItem_13 rfl qbi_40 ?_
      refine mK_icmp_ge (tgt := 22) dX0_hasItem_15 rfl (by decide) (fun c3 => ?_) (fun c3 => ?_)
      · refine mK_iconst dX0_hasItem_22 rfl qic_0 ?_
        exact mK_zret dX0_hasItem_23 rfl (by decide) (by rw [(show (f_X0_hasItem_5 σ a1) = 0 from by unfold f_X0_hasItem_5; exact ((if_neg c1).trans ((if_neg c2).trans ((if_pos c3).trans rfl))))] at hQ; exact hQ)
      · refine mK_iconst dX0_hasItem_18 rfl qic_1 ?_
        refine mK_goto (tgt := 23) dX0_hasItem_19 (by decide) ?_
        exact mK_zret dX0_hasItem_23 rfl (by decide) (by rw [(show (f_X0_hasItem_5 σ a1) = 1 from by unfold f_X0_hasItem_5; exact ((if_neg c1).trans ((if_neg c2).trans ((if_neg c3).trans rfl))))] at hQ; exact hQ)
def f_X0_kindOf_5 (σ : mS) (a1 : Int32) : Int32 := if (f_X0_hasItem_5 σ a1) = 0 then (-1) else (σ.1 9 (a1).toNatClampNeg)
set_option maxRecDepth 20000 in
theorem S0_X0_kindOf_5 {Γ : Nat × (Nat → Int32)} {d : Nat} {Q : mQ} {σ : mS} (a1 : Int32) (hs1 : ¬ ((f_X0_hasItem_5 σ a1) = 0) → vp_in a1 40) (hQ : Q (.inl (some (.int (f_X0_kindOf_5 σ a1)))) 60 mSH σ) : mCall Γ M_X0_kindOf (d + 2) 0 0 [.ref 5, .int a1] 60 mSH σ Q := by
  refine mCall_of rfl (by decide) (Nat.le_of_ble_eq_true rfl) (mOkC (mOk_lo (Nat.le_of_ble_eq_true rfl)) (mOkC mOk_i mOkN)) ?_
  refine mK_aload_n dX0_kindOf_0 rfl rfl (.head _) ?_
  refine mK_iload_n dX0_kindOf_1 rfl rfl (.tail _ (.head _)) ?_
  refine mK_invV (J := M_X0_hasItem) (k := 1) (as := [.int a1]) (st := []) (c1 := 0) (s1 := 0) dX0_kindOf_2 rfl jw_X0_hasItem jn_X0_hasItem rfl (Nat.le_of_ble_eq_true rfl) (Nat.zero_le _) (Nat.zero_le _) rfl kw_565 kw_566 kw_567 (b := 5) (Nat.le_of_ble_eq_true rfl) (Nat.le_of_ble_eq_true rfl) rfl ?_
  refine S_X0_hasItem_5 a1 ?_
  refine mK_if_eq (tgt := 17) dX0_kindOf_5 rfl (by decide) (fun c1 => ?_) (fun c1 => ?_)
  · refine mK_iconst dX0_kindOf_17 rfl qic_m1 ?_
    exact mK_iret dX0_kindOf_18 rfl (by rw [(show (f_X0_kindOf_5 σ a1) = (-1) from by unfold f_X0_kindOf_5; exact ((if_pos c1).trans rfl))] at hQ; exact hQ)
  · refine mK_aload_n dX0_kindOf_8 rfl rfl (.head _) ?_
    refine ru_getR (k := 4) (ci := 0) (a := 9) dX0_kindOf_9 rfl rfl rfl kw_146 ?_
    refine mK_iload_n dX0_kindOf_12 rfl rfl (.tail _ (.head _)) ?_
    refine ru_iald (n := 40) dX0_kindOf_13 rfl rfl (hs1 c1) ?_
    refine mK_goto (tgt := 18) dX0_kindOf_14 (by decide) ?_
    exact mK_iret dX0_kindOf_18 rfl (by rw [(show (f_X0_kindOf_5 σ a1) = (σ.1 9 (a1).toNatClampNeg) from by unfold f_X0_kindOf_5; exact ((if_neg c1).trans rfl))] at hQ; exact hQ)
set_option maxRecDepth 20000 in
theorem S1_X0_kindOf_5 {Γ : Nat × (Nat → Int32)} {d : Nat} {Q : mQ} {σ : mS} (a1 : Int32) (hs1 : ¬ ((f_X0_hasItem_5 σ a1) = 0) → vp_in a1 40) (hQ : Q (.inl (some (.int (f_X0_kindOf_5 σ a1)))) 60 mSH σ) : mCall Γ M_X0_kindOf (d + 2) 0 0 [.ref 5, .int a1] 60 mSH σ Q := by
  refine mCall_of rfl (by decide) (Nat.le_of_ble_eq_true rfl) (mOkC (mOk_lo (Nat.le_of_ble_eq_true rfl)) (mOkC mOk_i mOkN)) ?_
  refine mK_aload_n dX0_kindOf_0 rfl rfl (.head _) ?_
  refine mK_iload_n dX0_kindOf_1 rfl rfl (.tail _ (.head _)) ?_
  refine mK_invV (J := M_X0_hasItem) (k := 1) (as := [.int a1]) (st := []) (c1 := 0) (s1 := 0) dX0_kindOf_2 rfl jw_X0_hasItem jn_X0_hasItem rfl (Nat.le_of_ble_eq_true rfl) (Nat.zero_le _) (Nat.zero_le _) rfl kw_565 kw_566 kw_567 (b := 5) (Nat.le_of_ble_eq_true rfl) (Nat.le_of_ble_eq_true rfl) rfl ?_
  refine S_X0_hasItem_5 a1 ?_
  refine mK_if_eq (tgt := 17) dX0_kindOf_5 rfl (by decide) (fun c1 => ?_) (fun c1 => ?_)
  · refine mK_iconst dX0_kindOf_17 rfl qic_m1 ?_
    exact mK_iret dX0_kindOf_18 rfl (by rw [(show (f_X0_kindOf_5 σ a1) = (-1) from by unfold f_X0_kindOf_5; exact ((if_pos c1).trans rfl))] at hQ; exact hQ)
  · refine mK_aload_n dX0_kindOf_8 rfl rfl (.head _) ?_
    refine ru_getR (k := 4) (ci := 0) (a := 9) dX0_kindOf_9 rfl rfl rfl kw_146 ?_
    refine mK_iload_n dX0_kindOf_12 rfl rfl (.tail _ (.head _)) ?_
    refine ru_iald (n := 40) dX0_kindOf_13 rfl rfl (hs1 c1) ?_
    refine mK_goto (tgt := 18) dX0_kindOf_14 (by decide) ?_
    exact mK_iret dX0_kindOf_18 rfl (by rw [(show (f_X0_kindOf_5 σ a1) = (σ.1 9 (a1).toNatClampNeg) from by unfold f_X0_kindOf_5; exact ((if_neg c1).trans rfl))] at hQ; exact hQ)
set_option maxRecDepth 20000 in
theorem S2_X0_kindOf_5 {Γ : Nat × (Nat → Int32)} {d : Nat} {Q : mQ} {σ : mS} (a1 : Int32) (hs1 : ¬ ((f_X0_hasItem_5 σ a1) = 0) → vp_in a1 40) (hQ : Q (.inl (some (.int (f_X0_kindOf_5 σ a1)))) 60 mSH σ) : mCall Γ M_X0_kindOf (d + 2) 0 0 [.ref 5, .int a1] 60 mSH σ Q := by
  refine mCall_of rfl (by decide) (Nat.le_of_ble_eq_true rfl) (mOkC (mOk_lo (Nat.le_of_ble_eq_true rfl)) (mOkC mOk_i mOkN)) ?_
  refine mK_aload_n dX0_kindOf_0 rfl rfl (.head _) ?_
  refine mK_iload_n dX0_kindOf_1 rfl rfl (.tail _ (.head _)) ?_
  refine mK_invV (J := M_X0_hasItem) (k := 1) (as := [.int a1]) (st := []) (c1 := 0) (s1 := 0) dX0_kindOf_2 rfl jw_X0_hasItem jn_X0_hasItem rfl (Nat.le_of_ble_eq_true rfl) (Nat.zero_le _) (Nat.zero_le _) rfl kw_565 kw_566 kw_567 (b := 5) (Nat.le_of_ble_eq_true rfl) (Nat.le_of_ble_eq_true rfl) rfl ?_
  refine S_X0_hasItem_5 a1 ?_
  refine mK_if_eq (tgt := 17) dX0_kindOf_5 rfl (by decide) (fun c1 => ?_) (fun c1 => ?_)
  · refine mK_iconst dX0_kindOf_17 rfl qic_m1 ?_
    exact mK_iret dX0_kindOf_18 rfl (by rw [(show (f_X0_kindOf_5 σ a1) = (-1) from by unfold f_X0_kindOf_5; exact ((if_pos c1).trans rfl))] at hQ; exact hQ)
  · refine mK_aload_n dX0_kindOf_8 rfl rfl (.head _) ?_
    refine ru_getR (k := 4) (ci := 0) (a := 9) dX0_kindOf_9 rfl rfl rfl kw_146 ?_
    refine mK_iload_n dX0_kindOf_12 rfl rfl (.tail _ (.head _)) ?_
    refine ru_iald (n := 40) dX0_kindOf_13 rfl rfl (hs1 c1) ?_
    refine mK_goto (tgt := 18) dX0_kindOf_14 (by decide) ?_
    exact mK_iret dX0_kindOf_18 rfl (by rw [(show (f_X0_kindOf_5 σ a1) = (σ.1 9 (a1).toNatClampNeg) from by unfold f_X0_kindOf_5; exact ((if_neg c1).trans rfl))] at hQ; exact hQ)
set_option maxRecDepth 20000 in
theorem S3_X0_kindOf_5 {Γ : Nat × (Nat → Int32)} {d : Nat} {Q : mQ} {σ : mS} (a1 : Int32) (hs1 : ¬ ((f_X0_hasItem_5 σ a1) = 0) → vp_in a1 40) (hQ : Q (.inl (some (.int (f_X0_kindOf_5 σ a1)))) 60 mSH σ) : mCall Γ M_X0_kindOf (d + 2) 0 0 [.ref 5, .int a1] 60 mSH σ Q := by
  refine mCall_of rfl (by decide) (Nat.le_of_ble_eq_true rfl) (mOkC (mOk_lo (Nat.le_of_ble_eq_true rfl)) (mOkC mOk_i mOkN)) ?_
  refine mK_aload_n dX0_kindOf_0 rfl rfl (.head _) ?_
  refine mK_iload_n dX0_kindOf_1 rfl rfl (.tail _ (.head _)) ?_
  refine mK_invV (J := M_X0_hasItem) (k := 1) (as := [.int a1]) (st := []) (c1 := 0) (s1 := 0) dX0_kindOf_2 rfl jw_X0_hasItem jn_X0_hasItem rfl (Nat.le_of_ble_eq_true rfl) (Nat.zero_le _) (Nat.zero_le _) rfl kw_565 kw_566 kw_567 (b := 5) (Nat.le_of_ble_eq_true rfl) (Nat.le_of_ble_eq_true rfl) rfl ?_
  refine S_X0_hasItem_5 a1 ?_
  refine mK_if_eq (tgt := 17) dX0_kindOf_5 rfl (by decide) (fun c1 => ?_) (fun c1 => ?_)
  · refine mK_iconst dX0_kindOf_17 rfl qic_m1 ?_
    exact mK_iret dX0_kindOf_18 rfl (by rw [(show (f_X0_kindOf_5 σ a1) = (-1) from by unfold f_X0_kindOf_5; exact ((if_pos c1).trans rfl))] at hQ; exact hQ)
  · refine mK_aload_n dX0_kindOf_8 rfl rfl (.head _) ?_
    refine ru_getR (k := 4) (ci := 0) (a := 9) dX0_kindOf_9 rfl rfl rfl kw_146 ?_
    refine mK_iload_n dX0_kindOf_12 rfl rfl (.tail _ (.head _)) ?_
    refine ru_iald (n := 40) dX0_kindOf_13 rfl rfl (hs1 c1) ?_
    refine mK_goto (tgt := 18) dX0_kindOf_14 (by decide) ?_
    exact mK_iret dX0_kindOf_18 rfl (by rw [(show (f_X0_kindOf_5 σ a1) = (σ.1 9 (a1).toNatClampNeg) from by unfold f_X0_kindOf_5; exact ((if_neg c1).trans rfl))] at hQ; exact hQ)
set_option maxRecDepth 20000 in
theorem S4_X0_kindOf_5 {Γ : Nat × (Nat → Int32)} {d : Nat} {Q : mQ} {σ : mS} (a1 : Int32) (hs1 : ¬ ((f_X0_hasItem_5 σ a1) = 0) → vp_in a1 40) (hQ : Q (.inl (some (.int (f_X0_kindOf_5 σ a1)))) 60 mSH σ) : mCall Γ M_X0_kindOf (d + 2) 0 0 [.ref 5, .int a1] 60 mSH σ Q := by
  refine mCall_of rfl (by decide) (Nat.le_of_ble_eq_true rfl) (mOkC (mOk_lo (Nat.le_of_ble_eq_true rfl)) (mOkC mOk_i mOkN)) ?_
  refine mK_aload_n dX0_kindOf_0 rfl rfl (.head _) ?_
  refine mK_iload_n dX0_kindOf_1 rfl rfl (.tail _ (.head _)) ?_
  refine mK_invV (J := M_X0_hasItem) (k := 1) (as := [.int a1]) (st := []) (c1 := 0) (s1 := 0) dX0_kindOf_2 rfl jw_X0_hasItem jn_X0_hasItem rfl (Nat.le_of_ble_eq_true rfl) (Nat.zero_le _) (Nat.zero_le _) rfl kw_565 kw_566 kw_567 (b := 5) (Nat.le_of_ble_eq_true rfl) (Nat.le_of_ble_eq_true rfl) rfl ?_
  refine S_X0_hasItem_5 a1 ?_
  refine mK_if_eq (tgt := 17) dX0_kindOf_5 rfl (by decide) (fun c1 => ?_) (fun c1 => ?_)
  · refine mK_iconst dX0_kindOf_17 rfl qic_m1 ?_
    exact mK_iret dX0_kindOf_18 rfl (by rw [(show (f_X0_kindOf_5 σ a1) = (-1) from by unfold f_X0_kindOf_5; exact ((if_pos c1).trans rfl))] at hQ; exact hQ)
  · refine mK_aload_n dX0_kindOf_8 rfl rfl (.head _) ?_
    refine ru_getR (k := 4) (ci := 0) (a := 9) dX0_kindOf_9 rfl rfl rfl kw_146 ?_
    refine mK_iload_n dX0_kindOf_12 rfl rfl (.tail _ (.head _)) ?_
    refine ru_iald (n := 40) dX0_kindOf_13 rfl rfl (hs1 c1) ?_
    refine mK_goto (tgt := 18) dX0_kindOf_14 (by decide) ?_
    exact mK_iret dX0_kindOf_18 rfl (by rw [(show (f_X0_kindOf_5 σ a1) = (σ.1 9 (a1).toNatClampNeg) from by unfold f_X0_kindOf_5; exact ((if_neg c1).trans rfl))] at hQ; exact hQ)
set_option maxRecDepth 20000 in
theorem S5_X0_kindOf_5 {Γ : Nat × (Nat → Int32)} {d : Nat} {Q : mQ} {σ : mS} (a1 : Int32) (hs1 : ¬ ((f_X0_hasItem_5 σ a1) = 0) → vp_in a1 40) (hQ : Q (.inl (some (.int (f_X0_kindOf_5 σ a1)))) 60 mSH σ) : mCall Γ M_X0_kindOf (d + 2) 0 0 [.ref 5, .int a1] 60 mSH σ Q := by
  refine mCall_of rfl (by decide) (Nat.le_of_ble_eq_true rfl) (mOkC (mOk_lo (Nat.le_of_ble_eq_true rfl)) (mOkC mOk_i mOkN)) ?_
  refine mK_aload_n dX0_kindOf_0 rfl rfl (.head _) ?_
  refine mK_iload_n dX0_kindOf_1 rfl rfl (.tail _ (.head _)) ?_
  refine mK_invV (J := M_X0_hasItem) (k := 1) (as := [.int a1]) (st := []) (c1 := 0) (s1 := 0) dX0_kindOf_2 rfl jw_X0_hasItem jn_X0_hasItem rfl (Nat.le_of_ble_eq_true rfl) (Nat.zero_le _) (Nat.zero_le _) rfl kw_565 kw_566 kw_567 (b := 5) (Nat.le_of_ble_eq_true rfl) (Nat.le_of_ble_eq_true rfl) rfl ?_
  refine S_X0_hasItem_5 a1 ?_
  refine mK_if_eq (tgt := 17) dX0_kindOf_5 rfl (by decide) (fun c1 => ?_) (fun c1 => ?_)
  · refine mK_iconst dX0_kindOf_17 rfl qic_m1 ?_
    exact mK_iret dX0_kindOf_18 rfl (by rw [(show (f_X0_kindOf_5 σ a1) = (-1) from by unfold f_X0_kindOf_5; exact ((if_pos c1).trans rfl))] at hQ; exact hQ)
  · refine mK_aload_n dX0_kindOf_8 rfl rfl (.head _) ?_
    refine ru_getR (k := 4) (ci := 0) (a := 9) dX0_kindOf_9 rfl rfl rfl kw_146 ?_
    refine mK_iload_n dX0_kindOf_12 rfl rfl (.tail _ (.head _)) ?_
    refine ru_iald (n := 40) dX0_kindOf_13 rfl rfl (hs1 c1) ?_
    refine mK_goto (tgt := 18) dX0_kindOf_14 (by decide) ?_
    exact mK_iret dX0_kindOf_18 rfl (by rw [(show (f_X0_kindOf_5 σ a1) = (σ.1 9 (a1).toNatClampNeg) from by unfold f_X0_kindOf_5; exact ((if_neg c1).trans rfl))] at hQ; exact hQ)
set_option maxRecDepth 20000 in
theorem S6_X0_kindOf_5 {Γ : Nat × (Nat → Int32)} {d : Nat} {Q : mQ} {σ : mS} (a1 : Int32) (hs1 : ¬ ((f_X0_hasItem_5 σ a1) = 0) → vp_in a1 40) (hQ : Q (.inl (some (.int (f_X0_kindOf_5 σ a1)))) 60 mSH σ) : mCall Γ M_X0_kindOf (d + 2) 0 0 [.ref 5, .int a1] 60 mSH σ Q := by
  refine mCall_of rfl (by decide) (Nat.le_of_ble_eq_true rfl) (mOkC (mOk_lo (Nat.le_of_ble_eq_true rfl)) (mOkC mOk_i mOkN)) ?_
  refine mK_aload_n dX0_kindOf_0 rfl rfl (.head _) ?_
  refine mK_iload_n dX0_kindOf_1 rfl rfl (.tail _ (.head _)) ?_
  refine mK_invV (J := M_X0_hasItem) (k := 1) (as := [.int a1]) (st := []) (c1 := 0) (s1 := 0) dX0_kindOf_2 rfl jw_X0_hasItem jn_X0_hasItem rfl (Nat.le_of_ble_eq_true rfl) (Nat.zero_le _) (Nat.zero_le _) rfl kw_565 kw_566 kw_567 (b := 5) (Nat.le_of_ble_eq_true rfl) (Nat.le_of_ble_eq_true rfl) rfl ?_
  refine S_X0_hasItem_5 a1 ?_
  refine mK_if_eq (tgt := 17) dX0_kindOf_5 rfl (by decide) (fun c1 => ?_) (fun c1 => ?_)
  · refine mK_iconst dX0_kindOf_17 rfl qic_m1 ?_
    exact mK_iret dX0_kindOf_18 rfl (by rw [(show (f_X0_kindOf_5 σ a1) = (-1) from by unfold f_X0_kindOf_5; exact ((if_pos c1).trans rfl))] at hQ; exact hQ)
  · refine mK_aload_n dX0_kindOf_8 rfl rfl (.head _) ?_
    refine ru_getR (k := 4) (ci := 0) (a := 9) dX0_kindOf_9 rfl rfl rfl kw_146 ?_
    refine mK_iload_n dX0_kindOf_12 rfl rfl (.tail _ (.head _)) ?_
    refine ru_iald (n := 40) dX0_kindOf_13 rfl rfl (hs1 c1) ?_
    refine mK_goto (tgt := 18) dX0_kindOf_14 (by decide) ?_
    exact mK_iret dX0_kindOf_18 rfl (by rw [(show (f_X0_kindOf_5 σ a1) = (σ.1 9 (a1).toNatClampNeg) from by unfold f_X0_kindOf_5; exact ((if_neg c1).trans rfl))] at hQ; exact hQ)
set_option maxRecDepth 20000 in
theorem S7_X0_kindOf_5 {Γ : Nat × (Nat → Int32)} {d : Nat} {Q : mQ} {σ : mS} (a1 : Int32) (hs1 : ¬ ((f_X0_hasItem_5 σ a1) = 0) → vp_in a1 40) (hQ : Q (.inl (some (.int (f_X0_kindOf_5 σ a1)))) 60 mSH σ) : mCall Γ M_X0_kindOf (d + 2) 0 0 [.ref 5, .int a1] 60 mSH σ Q := by
  refine mCall_of rfl (by decide) (Nat.le_of_ble_eq_true rfl) (mOkC (mOk_lo (Nat.le_of_ble_eq_true rfl)) (mOkC mOk_i mOkN)) ?_
  refine mK_aload_n dX0_kindOf_0 rfl rfl (.head _) ?_
  refine mK_iload_n dX0_kindOf_1 rfl rfl (.tail _ (.head _)) ?_
  refine mK_invV (J := M_X0_hasItem) (k := 1) (as := [.int a1]) (st := []) (c1 := 0) (s1 := 0) dX0_kindOf_2 rfl jw_X0_hasItem jn_X0_hasItem rfl (Nat.le_of_ble_eq_true rfl) (Nat.zero_le _) (Nat.zero_le _) rfl kw_565 kw_566 kw_567 (b := 5) (Nat.le_of_ble_eq_true rfl) (Nat.le_of_ble_eq_true rfl) rfl ?_
  refine S_X0_hasItem_5 a1 ?_
  refine mK_if_eq (tgt := 17) dX0_kindOf_5 rfl (by decide) (fun c1 => ?_) (fun c1 => ?_)
  · refine mK_iconst dX0_kindOf_17 rfl qic_m1 ?_
    exact mK_iret dX0_kindOf_18 rfl (by rw [(show (f_X0_kindOf_5 σ a1) = (-1) from by unfold f_X0_kindOf_5; exact ((if_pos c1).trans rfl))] at hQ; exact hQ)
  · refine mK_aload_n dX0_kindOf_8 rfl rfl (.head _) ?_
    refine ru_getR (k := 4) (ci := 0) (a := 9) dX0_kindOf_9 rfl rfl rfl kw_146 ?_
    refine mK_iload_n dX0_kindOf_12 rfl rfl (.tail _ (.head _)) ?_
    refine ru_iald (n := 40) dX0_kindOf_13 rfl rfl (hs1 c1) ?_
    refine mK_goto (tgt := 18) dX0_kindOf_14 (by decide) ?_
    exact mK_iret dX0_kindOf_18 rfl (by rw [(show (f_X0_kindOf_5 σ a1) = (σ.1 9 (a1).toNatClampNeg) from by unfold f_X0_kindOf_5; exact ((if_neg c1).trans rfl))] at hQ; exact hQ)
set_option maxRecDepth 20000 in
theorem S8_X0_kindOf_5 {Γ : Nat × (Nat → Int32)} {d : Nat} {Q : mQ} {σ : mS} (a1 : Int32) (hs1 : ¬ ((f_X0_hasItem_5 σ a1) = 0) → vp_in a1 40) (hQ : Q (.inl (some (.int (f_X0_kindOf_5 σ a1)))) 60 mSH σ) : mCall Γ M_X0_kindOf (d + 2) 0 0 [.ref 5, .int a1] 60 mSH σ Q := by
  refine mCall_of rfl (by decide) (Nat.le_of_ble_eq_true rfl) (mOkC (mOk_lo (Nat.le_of_ble_eq_true rfl)) (mOkC mOk_i mOkN)) ?_
  refine mK_aload_n dX0_kindOf_0 rfl rfl (.head _) ?_
  refine mK_iload_n dX0_kindOf_1 rfl rfl (.tail _ (.head _)) ?_
  refine mK_invV (J := M_X0_hasItem) (k := 1) (as := [.int a1]) (st := []) (c1 := 0) (s1 := 0) dX0_kindOf_2 rfl jw_X0_hasItem jn_X0_hasItem rfl (Nat.le_of_ble_eq_true rfl) (Nat.zero_le _) (Nat.zero_le _) rfl kw_565 kw_566 kw_567 (b := 5) (Nat.le_of_ble_eq_true rfl) (Nat.le_of_ble_eq_true rfl) rfl ?_
  refine S_X0_hasItem_5 a1 ?_
  refine mK_if_eq (tgt := 17) dX0_kindOf_5 rfl (by decide) (fun c1 => ?_) (fun c1 => ?_)
  · refine mK_iconst dX0_kindOf_17 rfl qic_m1 ?_
    exact mK_iret dX0_kindOf_18 rfl (by rw [(show (f_X0_kindOf_5 σ a1) = (-1) from by unfold f_X0_kindOf_5; exact ((if_pos c1).trans rfl))] at hQ; exact hQ)
  · refine mK_aload_n dX0_kindOf_8 rfl rfl (.head _) ?_
    refine ru_getR (k := 4) (ci := 0) (a := 9) dX0_kindOf_9 rfl rfl rfl kw_146 ?_
    refine mK_iload_n dX0_kindOf_12 rfl rfl (.tail _ (.head _)) ?_
    refine ru_iald (n := 40) dX0_kindOf_13 rfl rfl (hs1 c1) ?_
    refine mK_goto (tgt := 18) dX0_kindOf_14 (by decide) ?_
    exact mK_iret dX0_kindOf_18 rfl (by rw [(show (f_X0_kindOf_5 σ a1) = (σ.1 9 (a1).toNatClampNeg) from by unfold f_X0_kindOf_5; exact ((if_neg c1).trans rfl))] at hQ; exact hQ)
set_option maxRecDepth 20000 in
theorem S9_X0_kindOf_5 {Γ : Nat × (Nat → Int32)} {d : Nat} {Q : mQ} {σ : mS} (a1 : Int32) (hs1 : ¬ ((f_X0_hasItem_5 σ a1) = 0) → vp_in a1 40) (hQ : Q (.inl (some (.int (f_X0_kindOf_5 σ a1)))) 60 mSH σ) : mCall Γ M_X0_kindOf (d + 2) 0 0 [.ref 5, .int a1] 60 mSH σ Q := by
  refine mCall_of rfl (by decide) (Nat.le_of_ble_eq_true rfl) (mOkC (mOk_lo (Nat.le_of_ble_eq_true rfl)) (mOkC mOk_i mOkN)) ?_
  refine mK_aload_n dX0_kindOf_0 rfl rfl (.head _) ?_
  refine mK_iload_n dX0_kindOf_1 rfl rfl (.tail _ (.head _)) ?_
  refine mK_invV (J := M_X0_hasItem) (k := 1) (as := [.int a1]) (st := []) (c1 := 0) (s1 := 0) dX0_kindOf_2 rfl jw_X0_hasItem jn_X0_hasItem rfl (Nat.le_of_ble_eq_true rfl) (Nat.zero_le _) (Nat.zero_le _) rfl kw_565 kw_566 kw_567 (b := 5) (Nat.le_of_ble_eq_true rfl) (Nat.le_of_ble_eq_true rfl) rfl ?_
  refine S_X0_hasItem_5 a1 ?_
  refine mK_if_eq (tgt := 17) dX0_kindOf_5 rfl (by decide) (fun c1 => ?_) (fun c1 => ?_)
  · refine mK_iconst dX0_kindOf_17 rfl qic_m1 ?_
    exact mK_iret dX0_kindOf_18 rfl (by rw [(show (f_X0_kindOf_5 σ a1) = (-1) from by unfold f_X0_kindOf_5; exact ((if_pos c1).trans rfl))] at hQ; exact hQ)
  · refine mK_aload_n dX0_kindOf_8 rfl rfl (.head _) ?_
    refine ru_getR (k := 4) (ci := 0) (a := 9) dX0_kindOf_9 rfl rfl rfl kw_146 ?_
    refine mK_iload_n dX0_kindOf_12 rfl rfl (.tail _ (.head _)) ?_
    refine ru_iald (n := 40) dX0_kindOf_13 rfl rfl (hs1 c1) ?_
    refine mK_goto (tgt := 18) dX0_kindOf_14 (by decide) ?_
    exact mK_iret dX0_kindOf_18 rfl (by rw [(show (f_X0_kindOf_5 σ a1) = (σ.1 9 (a1).toNatClampNeg) from by unfold f_X0_kindOf_5; exact ((if_neg c1).trans rfl))] at hQ; exact hQ)
set_option maxRecDepth 20000 in
theorem S10_X0_kindOf_5 {Γ : Nat × (Nat → Int32)} {d : Nat} {Q : mQ} {σ : mS} (a1 : Int32) (hs1 : ¬ ((f_X0_hasItem_5 σ a1) = 0) → vp_in a1 40) (hQ : Q (.inl (some (.int (f_X0_kindOf_5 σ a1)))) 60 mSH σ) : mCall Γ M_X0_kindOf (d + 2) 0 0 [.ref 5, .int a1] 60 mSH σ Q := by
  refine mCall_of rfl (by decide) (Nat.le_of_ble_eq_true rfl) (mOkC (mOk_lo (Nat.le_of_ble_eq_true rfl)) (mOkC mOk_i mOkN)) ?_
  refine mK_aload_n dX0_kindOf_0 rfl rfl (.head _) ?_
  refine mK_iload_n dX0_kindOf_1 rfl rfl (.tail _ (.head _)) ?_
  refine mK_invV (J := M_X0_hasItem) (k := 1) (as := [.int a1]) (st := []) (c1 := 0) (s1 := 0) dX0_kindOf_2 rfl jw_X0_hasItem jn_X0_hasItem rfl (Nat.le_of_ble_eq_true rfl) (Nat.zero_le _) (Nat.zero_le _) rfl kw_565 kw_566 kw_567 (b := 5) (Nat.le_of_ble_eq_true rfl) (Nat.le_of_ble_eq_true rfl) rfl ?_
  refine S_X0_hasItem_5 a1 ?_
  refine mK_if_eq (tgt := 17) dX0_kindOf_5 rfl (by decide) (fun c1 => ?_) (fun c1 => ?_)
  · refine mK_iconst dX0_kindOf_17 rfl qic_m1 ?_
    exact mK_iret dX0_kindOf_18 rfl (by rw [(show (f_X0_kindOf_5 σ a1) = (-1) from by unfold f_X0_kindOf_5; exact ((if_pos c1).trans rfl))] at hQ; exact hQ)
  · refine mK_aload_n dX0_kindOf_8 rfl rfl (.head _) ?_
    refine ru_getR (k := 4) (ci := 0) (a := 9) dX0_kindOf_9 rfl rfl rfl kw_146 ?_
    refine mK_iload_n dX0_kindOf_12 rfl rfl (.tail _ (.head _)) ?_
    refine ru_iald (n := 40) dX0_kindOf_13 rfl rfl (hs1 c1) ?_
    refine mK_goto (tgt := 18) dX0_kindOf_14 (by decide) ?_
    exact mK_iret dX0_kindOf_18 rfl (by rw [(show (f_X0_kindOf_5 σ a1) = (σ.1 9 (a1).toNatClampNeg) from by unfold f_X0_kindOf_5; exact ((if_neg c1).trans rfl))] at hQ; exact hQ)
set_option maxRecDepth 20000 in
theorem S11_X0_kindOf_5 {Γ : Nat × (Nat → Int32)} {d : Nat} {Q : mQ} {σ : mS} (a1 : Int32) (hs1 : ¬ ((f_X0_hasItem_5 σ a1) = 0) → vp_in a1 40) (hQ : Q (.inl (some (.int (f_X0_kindOf_5 σ a1)))) 60 mSH σ) : mCall Γ M_X0_kindOf (d + 2) 0 0 [.ref 5, .int a1] 60 mSH σ Q := by
  refine mCall_of rfl (by decide) (Nat.le_of_ble_eq_true rfl) (mOkC (mOk_lo (Nat.le_of_ble_eq_true rfl)) (mOkC mOk_i mOkN)) ?_
  refine mK_aload_n dX0_kindOf_0 rfl rfl (.head _) ?_
  refine mK_iload_n dX0_kindOf_1 rfl rfl (.tail _ (.head _)) ?_
  refine mK_invV (J := M_X0_hasItem) (k := 1) (as := [.int a1]) (st := []) (c1 := 0) (s1 := 0) dX0_kindOf_2 rfl jw_X0_hasItem jn_X0_hasItem rfl (Nat.le_of_ble_eq_true rfl) (Nat.zero_le _) (Nat.zero_le _) rfl kw_565 kw_566 kw_567 (b := 5) (Nat.le_of_ble_eq_true rfl) (Nat.le_of_ble_eq_true rfl) rfl ?_
  refine S_X0_hasItem_5 a1 ?_
  refine mK_if_eq (tgt := 17) dX0_kindOf_5 rfl (by decide) (fun c1 => ?_) (fun c1 => ?_)
  · refine mK_iconst dX0_kindOf_17 rfl qic_m1 ?_
    exact mK_iret dX0_kindOf_18 rfl (by rw [(show (f_X0_kindOf_5 σ a1) = (-1) from by unfold f_X0_kindOf_5; exact ((if_pos c1).trans rfl))] at hQ; exact hQ)
  · refine mK_aload_n dX0_kindOf_8 rfl rfl (.head _) ?_
    refine ru_getR (k := 4) (ci := 0) (a := 9) dX0_kindOf_9 rfl rfl rfl kw_146 ?_
    refine mK_iload_n dX0_kindOf_12 rfl rfl (.tail _ (.head _)) ?_
    refine ru_iald (n := 40) dX0_kindOf_13 rfl rfl (hs1 c1) ?_
    refine mK_goto (tgt := 18) dX0_kindOf_14 (by decide) ?_
    exact mK_iret dX0_kindOf_18 rfl (by rw [(show (f_X0_kindOf_5 σ a1) = (σ.1 9 (a1).toNatClampNeg) from by unfold f_X0_kindOf_5; exact ((if_neg c1).trans rfl))] at hQ; exact hQ)
set_option maxRecDepth 20000 in
theorem S12_X0_kindOf_5 {Γ : Nat × (Nat → Int32)} {d : Nat} {Q : mQ} {σ : mS} (a1 : Int32) (hs1 : ¬ ((f_X0_hasItem_5 σ a1) = 0) → vp_in a1 40) (hQ : Q (.inl (some (.int (f_X0_kindOf_5 σ a1)))) 60 mSH σ) : mCall Γ M_X0_kindOf (d + 2) 0 0 [.ref 5, .int a1] 60 mSH σ Q := by
  refine mCall_of rfl (by decide) (Nat.le_of_ble_eq_true rfl) (mOkC (mOk_lo (Nat.le_of_ble_eq_true rfl)) (mOkC mOk_i mOkN)) ?_
  refine mK_aload_n dX0_kindOf_0 rfl rfl (.head _) ?_
  refine mK_iload_n dX0_kindOf_1 rfl rfl (.tail _ (.head _)) ?_
  refine mK_invV (J := M_X0_hasItem) (k := 1) (as := [.int a1]) (st := []) (c1 := 0) (s1 := 0) dX0_kindOf_2 rfl jw_X0_hasItem jn_X0_hasItem rfl (Nat.le_of_ble_eq_true rfl) (Nat.zero_le _) (Nat.zero_le _) rfl kw_565 kw_566 kw_567 (b := 5) (Nat.le_of_ble_eq_true rfl) (Nat.le_of_ble_eq_true rfl) rfl ?_
  refine S_X0_hasItem_5 a1 ?_
  refine mK_if_eq (tgt := 17) dX0_kindOf_5 rfl (by decide) (fun c1 => ?_) (fun c1 => ?_)
  · refine mK_iconst dX0_kindOf_17 rfl qic_m1 ?_
    exact mK_iret dX0_kindOf_18 rfl (by rw [(show (f_X0_kindOf_5 σ a1) = (-1) from by unfold f_X0_kindOf_5; exact ((if_pos c1).trans rfl))] at hQ; exact hQ)
  · refine mK_aload_n dX0_kindOf_8 rfl rfl (.head _) ?_
    refine ru_getR (k := 4) (ci := 0) (a := 9) dX0_kindOf_9 rfl rfl rfl kw_146 ?_
    refine mK_iload_n dX0_kindOf_12 rfl rfl (.tail _ (.head _)) ?_
    refine ru_iald (n := 40) dX0_kindOf_13 rfl rfl (hs1 c1) ?_
    refine mK_goto (tgt := 18) dX0_kindOf_14 (by decide) ?_
    exact mK_iret dX0_kindOf_18 rfl (by rw [(show (f_X0_kindOf_5 σ a1) = (σ.1 9 (a1).toNatClampNeg) from by unfold f_X0_kindOf_5; exact ((if_neg c1).trans rfl))] at hQ; exact hQ)
set_option maxRecDepth 20000 in
theorem S13_X0_kindOf_5 {Γ : Nat × (Nat → Int32)} {d : Nat} {Q : mQ} {σ : mS} (a1 : Int32) (hs1 : ¬ ((f_X0_hasItem_5 σ a1) = 0) → vp_in a1 40) (hQ : Q (.inl (some (.int (f_X0_kindOf_5 σ a1)))) 60 mSH σ) : mCall Γ M_X0_kindOf (d + 2) 0 0 [.ref 5, .int a1] 60 mSH σ Q := by
  refine mCall_of rfl (by decide) (Nat.le_of_ble_eq_true rfl) (mOkC (mOk_lo (Nat.le_of_ble_eq_true rfl)) (mOkC mOk_i mOkN)) ?_
  refine mK_aload_n dX0_kindOf_0 rfl rfl (.head _) ?_
  refine mK_iload_n dX0_kindOf_1 rfl rfl (.tail _ (.head _)) ?_
  refine mK_invV (J := M_X0_hasItem) (k := 1) (as := [.int a1]) (st := []) (c1 := 0) (s1 := 0) dX0_kindOf_2 rfl jw_X0_hasItem jn_X0_hasItem rfl (Nat.le_of_ble_eq_true rfl) (Nat.zero_le _) (Nat.zero_le _) rfl kw_565 kw_566 kw_567 (b := 5) (Nat.le_of_ble_eq_true rfl) (Nat.le_of_ble_eq_true rfl) rfl ?_
  refine S_X0_hasItem_5 a1 ?_
  refine mK_if_eq (tgt := 17) dX0_kindOf_5 rfl (by decide) (fun c1 => ?_) (fun c1 => ?_)
  · refine mK_iconst dX0_kindOf_17 rfl qic_m1 ?_
    exact mK_iret dX0_kindOf_18 rfl (by rw [(show (f_X0_kindOf_5 σ a1) = (-1) from by unfold f_X0_kindOf_5; exact ((if_pos c1).trans rfl))] at hQ; exact hQ)
  · refine mK_aload_n dX0_kindOf_8 rfl rfl (.head _) ?_
    refine ru_getR (k := 4) (ci := 0) (a := 9) dX0_kindOf_9 rfl rfl rfl kw_146 ?_
    refine mK_iload_n dX0_kindOf_12 rfl rfl (.tail _ (.head _)) ?_
    refine ru_iald (n := 40) dX0_kindOf_13 rfl rfl (hs1 c1) ?_
    refine mK_goto (tgt := 18) dX0_kindOf_14 (by decide) ?_
    exact mK_iret dX0_kindOf_18 rfl (by rw [(show (f_X0_kindOf_5 σ a1) = (σ.1 9 (a1).toNatClampNeg) from by unfold f_X0_kindOf_5; exact ((if_neg c1).trans rfl))] at hQ; exact hQ)
set_option maxRecDepth 20000 in
theorem S14_X0_kindOf_5 {Γ : Nat × (Nat → Int32)} {d : Nat} {Q : mQ} {σ : mS} (a1 : Int32) (hs1 : ¬ ((f_X0_hasItem_5 σ a1) = 0) → vp_in a1 40) (hQ : Q (.inl (some (.int (f_X0_kindOf_5 σ a1)))) 60 mSH σ) : mCall Γ M_X0_kindOf (d + 2) 0 0 [.ref 5, .int a1] 60 mSH σ Q := by
  refine mCall_of rfl (by decide) (Nat.le_of_ble_eq_true rfl) (mOkC (mOk_lo (Nat.le_of_ble_eq_true rfl)) (mOkC mOk_i mOkN)) ?_
  refine mK_aload_n dX0_kindOf_0 rfl rfl (.head _) ?_
  refine mK_iload_n dX0_kindOf_1 rfl rfl (.tail _ (.head _)) ?_
  refine mK_invV (J := M_X0_hasItem) (k := 1) (as := [.int a1]) (st := []) (c1 := 0) (s1 := 0) dX0_kindOf_2 rfl jw_X0_hasItem jn_X0_hasItem rfl (Nat.le_of_ble_eq_true rfl) (Nat.zero_le _) (Nat.zero_le _) rfl kw_565 kw_566 kw_567 (b := 5) (Nat.le_of_ble_eq_true rfl) (Nat.le_of_ble_eq_true rfl) rfl ?_
  refine S_X0_hasItem_5 a1 ?_
  refine mK_if_eq (tgt := 17) dX0_kindOf_5 rfl (by decide) (fun c1 => ?_) (fun c1 => ?_)
  · refine mK_iconst dX0_kindOf_17 rfl qic_m1 ?_
    exact mK_iret dX0_kindOf_18 rfl (by rw [(show (f_X0_kindOf_5 σ a1) = (-1) from by unfold f_X0_kindOf_5; exact ((if_pos c1).trans rfl))] at hQ; exact hQ)
  · refine mK_aload_n dX0_kindOf_8 rfl rfl (.head _) ?_
    refine ru_getR (k := 4) (ci := 0) (a := 9) dX0_kindOf_9 rfl rfl rfl kw_146 ?_
    refine mK_iload_n dX0_kindOf_12 rfl rfl (.tail _ (.head _)) ?_
    refine ru_iald (n := 40) dX0_kindOf_13 rfl rfl (hs1 c1) ?_
    refine mK_goto (tgt := 18) dX0_kindOf_14 (by decide) ?_
    exact mK_iret dX0_kindOf_18 rfl (by rw [(show (f_X0_kindOf_5 σ a1) = (σ.1 9 (a1).toNatClampNeg) from by unfold f_X0_kindOf_5; exact ((if_neg c1).trans rfl))] at hQ; exact hQ)
set_option maxRecDepth 20000 in
theorem S15_X0_kindOf_5 {Γ : Nat × (Nat → Int32)} {d : Nat} {Q : mQ} {σ : mS} (a1 : Int32) (hs1 : ¬ ((f_X0_hasItem_5 σ a1) = 0) → vp_in a1 40) (hQ : Q (.inl (some (.int (f_X0_kindOf_5 σ a1)))) 60 mSH σ) : mCall Γ M_X0_kindOf (d + 2) 0 0 [.ref 5, .int a1] 60 mSH σ Q := by
  refine mCall_of rfl (by decide) (Nat.le_of_ble_eq_true rfl) (mOkC (mOk_lo (Nat.le_of_ble_eq_true rfl)) (mOkC mOk_i mOkN)) ?_
  refine mK_aload_n dX0_kindOf_0 rfl rfl (.head _) ?_
  refine mK_iload_n dX0_kindOf_1 rfl rfl (.tail _ (.head _)) ?_
  refine mK_invV (J := M_X0_hasItem) (k := 1) (as := [.int a1]) (st := []) (c1 := 0) (s1 := 0) dX0_kindOf_2 rfl jw_X0_hasItem jn_X0_hasItem rfl (Nat.le_of_ble_eq_true rfl) (Nat.zero_le _) (Nat.zero_le _) rfl kw_565 kw_566 kw_567 (b := 5) (Nat.le_of_ble_eq_true rfl) (Nat.le_of_ble_eq_true rfl) rfl ?_
  refine S_X0_hasItem_5 a1 ?_
  refine mK_if_eq (tgt := 17) dX0_kindOf_5 rfl (by decide) (fun c1 => ?_) (fun c1 => ?_)
  · refine mK_iconst dX0_kindOf_17 rfl qic_m1 ?_
    exact mK_iret dX0_kindOf_18 rfl (by rw [(show (f_X0_kindOf_5 σ a1) = (-1) from by unfold f_X0_kindOf_5; exact ((if_pos c1).trans rfl))] at hQ; exact hQ)
  · refine mK_aload_n dX0_kindOf_8 rfl rfl (.head _) ?_
    refine ru_getR (k := 4) (ci := 0) (a := 9) dX0_kindOf_9 rfl rfl rfl kw_146 ?_
    refine mK_iload_n dX0_kindOf_12 rfl rfl (.tail _ (.head _)) ?_
    refine ru_iald (n := 40) dX0_kindOf_13 rfl rfl (hs1 c1) ?_
    refine mK_goto (tgt := 18) dX0_kindOf_14 (by decide) ?_
    exact mK_iret dX0_kindOf_18 rfl (by rw [(show (f_X0_kindOf_5 σ a1) = (σ.1 9 (a1).toNatClampNeg) from by unfold f_X0_kindOf_5; exact ((if_neg c1).trans rfl))] at hQ; exact hQ)
set_option maxRecDepth 20000 in
theorem S16_X0_kindOf_5 {Γ : Nat × (Nat → Int32)} {d : Nat} {Q : mQ} {σ : mS} (a1 : Int32) (hs1 : ¬ ((f_X0_hasItem_5 σ a1) = 0) → vp_in a1 40) (hQ : Q (.inl (some (.int (f_X0_kindOf_5 σ a1)))) 60 mSH σ) : mCall Γ M_X0_kindOf (d + 2) 0 0 [.ref 5, .int a1] 60 mSH σ Q := by
  refine mCall_of rfl (by decide) (Nat.le_of_ble_eq_true rfl) (mOkC (mOk_lo (Nat.le_of_ble_eq_true rfl)) (mOkC mOk_i mOkN)) ?_
  refine mK_aload_n dX0_kindOf_0 rfl rfl (.head _) ?_
  refine mK_iload_n dX0_kindOf_1 rfl rfl (.tail _ (.head _)) ?_
  refine mK_invV (J := M_X0_hasItem) (k := 1) (as := [.int a1]) (st := []) (c1 := 0) (s1 := 0) dX0_kindOf_2 rfl jw_X0_hasItem jn_X0_hasItem rfl (Nat.le_of_ble_eq_true rfl) (Nat.zero_le _) (Nat.zero_le _) rfl kw_565 kw_566 kw_567 (b := 5) (Nat.le_of_ble_eq_true rfl) (Nat.le_of_ble_eq_true rfl) rfl ?_
  refine S_X0_hasItem_5 a1 ?_
  refine mK_if_eq (tgt := 17) dX0_kindOf_5 rfl (by decide) (fun c1 => ?_) (fun c1 => ?_)
  · refine mK_iconst dX0_kindOf_17 rfl qic_m1 ?_
    exact mK_iret dX0_kindOf_18 rfl (by rw [(show (f_X0_kindOf_5 σ a1) = (-1) from by unfold f_X0_kindOf_5; exact ((if_pos c1).trans rfl))] at hQ; exact hQ)
  · refine mK_aload_n dX0_kindOf_8 rfl rfl (.head _) ?_
    refine ru_getR (k := 4) (ci := 0) (a := 9) dX0_kindOf_9 rfl rfl rfl kw_146 ?_
    refine mK_iload_n dX0_kindOf_12 rfl rfl (.tail _ (.head _)) ?_
    refine ru_iald (n := 40) dX0_kindOf_13 rfl rfl (hs1 c1) ?_
    refine mK_goto (tgt := 18) dX0_kindOf_14 (by decide) ?_
    exact mK_iret dX0_kindOf_18 rfl (by rw [(show (f_X0_kindOf_5 σ a1) = (σ.1 9 (a1).toNatClampNeg) from by unfold f_X0_kindOf_5; exact ((if_neg c1).trans rfl))] at hQ; exact hQ)
set_option maxRecDepth 20000 in
theorem S17_X0_kindOf_5 {Γ : Nat × (Nat → Int32)} {d : Nat} {Q : mQ} {σ : mS} (a1 : Int32) (hs1 : ¬ ((f_X0_hasItem_5 σ a1) = 0) → vp_in a1 40) (hQ : Q (.inl (some (.int (f_X0_kindOf_5 σ a1)))) 60 mSH σ) : mCall Γ M_X0_kindOf (d + 2) 0 0 [.ref 5, .int a1] 60 mSH σ Q := by
  refine mCall_of rfl (by decide) (Nat.le_of_ble_eq_true rfl) (mOkC (mOk_lo (Nat.le_of_ble_eq_true rfl)) (mOkC mOk_i mOkN)) ?_
  refine mK_aload_n dX0_kindOf_0 rfl rfl (.head _) ?_
  refine mK_iload_n dX0_kindOf_1 rfl rfl (.tail _ (.head _)) ?_
  refine mK_invV (J := M_X0_hasItem) (k := 1) (as := [.int a1]) (st := []) (c1 := 0) (s1 := 0) dX0_kindOf_2 rfl jw_X0_hasItem jn_X0_hasItem rfl (Nat.le_of_ble_eq_true rfl) (Nat.zero_le _) (Nat.zero_le _) rfl kw_565 kw_566 kw_567 (b := 5) (Nat.le_of_ble_eq_true rfl) (Nat.le_of_ble_eq_true rfl) rfl ?_
  refine S_X0_hasItem_5 a1 ?_
  refine mK_if_eq (tgt := 17) dX0_kindOf_5 rfl (by decide) (fun c1 => ?_) (fun c1 => ?_)
  · refine mK_iconst dX0_kindOf_17 rfl qic_m1 ?_
    exact mK_iret dX0_kindOf_18 rfl (by rw [(show (f_X0_kindOf_5 σ a1) = (-1) from by unfold f_X0_kindOf_5; exact ((if_pos c1).trans rfl))] at hQ; exact hQ)
  · refine mK_aload_n dX0_kindOf_8 rfl rfl (.head _) ?_
    refine ru_getR (k := 4) (ci := 0) (a := 9) dX0_kindOf_9 rfl rfl rfl kw_146 ?_
    refine mK_iload_n dX0_kindOf_12 rfl rfl (.tail _ (.head _)) ?_
    refine ru_iald (n := 40) dX0_kindOf_13 rfl rfl (hs1 c1) ?_
    refine mK_goto (tgt := 18) dX0_kindOf_14 (by decide) ?_
    exact mK_iret dX0_kindOf_18 rfl (by rw [(show (f_X0_kindOf_5 σ a1) = (σ.1 9 (a1).toNatClampNeg) from by unfold f_X0_kindOf_5; exact ((if_neg c1).trans rfl))] at hQ; exact hQ)
set_option maxRecDepth 20000 in
theorem S18_X0_kindOf_5 {Γ : Nat × (Nat → Int32)} {d : Nat} {Q : mQ} {σ : mS} (a1 : Int32) (hs1 : ¬ ((f_X0_hasItem_5 σ a1) = 0) → vp_in a1 40) (hQ : Q (.inl (some (.int (f_X0_kindOf_5 σ a1)))) 60 mSH σ) : mCall Γ M_X0_kindOf (d + 2) 0 0 [.ref 5, .int a1] 60 mSH σ Q := by
  refine mCall_of rfl (by decide) (Nat.le_of_ble_eq_true rfl) (mOkC (mOk_lo (Nat.le_of_ble_eq_true rfl)) (mOkC mOk_i mOkN)) ?_
  refine mK_aload_n dX0_kindOf_0 rfl rfl (.head _) ?_
  refine mK_iload_n dX0_kindOf_1 rfl rfl (.tail _ (.head _)) ?_
  refine mK_invV (J := M_X0_hasItem) (k := 1) (as := [.int a1]) (st := []) (c1 := 0) (s1 := 0) dX0_kindOf_2 rfl jw_X0_hasItem jn_X0_hasItem rfl (Nat.le_of_ble_eq_true rfl) (Nat.zero_le _) (Nat.zero_le _) rfl kw_565 kw_566 kw_567 (b := 5) (Nat.le_of_ble_eq_true rfl) (Nat.le_of_ble_eq_true rfl) rfl ?_
  refine S_X0_hasItem_5 a1 ?_
  refine mK_if_eq (tgt := 17) dX0_kindOf_5 rfl (by decide) (fun c1 => ?_) (fun c1 => ?_)
  · refine mK_iconst dX0_kindOf_17 rfl qic_m1 ?_
    exact mK_iret dX0_kindOf_18 rfl (by rw [(show (f_X0_kindOf_5 σ a1) = (-1) from by unfold f_X0_kindOf_5; exact ((if_pos c1).trans rfl))] at hQ; exact hQ)
  · refine mK_aload_n dX0_kindOf_8 rfl rfl (.head _) ?_
    refine ru_getR (k := 4) (ci := 0) (a := 9) dX0_kindOf_9 rfl rfl rfl kw_146 ?_
    refine mK_iload_n dX0_kindOf_12 rfl rfl (.tail _ (.head _)) ?_
    refine ru_iald (n := 40) dX0_kindOf_13 rfl rfl (hs1 c1) ?_
    refine mK_goto (tgt := 18) dX0_kindOf_14 (by decide) ?_
    exact mK_iret dX0_kindOf_18 rfl (by rw [(show (f_X0_kindOf_5 σ a1) = (σ.1 9 (a1).toNatClampNeg) from by unfold f_X0_kindOf_5; exact ((if_neg c1).trans rfl))] at hQ; exact hQ)
set_option maxRecDepth 20000 in
theorem S19_X0_kindOf_5 {Γ : Nat × (Nat → Int32)} {d : Nat} {Q : mQ} {σ : mS} (a1 : Int32) (hs1 : ¬ ((f_X0_hasItem_5 σ a1) = 0) → vp_in a1 40) (hQ : Q (.inl (some (.int (f_X0_kindOf_5 σ a1)))) 60 mSH σ) : mCall Γ M_X0_kindOf (d + 2) 0 0 [.ref 5, .int a1] 60 mSH σ Q := by
  refine mCall_of rfl (by decide) (Nat.le_of_ble_eq_true rfl) (mOkC (mOk_lo (Nat.le_of_ble_eq_true rfl)) (mOkC mOk_i mOkN)) ?_
  refine mK_aload_n dX0_kindOf_0 rfl rfl (.head _) ?_
  refine mK_iload_n dX0_kindOf_1 rfl rfl (.tail _ (.head _)) ?_
  refine mK_invV (J := M_X0_hasItem) (k := 1) (as := [.int a1]) (st := []) (c1 := 0) (s1 := 0) dX0_kindOf_2 rfl jw_X0_hasItem jn_X0_hasItem rfl (Nat.le_of_ble_eq_true rfl) (Nat.zero_le _) (Nat.zero_le _) rfl kw_565 kw_566 kw_567 (b := 5) (Nat.le_of_ble_eq_true rfl) (Nat.le_of_ble_eq_true rfl) rfl ?_
  refine S_X0_hasItem_5 a1 ?_
  refine mK_if_eq (tgt := 17) dX0_kindOf_5 rfl (by decide) (fun c1 => ?_) (fun c1 => ?_)
  · refine mK_iconst dX0_kindOf_17 rfl qic_m1 ?_
    exact mK_iret dX0_kindOf_18 rfl (by rw [(show (f_X0_kindOf_5 σ a1) = (-1) from by unfold f_X0_kindOf_5; exact ((if_pos c1).trans rfl))] at hQ; exact hQ)
  · refine mK_aload_n dX0_kindOf_8 rfl rfl (.head _) ?_
    refine ru_getR (k := 4) (ci := 0) (a := 9) dX0_kindOf_9 rfl rfl rfl kw_146 ?_
    refine mK_iload_n dX0_kindOf_12 rfl rfl (.tail _ (.head _)) ?_
    refine ru_iald (n := 40) dX0_kindOf_13 rfl rfl (hs1 c1) ?_
    refine mK_goto (tgt := 18) dX0_kindOf_14 (by decide) ?_
    exact mK_iret dX0_kindOf_18 rfl (by rw [(show (f_X0_kindOf_5 σ a1) = (σ.1 9 (a1).toNatClampNeg) from by unfold f_X0_kindOf_5; exact ((if_neg c1).trans rfl))] at hQ; exact hQ)
