def f_X0_hasItem_5 (σ : mS) (a1 : Int32) : Int32 := if a1 < 0 then 0 else (if (σ.1 5 10) ≤ a1 then 0 else (if 40 ≤ a1 then 0 else 1))
set_option maxRecDepth 20000 in
theorem S_X0_hasItem_5 {Γ : Nat × (Nat → Int32)} {d : Nat} {Q : mQ} {σ : mS} (a1 : Int32) (hQ : Q (.inl (some (.int (f_X0_hasItem_5 σ a1)))) 60 mSH σ) : mCall Γ M_X0_hasItem (d + 1) 0 0 [.ref 5, .int a1] 60 mSH σ Q := by
  refine mCall_of rfl (by decide) (Nat.le_of_ble_eq_true rfl) (mOkC (mOk_lo (Nat.le_of_ble_eq_true rfl)) (mOkC mOk_i mOkN)) ?_
  show mK Γ M_X0_hasItem (d + 1) Q 60 0 0 0 [(0, .ref 5), (1, .int a1)] [] 60 mSH σ
  refine mK_iload_n dX0_hasItem_0 rfl rfl (.tail _ (.head _)) ?_
  refine mK_if_lt (tgt := 22) dX0_hasItem_1 rfl (by decide) (fun c1 => ?_) (fun c1 => ?_)
  · refine mK_iconst dX0_hasItem_22 rfl qic_0 ?_
    exact mK_zret dX0_hasItem_23 rfl (by decide) (by rw [(show (f_X0_hasItem_5 σ a1) = 0 from by unfold f_X0_hasItem_5; exact ((if_pos c1).trans rfl))] at hQ; exact hQ)
  · refine mK_iload_n dX0_hasItem_4 rfl rfl (.tail _ (.head _)) ?_
    refine mK_aload_n dX0_hasItem_5 rfl rfl (.head _) ?_
    refine ru_getI (k := 10) (ci := 0) dX0_hasItem_6 rfl rfl kw_152 ?_
    refine mK_icmp_ge (tgt := 22) dX0_hasItem_9 rfl (by decide) (fun c2 => ?_) (fun c2 => ?_)
    · refine mK_iconst dX0_hasItem_22 rfl qic_0 ?_
      exact mK_zret dX0_hasItem_23 rfl (by decide) (by rw [(show (f_X0_hasItem_5 σ a1) = 0 from by unfold f_X0_hasItem_5; exact ((if_neg c1).trans ((if_pos c2).trans rfl)))] at hQ; exact hQ)
    · refine mK_iload_n dX0_hasItem_12 rfl rfl (.tail _ (.head _)) ?_
      refine mK_bipush dX0_hasItem_13 rfl qbi_40 ?_
      refine mK_icmp_ge (tgt := 22) dX0_hasItem_15 rfl (by decide) (fun c3 => ?_) (fun c3 => ?_)
      · refine mK_iconst dX0_hasItem_22 rfl qic_0 ?_
        exact mK_zret dX0_hasItem_23 rfl (by decide) (by rw [(show (f_X0_hasItem_5 σ a1) = 0 from by unfold f_X0_hasItem_5; exact ((if_neg c1).trans ((if_neg c2).trans ((if_pos c3).trans rfl))))] at hQ; exact hQ)
      · refine mK_iconst dX0_hasItem_18 rfl qic_1 ?_
        refine mK_goto (tgt := 23) dX0_hasItem_19 (by decide) ?_
        exact mK_zret dX0_hasItem_23 rfl (by decide) (by rw [(show (f_X0_hasItem_5 σ a1) = 1 from by unfold f_X0_hasItem_5; exact ((if_neg c1).trans ((if_neg c2).trans ((if_neg c3).trans rfl))))] at hQ; exact hQ)
theorem hasItem_in {σ : mS} {x : Int32} (h : ¬ f_X0_hasItem_5 σ x = 0) : vp_in x 40 := by
  unfold f_X0_hasItem_5 at h
  by_cases h1 : x < 0
  · rw [if_pos h1] at h; exact absurd rfl h
  rw [if_neg h1] at h
  by_cases h2 : σ.1 5 10 ≤ x
  · rw [if_pos h2] at h; exact absurd rfl h
  rw [if_neg h2] at h
  by_cases h3 : 40 ≤ x
  · rw [if_pos h3] at h; exact absurd rfl h
  exact vin_of (Int32.not_lt.mp h1) (Int32.not_le.mp h3) (by decide)
def f_X0_kindOf_5 (σ : mS) (a1 : Int32) : Int32 := if (f_X0_hasItem_5 σ a1) = 0 then (-1) else (σ.1 9 (a1).toNatClampNeg)
set_option maxRecDepth 20000 in
theorem S_X0_kindOf_5 {Γ : Nat × (Nat → Int32)} {d : Nat} {Q : mQ} {σ : mS} (a1 : Int32) (hQ : Q (.inl (some (.int (f_X0_kindOf_5 σ a1)))) 60 mSH σ) : mCall Γ M_X0_kindOf (d + 2) 0 0 [.ref 5, .int a1] 60 mSH σ Q := by
  refine mCall_of rfl (by decide) (Nat.le_of_ble_eq_true rfl) (mOkC (mOk_lo (Nat.le_of_ble_eq_true rfl)) (mOkC mOk_i mOkN)) ?_
  show mK Γ M_X0_kindOf (d + 2) Q 60 0 0 0 [(0, .ref 5), (1, .int a1)] [] 60 mSH σ
  refine mK_aload_n dX0_kindOf_0 rfl rfl (.head _) ?_
  refine mK_iload_n dX0_kindOf_1 rfl rfl (.tail _ (.head _)) ?_
  refine mK_invV (J := M_X0_hasItem) (k := 1) (as := [.int a1]) (st := []) (c1 := 0) (s1 := 0) dX0_kindOf_2 rfl jw_X0_hasItem jn_X0_hasItem rfl (Nat.le_of_ble_eq_true rfl) (Nat.zero_le _) (Nat.zero_le _) rfl kw_565 kw_566 kw_567 (b := 5) (Nat.le_of_ble_eq_true rfl) (Nat.le_of_ble_eq_true rfl) rfl ?_
  refine S_X0_hasItem_5 a1 ?_
  show mK Γ M_X0_kindOf (d + 2) Q 60 0 0 5 [(0, .ref 5), (1, .int a1)] [.int (f_X0_hasItem_5 σ a1)] 60 mSH σ
  refine mK_if_eq (tgt := 17) dX0_kindOf_5 rfl (by decide) (fun c1 => ?_) (fun c1 => ?_)
  · refine mK_iconst dX0_kindOf_17 rfl qic_m1 ?_
    exact mK_iret dX0_kindOf_18 rfl (by rw [(show (f_X0_kindOf_5 σ a1) = (-1) from by unfold f_X0_kindOf_5; exact ((if_pos c1).trans rfl))] at hQ; exact hQ)
  · refine mK_aload_n dX0_kindOf_8 rfl rfl (.head _) ?_
    refine ru_getR (k := 4) (ci := 0) (a := 9) dX0_kindOf_9 rfl rfl rfl kw_146 ?_
    refine mK_iload_n dX0_kindOf_12 rfl rfl (.tail _ (.head _)) ?_
    refine ru_iald (n := 40) dX0_kindOf_13 rfl rfl (hasItem_in c1) ?_
    refine mK_goto (tgt := 18) dX0_kindOf_14 (by decide) ?_
    exact mK_iret dX0_kindOf_18 rfl (by rw [(show (f_X0_kindOf_5 σ a1) = (σ.1 9 (a1).toNatClampNeg) from by unfold f_X0_kindOf_5; exact ((if_neg c1).trans rfl))] at hQ; exact hQ)
def f_X0_strengthOf_5 (σ : mS) (a1 : Int32) : Int32 := if (f_X0_hasItem_5 σ a1) = 0 then 0 else (σ.1 11 (a1).toNatClampNeg)
set_option maxRecDepth 20000 in
theorem S_X0_strengthOf_5 {Γ : Nat × (Nat → Int32)} {d : Nat} {Q : mQ} {σ : mS} (a1 : Int32) (hQ : Q (.inl (some (.int (f_X0_strengthOf_5 σ a1)))) 60 mSH σ) : mCall Γ M_X0_strengthOf (d + 2) 0 0 [.ref 5, .int a1] 60 mSH σ Q := by
  refine mCall_of rfl (by decide) (Nat.le_of_ble_eq_true rfl) (mOkC (mOk_lo (Nat.le_of_ble_eq_true rfl)) (mOkC mOk_i mOkN)) ?_
  show mK Γ M_X0_strengthOf (d + 2) Q 60 0 0 0 [(0, .ref 5), (1, .int a1)] [] 60 mSH σ
  refine mK_aload_n dX0_strengthOf_0 rfl rfl (.head _) ?_
  refine mK_iload_n dX0_strengthOf_1 rfl rfl (.tail _ (.head _)) ?_
  refine mK_invV (J := M_X0_hasItem) (k := 1) (as := [.int a1]) (st := []) (c1 := 0) (s1 := 0) dX0_strengthOf_2 rfl jw_X0_hasItem jn_X0_hasItem rfl (Nat.le_of_ble_eq_true rfl) (Nat.zero_le _) (Nat.zero_le _) rfl kw_565 kw_566 kw_567 (b := 5) (Nat.le_of_ble_eq_true rfl) (Nat.le_of_ble_eq_true rfl) rfl ?_
  refine S_X0_hasItem_5 a1 ?_
  show mK Γ M_X0_strengthOf (d + 2) Q 60 0 0 5 [(0, .ref 5), (1, .int a1)] [.int (f_X0_hasItem_5 σ a1)] 60 mSH σ
  refine mK_if_eq (tgt := 17) dX0_strengthOf_5 rfl (by decide) (fun c1 => ?_) (fun c1 => ?_)
  · refine mK_iconst dX0_strengthOf_17 rfl qic_0 ?_
    exact mK_iret dX0_strengthOf_18 rfl (by rw [(show (f_X0_strengthOf_5 σ a1) = 0 from by unfold f_X0_strengthOf_5; exact ((if_pos c1).trans rfl))] at hQ; exact hQ)
  · refine mK_aload_n dX0_strengthOf_8 rfl rfl (.head _) ?_
    refine ru_getR (k := 6) (ci := 0) (a := 11) dX0_strengthOf_9 rfl rfl rfl kw_148 ?_
    refine mK_iload_n dX0_strengthOf_12 rfl rfl (.tail _ (.head _)) ?_
    refine ru_iald (n := 40) dX0_strengthOf_13 rfl rfl (hasItem_in c1) ?_
    refine mK_goto (tgt := 18) dX0_strengthOf_14 (by decide) ?_
    exact mK_iret dX0_strengthOf_18 rfl (by rw [(show (f_X0_strengthOf_5 σ a1) = (σ.1 11 (a1).toNatClampNeg) from by unfold f_X0_strengthOf_5; exact ((if_neg c1).trans rfl))] at hQ; exact hQ)
def f_X0_leastForceOn_5 (σ : mS) (a1 : Int32) : Int32 := if (f_X0_kindOf_5 σ a1) = 0 then (((f_X0_strengthOf_5 σ a1) + 1) / 2) else (f_X0_strengthOf_5 σ a1)
set_option maxRecDepth 20000 in
theorem S_X0_leastForceOn_5 {Γ : Nat × (Nat → Int32)} {d : Nat} {Q : mQ} {σ : mS} (a1 : Int32) (hQ : Q (.inl (some (.int (f_X0_leastForceOn_5 σ a1)))) 60 mSH σ) : mCall Γ M_X0_leastForceOn (d + 3) 0 0 [.ref 5, .int a1] 60 mSH σ Q := by
  refine mCall_of rfl (by decide) (Nat.le_of_ble_eq_true rfl) (mOkC (mOk_lo (Nat.le_of_ble_eq_true rfl)) (mOkC mOk_i mOkN)) ?_
  show mK Γ M_X0_leastForceOn (d + 3) Q 60 0 0 0 [(0, .ref 5), (1, .int a1)] [] 60 mSH σ
  refine mK_aload_n dX0_leastForceOn_0 rfl rfl (.head _) ?_
  refine mK_iload_n dX0_leastForceOn_1 rfl rfl (.tail _ (.head _)) ?_
  refine mK_invV (J := M_X0_strengthOf) (k := 1) (as := [.int a1]) (st := []) (c1 := 0) (s1 := 0) dX0_leastForceOn_2 rfl jw_X0_strengthOf jn_X0_strengthOf rfl (Nat.le_of_ble_eq_true rfl) (Nat.zero_le _) (Nat.zero_le _) rfl kw_561 kw_562 kw_563 (b := 5) (Nat.le_of_ble_eq_true rfl) (Nat.le_of_ble_eq_true rfl) rfl ?_
  refine S_X0_strengthOf_5 a1 ?_
  show mK Γ M_X0_leastForceOn (d + 3) Q 60 0 0 5 [(0, .ref 5), (1, .int a1)] [.int (f_X0_strengthOf_5 σ a1)] 60 mSH σ
  refine ru_istore_n (lv1 := [(0, .ref 5), (1, .int a1), (2, .int (f_X0_strengthOf_5 σ a1))]) dX0_leastForceOn_5 rfl rfl (by decide) rfl ?_
  refine mK_aload_n dX0_leastForceOn_6 rfl rfl (.head _) ?_
  refine mK_iload_n dX0_leastForceOn_7 rfl rfl (.tail _ (.head _)) ?_
  refine mK_invV (J := M_X0_kindOf) (k := 1) (as := [.int a1]) (st := []) (c1 := 0) (s1 := 0) dX0_leastForceOn_8 rfl jw_X0_kindOf jn_X0_kindOf rfl (Nat.le_of_ble_eq_true rfl) (Nat.zero_le _) (Nat.zero_le _) rfl kw_569 kw_570 kw_571 (b := 5) (Nat.le_of_ble_eq_true rfl) (Nat.le_of_ble_eq_true rfl) rfl ?_
  refine S_X0_kindOf_5 a1 ?_
  show mK Γ M_X0_leastForceOn (d + 3) Q 60 0 0 11 [(0, .ref 5), (1, .int a1), (2, .int (f_X0_strengthOf_5 σ a1))] [.int (f_X0_kindOf_5 σ a1)] 60 mSH σ
  refine ru_if_ne (tgt := 22) dX0_leastForceOn_11 rfl (by decide) (fun c1 => ?_) (fun c1 => ?_)
  · refine mK_iload_n dX0_leastForceOn_22 rfl rfl (.tail _ (.tail _ (.head _))) ?_
    exact mK_iret dX0_leastForceOn_23 rfl (by rw [(show (f_X0_leastForceOn_5 σ a1) = (f_X0_strengthOf_5 σ a1) from by unfold f_X0_leastForceOn_5; exact ((if_neg c1).trans rfl))] at hQ; exact hQ)
  · refine mK_iload_n dX0_leastForceOn_14 rfl rfl (.tail _ (.tail _ (.head _))) ?_
    refine mK_iconst dX0_leastForceOn_15 rfl qic_1 ?_
    refine mK_iadd dX0_leastForceOn_16 rfl ?_
    refine mK_iconst dX0_leastForceOn_17 rfl qic_2 ?_
    refine mK_idiv dX0_leastForceOn_18 rfl (by decide) ?_
    refine mK_goto (tgt := 23) dX0_leastForceOn_19 (by decide) ?_
    exact mK_iret dX0_leastForceOn_23 rfl (by rw [(show (f_X0_leastForceOn_5 σ a1) = (((f_X0_strengthOf_5 σ a1) + 1) / 2) from by unfold f_X0_leastForceOn_5; exact ((if_pos c1).trans rfl))] at hQ; exact hQ)
def g_X0_addItem_5 (σ : mS) (a1 : Int64) (a2 : Int32) (a3 : Int32) (a4 : Int32) (a5 : Int32) (a6 : Int32) : mS := if (σ.1 5 10) < 0 then σ else (if 40 ≤ (σ.1 5 10) then σ else (if a2 = 1 then (if a4 < (f_X0_leastForceOn_5 (mPI (mPI (mPI (mPI (mPI (mPL σ 8 (σ.1 5 10).toNatClampNeg a1) 9 (σ.1 5 10).toNatClampNeg a2) 10 (σ.1 5 10).toNatClampNeg a3) 11 (σ.1 5 10).toNatClampNeg a4) 12 (σ.1 5 10).toNatClampNeg a5) 13 (σ.1 5 10).toNatClampNeg a6) a6) then (mPI (mPI (mPI (mPI (mPI (mPI (mPI (mPL σ 8 (σ.1 5 10).toNatClampNeg a1) 9 (σ.1 5 10).toNatClampNeg a2) 10 (σ.1 5 10).toNatClampNeg a3) 11 (σ.1 5 10).toNatClampNeg a4) 12 (σ.1 5 10).toNatClampNeg a5) 13 (σ.1 5 10).toNatClampNeg a6) 14 (σ.1 5 10).toNatClampNeg (vp_nar .boolean 0)) 5 10 ((σ.1 5 10) + 1)) else (mPI (mPI (mPI (mPI (mPI (mPI (mPI (mPL σ 8 (σ.1 5 10).toNatClampNeg a1) 9 (σ.1 5 10).toNatClampNeg a2) 10 (σ.1 5 10).toNatClampNeg a3) 11 (σ.1 5 10).toNatClampNeg a4) 12 (σ.1 5 10).toNatClampNeg a5) 13 (σ.1 5 10).toNatClampNeg a6) 14 (σ.1 5 10).toNatClampNeg (vp_nar .boolean 1)) 5 10 ((σ.1 5 10) + 1))) else (mPI (mPI (mPI (mPI (mPI (mPI (mPI (mPL σ 8 (σ.1 5 10).toNatClampNeg a1) 9 (σ.1 5 10).toNatClampNeg a2) 10 (σ.1 5 10).toNatClampNeg a3) 11 (σ.1 5 10).toNatClampNeg a4) 12 (σ.1 5 10).toNatClampNeg a5) 13 (σ.1 5 10).toNatClampNeg a6) 14 (σ.1 5 10).toNatClampNeg (vp_nar .boolean 0)) 5 10 ((σ.1 5 10) + 1))))
set_option maxRecDepth 20000 in
theorem S_X0_addItem_5 {Γ : Nat × (Nat → Int32)} {d : Nat} {Q : mQ} {σ : mS} (a1 : Int64) (a2 : Int32) (a3 : Int32) (a4 : Int32) (a5 : Int32) (a6 : Int32) (hQ : Q (.inl none) 60 mSH (g_X0_addItem_5 σ a1 a2 a3 a4 a5 a6)) : mCall Γ M_X0_addItem (d + 4) 0 0 [.ref 5, .long a1, .int a2, .int a3, .int a4, .int a5, .int a6] 60 mSH σ Q := by
  refine mCall_of rfl (by decide) (Nat.le_of_ble_eq_true rfl) (mOkC (mOk_lo (Nat.le_of_ble_eq_true rfl)) (mOkC mOk_l (mOkC mOk_i (mOkC mOk_i (mOkC mOk_i (mOkC mOk_i (mOkC mOk_i mOkN))))))) ?_
  show mK Γ M_X0_addItem (d + 4) Q 60 0 0 0 [(0, .ref 5), (1, .long a1), (3, .int a2), (4, .int a3), (5, .int a4), (6, .int a5), (7, .int a6)] [] 60 mSH σ
  refine mK_aload_n dX0_addItem_0 rfl rfl (.head _) ?_
  refine ru_getI (k := 10) (ci := 0) dX0_addItem_1 rfl rfl kw_152 ?_
  refine mK_if_lt (tgt := 120) dX0_addItem_4 rfl (by decide) (fun c1 => ?_) (fun c1 => ?_)
  · exact mK_vret dX0_addItem_120 rfl (by rw [(show (g_X0_addItem_5 σ a1 a2 a3 a4 a5 a6) = σ from by unfold g_X0_addItem_5; exact ((if_pos c1).trans rfl))] at hQ; exact hQ)
  · refine mK_aload_n dX0_addItem_7 rfl rfl (.head _) ?_
    refine ru_getI (k := 10) (ci := 0) dX0_addItem_8 rfl rfl kw_152 ?_
    refine mK_bipush dX0_addItem_11 rfl qbi_40 ?_
    refine mK_icmp_ge (tgt := 120) dX0_addItem_13 rfl (by decide) (fun c2 => ?_) (fun c2 => ?_)
    · exact mK_vret dX0_addItem_120 rfl (by rw [(show (g_X0_addItem_5 σ a1 a2 a3 a4 a5 a6) = σ from by unfold g_X0_addItem_5; exact ((if_neg c1).trans ((if_pos c2).trans rfl)))] at hQ; exact hQ)
    · refine mK_aload_n dX0_addItem_16 rfl rfl (.head _) ?_
      refine ru_getR (k := 3) (ci := 0) (a := 8) dX0_addItem_17 rfl rfl rfl kw_145 ?_
      refine mK_aload_n dX0_addItem_20 rfl rfl (.head _) ?_
      refine ru_getI (k := 10) (ci := 0) dX0_addItem_21 rfl rfl kw_152 ?_
      refine mK_lload_n dX0_addItem_24 rfl rfl (.tail _ (.head _)) ?_
      refine ru_last (n := 40) dX0_addItem_25 rfl rfl (vin_of (Int32.not_lt.mp c1) (Int32.not_le.mp c2) (by decide)) ?_
      refine mK_aload_n dX0_addItem_26 rfl rfl (.head _) ?_
      refine ru_getR (k := 4) (ci := 0) (a := 9) dX0_addItem_27 rfl rfl rfl kw_146 ?_
      refine mK_aload_n dX0_addItem_30 rfl rfl (.head _) ?_
      refine ru_getI (k := 10) (ci := 0) dX0_addItem_31 rfl rfl kw_152 ?_
      refine mK_iload_n dX0_addItem_34 rfl rfl (.tail _ (.tail _ (.head _))) ?_
      refine ru_iast (n := 40) dX0_addItem_35 rfl rfl (vin_of (Int32.not_lt.mp c1) (Int32.not_le.mp c2) (by decide)) ?_
      refine mK_aload_n dX0_addItem_36 rfl rfl (.head _) ?_
      refine ru_getR (k := 5) (ci := 0) (a := 10) dX0_addItem_37 rfl rfl rfl kw_147 ?_
      refine mK_aload_n dX0_addItem_40 rfl rfl (.head _) ?_
      refine ru_getI (k := 10) (ci := 0) dX0_addItem_41 rfl rfl kw_152 ?_
      refine mK_iload dX0_addItem_44 rfl (.tail _ (.tail _ (.tail _ (.head _)))) ?_
      refine ru_iast (n := 40) dX0_addItem_46 rfl rfl (vin_of (Int32.not_lt.mp c1) (Int32.not_le.mp c2) (by decide)) ?_
      refine mK_aload_n dX0_addItem_47 rfl rfl (.head _) ?_
      refine ru_getR (k := 6) (ci := 0) (a := 11) dX0_addItem_48 rfl rfl rfl kw_148 ?_
      refine mK_aload_n dX0_addItem_51 rfl rfl (.head _) ?_
      refine ru_getI (k := 10) (ci := 0) dX0_addItem_52 rfl rfl kw_152 ?_
      refine mK_iload dX0_addItem_55 rfl (.tail _ (.tail _ (.tail _ (.tail _ (.head _))))) ?_
      refine ru_iast (n := 40) dX0_addItem_57 rfl rfl (vin_of (Int32.not_lt.mp c1) (Int32.not_le.mp c2) (by decide)) ?_
      refine mK_aload_n dX0_addItem_58 rfl rfl (.head _) ?_
      refine ru_getR (k := 7) (ci := 0) (a := 12) dX0_addItem_59 rfl rfl rfl kw_149 ?_
      refine mK_aload_n dX0_addItem_62 rfl rfl (.head _) ?_
      refine ru_getI (k := 10) (ci := 0) dX0_addItem_63 rfl rfl kw_152 ?_
      refine mK_iload dX0_addItem_66 rfl (.tail _ (.tail _ (.tail _ (.tail _ (.tail _ (.head _)))))) ?_
      refine ru_iast (n := 40) dX0_addItem_68 rfl rfl (vin_of (Int32.not_lt.mp c1) (Int32.not_le.mp c2) (by decide)) ?_
      refine mK_aload_n dX0_addItem_69 rfl rfl (.head _) ?_
      refine ru_getR (k := 8) (ci := 0) (a := 13) dX0_addItem_70 rfl rfl rfl kw_150 ?_
      refine mK_aload_n dX0_addItem_73 rfl rfl (.head _) ?_
      refine ru_getI (k := 10) (ci := 0) dX0_addItem_74 rfl rfl kw_152 ?_
      refine mK_iload dX0_addItem_77 rfl (.tail _ (.tail _ (.tail _ (.tail _ (.tail _ (.tail _ (.head _))))))) ?_
      refine ru_iast (n := 40) dX0_addItem_79 rfl rfl (vin_of (Int32.not_lt.mp c1) (Int32.not_le.mp c2) (by decide)) ?_
      refine mK_aload_n dX0_addItem_80 rfl rfl (.head _) ?_
      refine ru_getR (k := 9) (ci := 0) (a := 14) dX0_addItem_81 rfl rfl rfl kw_151 ?_
      refine mK_aload_n dX0_addItem_84 rfl rfl (.head _) ?_
      refine ru_getI (k := 10) (ci := 0) dX0_addItem_85 rfl rfl kw_152 ?_
      refine mK_iload_n dX0_addItem_88 rfl rfl (.tail _ (.tail _ (.head _))) ?_
      refine mK_iconst dX0_addItem_89 rfl qic_1 ?_
      refine ru_icmp_ne (tgt := 108) dX0_addItem_90 rfl (by decide) (fun c3 => ?_) (fun c3 => ?_)
      · refine mK_iconst dX0_addItem_108 rfl qic_0 ?_
        refine ru_zast (n := 40) dX0_addItem_109 rfl rfl (vin_of (Int32.not_lt.mp c1) (Int32.not_le.mp c2) (by decide)) ?_
        refine mK_aload_n dX0_addItem_110 rfl rfl (.head _) ?_
        refine mK_dup dX0_addItem_111 rfl rfl ?_
        refine ru_getI (k := 10) (ci := 0) dX0_addItem_112 rfl rfl kw_152 ?_
        refine mK_iconst dX0_addItem_115 rfl qic_1 ?_
        refine mK_iadd dX0_addItem_116 rfl ?_
        refine ru_putI (k := 10) (ci := 0) dX0_addItem_117 rfl rfl rfl kw_152 ?_
        exact mK_vret dX0_addItem_120 rfl (by rw [(show (g_X0_addItem_5 σ a1 a2 a3 a4 a5 a6) = (mPI (mPI (mPI (mPI (mPI (mPI (mPI (mPL σ 8 (σ.1 5 10).toNatClampNeg a1) 9 (σ.1 5 10).toNatClampNeg a2) 10 (σ.1 5 10).toNatClampNeg a3) 11 (σ.1 5 10).toNatClampNeg a4) 12 (σ.1 5 10).toNatClampNeg a5) 13 (σ.1 5 10).toNatClampNeg a6) 14 (σ.1 5 10).toNatClampNeg (vp_nar .boolean 0)) 5 10 ((σ.1 5 10) + 1)) from by unfold g_X0_addItem_5; exact ((if_neg c1).trans ((if_neg c2).trans ((if_neg c3).trans rfl))))] at hQ; exact hQ)
      · refine mK_iload dX0_addItem_93 rfl (.tail _ (.tail _ (.tail _ (.tail _ (.head _))))) ?_
        refine mK_aload_n dX0_addItem_95 rfl rfl (.head _) ?_
        refine mK_iload dX0_addItem_96 rfl (.tail _ (.tail _ (.tail _ (.tail _ (.tail _ (.tail _ (.head _))))))) ?_
        refine mK_invV (J := M_X0_leastForceOn) (k := 1) (as := [.int a6]) (st := [.int a4, .int (σ.1 5 10), .ref 14]) (c1 := 0) (s1 := 0) dX0_addItem_98 rfl jw_X0_leastForceOn jn_X0_leastForceOn rfl (Nat.le_of_ble_eq_true rfl) (Nat.zero_le _) (Nat.zero_le _) rfl kw_557 kw_558 kw_559 (b := 5) (Nat.le_of_ble_eq_true rfl) (Nat.le_of_ble_eq_true rfl) rfl ?_
        refine S_X0_leastForceOn_5 a6 ?_
        show mK Γ M_X0_addItem (d + 4) Q 60 0 0 101 [(0, .ref 5), (1, .long a1), (3, .int a2), (4, .int a3), (5, .int a4), (6, .int a5), (7, .int a6)] [.int (f_X0_leastForceOn_5 (mPI (mPI (mPI (mPI (mPI (mPL σ 8 (σ.1 5 10).toNatClampNeg a1) 9 (σ.1 5 10).toNatClampNeg a2) 10 (σ.1 5 10).toNatClampNeg a3) 11 (σ.1 5 10).toNatClampNeg a4) 12 (σ.1 5 10).toNatClampNeg a5) 13 (σ.1 5 10).toNatClampNeg a6) a6), .int a4, .int (σ.1 5 10), .ref 14] 60 mSH (mPI (mPI (mPI (mPI (mPI (mPL σ 8 (σ.1 5 10).toNatClampNeg a1) 9 (σ.1 5 10).toNatClampNeg a2) 10 (σ.1 5 10).toNatClampNeg a3) 11 (σ.1 5 10).toNatClampNeg a4) 12 (σ.1 5 10).toNatClampNeg a5) 13 (σ.1 5 10).toNatClampNeg a6)
        refine mK_icmp_lt (tgt := 108) dX0_addItem_101 rfl (by decide) (fun c4 => ?_) (fun c4 => ?_)
        · refine mK_iconst dX0_addItem_108 rfl qic_0 ?_
          refine ru_zast (n := 40) dX0_addItem_109 rfl rfl (vin_of (Int32.not_lt.mp c1) (Int32.not_le.mp c2) (by decide)) ?_
          refine mK_aload_n dX0_addItem_110 rfl rfl (.head _) ?_
          refine mK_dup dX0_addItem_111 rfl rfl ?_
          refine ru_getI (k := 10) (ci := 0) dX0_addItem_112 rfl rfl kw_152 ?_
          refine mK_iconst dX0_addItem_115 rfl qic_1 ?_
          refine mK_iadd dX0_addItem_116 rfl ?_
          refine ru_putI (k := 10) (ci := 0) dX0_addItem_117 rfl rfl rfl kw_152 ?_
          exact mK_vret dX0_addItem_120 rfl (by rw [(show (g_X0_addItem_5 σ a1 a2 a3 a4 a5 a6) = (mPI (mPI (mPI (mPI (mPI (mPI (mPI (mPL σ 8 (σ.1 5 10).toNatClampNeg a1) 9 (σ.1 5 10).toNatClampNeg a2) 10 (σ.1 5 10).toNatClampNeg a3) 11 (σ.1 5 10).toNatClampNeg a4) 12 (σ.1 5 10).toNatClampNeg a5) 13 (σ.1 5 10).toNatClampNeg a6) 14 (σ.1 5 10).toNatClampNeg (vp_nar .boolean 0)) 5 10 ((σ.1 5 10) + 1)) from by unfold g_X0_addItem_5; exact ((if_neg c1).trans ((if_neg c2).trans ((if_pos c3).trans ((if_pos c4).trans rfl)))))] at hQ; exact hQ)
        · refine mK_iconst dX0_addItem_104 rfl qic_1 ?_
          refine mK_goto (tgt := 109) dX0_addItem_105 (by decide) ?_
          refine ru_zast (n := 40) dX0_addItem_109 rfl rfl (vin_of (Int32.not_lt.mp c1) (Int32.not_le.mp c2) (by decide)) ?_
          refine mK_aload_n dX0_addItem_110 rfl rfl (.head _) ?_
          refine mK_dup dX0_addItem_111 rfl rfl ?_
          refine ru_getI (k := 10) (ci := 0) dX0_addItem_112 rfl rfl kw_152 ?_
          refine mK_iconst dX0_addItem_115 rfl qic_1 ?_
          refine mK_iadd dX0_addItem_116 rfl ?_
          refine ru_putI (k := 10) (ci := 0) dX0_addItem_117 rfl rfl rfl kw_152 ?_
          exact mK_vret dX0_addItem_120 rfl (by rw [(show (g_X0_addItem_5 σ a1 a2 a3 a4 a5 a6) = (mPI (mPI (mPI (mPI (mPI (mPI (mPI (mPL σ 8 (σ.1 5 10).toNatClampNeg a1) 9 (σ.1 5 10).toNatClampNeg a2) 10 (σ.1 5 10).toNatClampNeg a3) 11 (σ.1 5 10).toNatClampNeg a4) 12 (σ.1 5 10).toNatClampNeg a5) 13 (σ.1 5 10).toNatClampNeg a6) 14 (σ.1 5 10).toNatClampNeg (vp_nar .boolean 1)) 5 10 ((σ.1 5 10) + 1)) from by unfold g_X0_addItem_5; exact ((if_neg c1).trans ((if_neg c2).trans ((if_pos c3).trans ((if_neg c4).trans rfl)))))] at hQ; exact hQ)
def g_X0_addClaim_5 (σ : mS) (a1 : Int64) (a2 : Int32) (a3 : Int32) : mS := (g_X0_addItem_5 σ a1 0 a2 a3 (-1) (-1))
set_option maxRecDepth 20000 in
theorem S_X0_addClaim_5 {Γ : Nat × (Nat → Int32)} {d : Nat} {Q : mQ} {σ : mS} (a1 : Int64) (a2 : Int32) (a3 : Int32) (hQ : Q (.inl none) 60 mSH (g_X0_addClaim_5 σ a1 a2 a3)) : mCall Γ M_X0_addClaim (d + 5) 0 0 [.ref 5, .long a1, .int a2, .int a3] 60 mSH σ Q := by
  refine mCall_of rfl (by decide) (Nat.le_of_ble_eq_true rfl) (mOkC (mOk_lo (Nat.le_of_ble_eq_true rfl)) (mOkC mOk_l (mOkC mOk_i (mOkC mOk_i mOkN)))) ?_
  show mK Γ M_X0_addClaim (d + 5) Q 60 0 0 0 [(0, .ref 5), (1, .long a1), (3, .int a2), (4, .int a3)] [] 60 mSH σ
  refine mK_aload_n dX0_addClaim_0 rfl rfl (.head _) ?_
  refine mK_lload_n dX0_addClaim_1 rfl rfl (.tail _ (.head _)) ?_
  refine mK_iconst dX0_addClaim_2 rfl qic_0 ?_
  refine mK_iload_n dX0_addClaim_3 rfl rfl (.tail _ (.tail _ (.head _))) ?_
  refine mK_iload dX0_addClaim_4 rfl (.tail _ (.tail _ (.tail _ (.head _)))) ?_
  refine mK_iconst dX0_addClaim_6 rfl qic_m1 ?_
  refine mK_iconst dX0_addClaim_7 rfl qic_m1 ?_
  refine mK_invV (J := M_X0_addItem) (k := 6) (as := [.long a1, .int 0, .int a2, .int a3, .int (-1), .int (-1)]) (st := []) (c1 := 0) (s1 := 0) dX0_addClaim_8 rfl jw_X0_addItem jn_X0_addItem rfl (Nat.le_of_ble_eq_true rfl) (Nat.zero_le _) (Nat.zero_le _) rfl kw_553 kw_555 kw_20 (b := 5) (Nat.le_of_ble_eq_true rfl) (Nat.le_of_ble_eq_true rfl) rfl ?_
  refine S_X0_addItem_5 a1 0 a2 a3 (-1) (-1) ?_
  show mK Γ M_X0_addClaim (d + 5) Q 60 0 0 11 [(0, .ref 5), (1, .long a1), (3, .int a2), (4, .int a3)] [] 60 mSH (g_X0_addItem_5 σ a1 0 a2 a3 (-1) (-1))
  exact mK_vret dX0_addClaim_11 rfl (by rw [(show (g_X0_addClaim_5 σ a1 a2 a3) = (g_X0_addItem_5 σ a1 0 a2 a3 (-1) (-1)) from rfl)] at hQ; exact hQ)
def f_X0_speakerOf_5 (σ : mS) (a1 : Int32) : Int32 := if (f_X0_hasItem_5 σ a1) = 0 then (-1) else (σ.1 10 (a1).toNatClampNeg)
set_option maxRecDepth 20000 in
theorem S_X0_speakerOf_5 {Γ : Nat × (Nat → Int32)} {d : Nat} {Q : mQ} {σ : mS} (a1 : Int32) (hQ : Q (.inl (some (.int (f_X0_speakerOf_5 σ a1)))) 60 mSH σ) : mCall Γ M_X0_speakerOf (d + 2) 0 0 [.ref 5, .int a1] 60 mSH σ Q := by
  refine mCall_of rfl (by decide) (Nat.le_of_ble_eq_true rfl) (mOkC (mOk_lo (Nat.le_of_ble_eq_true rfl)) (mOkC mOk_i mOkN)) ?_
  show mK Γ M_X0_speakerOf (d + 2) Q 60 0 0 0 [(0, .ref 5), (1, .int a1)] [] 60 mSH σ
  refine mK_aload_n dX0_speakerOf_0 rfl rfl (.head _) ?_
  refine mK_iload_n dX0_speakerOf_1 rfl rfl (.tail _ (.head _)) ?_
  refine mK_invV (J := M_X0_hasItem) (k := 1) (as := [.int a1]) (st := []) (c1 := 0) (s1 := 0) dX0_speakerOf_2 rfl jw_X0_hasItem jn_X0_hasItem rfl (Nat.le_of_ble_eq_true rfl) (Nat.zero_le _) (Nat.zero_le _) rfl kw_565 kw_566 kw_567 (b := 5) (Nat.le_of_ble_eq_true rfl) (Nat.le_of_ble_eq_true rfl) rfl ?_
  refine S_X0_hasItem_5 a1 ?_
  show mK Γ M_X0_speakerOf (d + 2) Q 60 0 0 5 [(0, .ref 5), (1, .int a1)] [.int (f_X0_hasItem_5 σ a1)] 60 mSH σ
  refine mK_if_eq (tgt := 17) dX0_speakerOf_5 rfl (by decide) (fun c1 => ?_) (fun c1 => ?_)
  · refine mK_iconst dX0_speakerOf_17 rfl qic_m1 ?_
    exact mK_iret dX0_speakerOf_18 rfl (by rw [(show (f_X0_speakerOf_5 σ a1) = (-1) from by unfold f_X0_speakerOf_5; exact ((if_pos c1).trans rfl))] at hQ; exact hQ)
  · refine mK_aload_n dX0_speakerOf_8 rfl rfl (.head _) ?_
    refine ru_getR (k := 5) (ci := 0) (a := 10) dX0_speakerOf_9 rfl rfl rfl kw_147 ?_
    refine mK_iload_n dX0_speakerOf_12 rfl rfl (.tail _ (.head _)) ?_
    refine ru_iald (n := 40) dX0_speakerOf_13 rfl rfl (hasItem_in c1) ?_
    refine mK_goto (tgt := 18) dX0_speakerOf_14 (by decide) ?_
    exact mK_iret dX0_speakerOf_18 rfl (by rw [(show (f_X0_speakerOf_5 σ a1) = (σ.1 10 (a1).toNatClampNeg) from by unfold f_X0_speakerOf_5; exact ((if_neg c1).trans rfl))] at hQ; exact hQ)
def g_X0_addMove_5 (σ : mS) (a1 : Int64) (a2 : Int32) (a3 : Int32) (a4 : Int32) (a5 : Int32) : mS := (g_X0_addItem_5 σ a1 a2 (f_X0_speakerOf_5 σ a3) a5 a3 a4)
set_option maxRecDepth 20000 in
theorem S_X0_addMove_5 {Γ : Nat × (Nat → Int32)} {d : Nat} {Q : mQ} {σ : mS} (a1 : Int64) (a2 : Int32) (a3 : Int32) (a4 : Int32) (a5 : Int32) (hQ : Q (.inl none) 60 mSH (g_X0_addMove_5 σ a1 a2 a3 a4 a5)) : mCall Γ M_X0_addMove (d + 5) 0 0 [.ref 5, .long a1, .int a2, .int a3, .int a4, .int a5] 60 mSH σ Q := by
  refine mCall_of rfl (by decide) (Nat.le_of_ble_eq_true rfl) (mOkC (mOk_lo (Nat.le_of_ble_eq_true rfl)) (mOkC mOk_l (mOkC mOk_i (mOkC mOk_i (mOkC mOk_i (mOkC mOk_i mOkN)))))) ?_
  show mK Γ M_X0_addMove (d + 5) Q 60 0 0 0 [(0, .ref 5), (1, .long a1), (3, .int a2), (4, .int a3), (5, .int a4), (6, .int a5)] [] 60 mSH σ
  refine mK_aload_n dX0_addMove_0 rfl rfl (.head _) ?_
  refine mK_lload_n dX0_addMove_1 rfl rfl (.tail _ (.head _)) ?_
  refine mK_iload_n dX0_addMove_2 rfl rfl (.tail _ (.tail _ (.head _))) ?_
  refine mK_aload_n dX0_addMove_3 rfl rfl (.head _) ?_
  refine mK_iload dX0_addMove_4 rfl (.tail _ (.tail _ (.tail _ (.head _)))) ?_
  refine mK_invV (J := M_X0_speakerOf) (k := 1) (as := [.int a3]) (st := [.int a2, .long a1, .ref 5]) (c1 := 0) (s1 := 0) dX0_addMove_6 rfl jw_X0_speakerOf jn_X0_speakerOf rfl (Nat.le_of_ble_eq_true rfl) (Nat.zero_le _) (Nat.zero_le _) rfl kw_672 kw_585 kw_586 (b := 5) (Nat.le_of_ble_eq_true rfl) (Nat.le_of_ble_eq_true rfl) rfl ?_
  refine S_X0_speakerOf_5 a3 ?_
  show mK Γ M_X0_addMove (d + 5) Q 60 0 0 9 [(0, .ref 5), (1, .long a1), (3, .int a2), (4, .int a3), (5, .int a4), (6, .int a5)] [.int (f_X0_speakerOf_5 σ a3), .int a2, .long a1, .ref 5] 60 mSH σ
  refine mK_iload dX0_addMove_9 rfl (.tail _ (.tail _ (.tail _ (.tail _ (.tail _ (.head _)))))) ?_
  refine mK_iload dX0_addMove_11 rfl (.tail _ (.tail _ (.tail _ (.head _)))) ?_
  refine mK_iload dX0_addMove_13 rfl (.tail _ (.tail _ (.tail _ (.tail _ (.head _))))) ?_
  refine mK_invV (J := M_X0_addItem) (k := 6) (as := [.long a1, .int a2, .int (f_X0_speakerOf_5 σ a3), .int a5, .int a3, .int a4]) (st := []) (c1 := 0) (s1 := 0) dX0_addMove_15 rfl jw_X0_addItem jn_X0_addItem rfl (Nat.le_of_ble_eq_true rfl) (Nat.zero_le _) (Nat.zero_le _) rfl kw_553 kw_555 kw_20 (b := 5) (Nat.le_of_ble_eq_true rfl) (Nat.le_of_ble_eq_true rfl) rfl ?_
  refine S_X0_addItem_5 a1 a2 (f_X0_speakerOf_5 σ a3) a5 a3 a4 ?_
  show mK Γ M_X0_addMove (d + 5) Q 60 0 0 18 [(0, .ref 5), (1, .long a1), (3, .int a2), (4, .int a3), (5, .int a4), (6, .int a5)] [] 60 mSH (g_X0_addItem_5 σ a1 a2 (f_X0_speakerOf_5 σ a3) a5 a3 a4)
  exact mK_vret dX0_addMove_18 rfl (by rw [(show (g_X0_addMove_5 σ a1 a2 a3 a4 a5) = (g_X0_addItem_5 σ a1 a2 (f_X0_speakerOf_5 σ a3) a5 a3 a4) from rfl)] at hQ; exact hQ)
def g_X0_addSpeaker_5 (σ : mS) (a1 : Int64) (a2 : Int32) : mS := if (σ.1 5 2) < 0 then σ else (if 6 ≤ (σ.1 5 2) then σ else (mPI (mPI (mPL σ 6 (σ.1 5 2).toNatClampNeg a1) 7 (σ.1 5 2).toNatClampNeg a2) 5 2 ((σ.1 5 2) + 1)))
set_option maxRecDepth 20000 in
theorem S_X0_addSpeaker_5 {Γ : Nat × (Nat → Int32)} {d : Nat} {Q : mQ} {σ : mS} (a1 : Int64) (a2 : Int32) (hQ : Q (.inl none) 60 mSH (g_X0_addSpeaker_5 σ a1 a2)) : mCall Γ M_X0_addSpeaker (d + 1) 0 0 [.ref 5, .long a1, .int a2] 60 mSH σ Q := by
  refine mCall_of rfl (by decide) (Nat.le_of_ble_eq_true rfl) (mOkC (mOk_lo (Nat.le_of_ble_eq_true rfl)) (mOkC mOk_l (mOkC mOk_i mOkN))) ?_
  show mK Γ M_X0_addSpeaker (d + 1) Q 60 0 0 0 [(0, .ref 5), (1, .long a1), (3, .int a2)] [] 60 mSH σ
  refine mK_aload_n dX0_addSpeaker_0 rfl rfl (.head _) ?_
  refine ru_getI (k := 2) (ci := 0) dX0_addSpeaker_1 rfl rfl kw_144 ?_
  refine mK_if_lt (tgt := 46) dX0_addSpeaker_4 rfl (by decide) (fun c1 => ?_) (fun c1 => ?_)
  · exact mK_vret dX0_addSpeaker_46 rfl (by rw [(show (g_X0_addSpeaker_5 σ a1 a2) = σ from by unfold g_X0_addSpeaker_5; exact ((if_pos c1).trans rfl))] at hQ; exact hQ)
  · refine mK_aload_n dX0_addSpeaker_7 rfl rfl (.head _) ?_
    refine ru_getI (k := 2) (ci := 0) dX0_addSpeaker_8 rfl rfl kw_144 ?_
    refine mK_bipush dX0_addSpeaker_11 rfl qbi_6 ?_
    refine mK_icmp_ge (tgt := 46) dX0_addSpeaker_13 rfl (by decide) (fun c2 => ?_) (fun c2 => ?_)
    · exact mK_vret dX0_addSpeaker_46 rfl (by rw [(show (g_X0_addSpeaker_5 σ a1 a2) = σ from by unfold g_X0_addSpeaker_5; exact ((if_neg c1).trans ((if_pos c2).trans rfl)))] at hQ; exact hQ)
    · refine mK_aload_n dX0_addSpeaker_16 rfl rfl (.head _) ?_
      refine ru_getR (k := 0) (ci := 0) (a := 6) dX0_addSpeaker_17 rfl rfl rfl kw_142 ?_
      refine mK_aload_n dX0_addSpeaker_20 rfl rfl (.head _) ?_
      refine ru_getI (k := 2) (ci := 0) dX0_addSpeaker_21 rfl rfl kw_144 ?_
      refine mK_lload_n dX0_addSpeaker_24 rfl rfl (.tail _ (.head _)) ?_
      refine ru_last (n := 6) dX0_addSpeaker_25 rfl rfl (vin_of (Int32.not_lt.mp c1) (Int32.not_le.mp c2) (by decide)) ?_
      refine mK_aload_n dX0_addSpeaker_26 rfl rfl (.head _) ?_
      refine ru_getR (k := 1) (ci := 0) (a := 7) dX0_addSpeaker_27 rfl rfl rfl kw_143 ?_
      refine mK_aload_n dX0_addSpeaker_30 rfl rfl (.head _) ?_
      refine ru_getI (k := 2) (ci := 0) dX0_addSpeaker_31 rfl rfl kw_144 ?_
      refine mK_iload_n dX0_addSpeaker_34 rfl rfl (.tail _ (.tail _ (.head _))) ?_
      refine ru_iast (n := 6) dX0_addSpeaker_35 rfl rfl (vin_of (Int32.not_lt.mp c1) (Int32.not_le.mp c2) (by decide)) ?_
      refine mK_aload_n dX0_addSpeaker_36 rfl rfl (.head _) ?_
      refine mK_dup dX0_addSpeaker_37 rfl rfl ?_
      refine ru_getI (k := 2) (ci := 0) dX0_addSpeaker_38 rfl rfl kw_144 ?_
      refine mK_iconst dX0_addSpeaker_41 rfl qic_1 ?_
      refine mK_iadd dX0_addSpeaker_42 rfl ?_
      refine ru_putI (k := 2) (ci := 0) dX0_addSpeaker_43 rfl rfl rfl kw_144 ?_
      exact mK_vret dX0_addSpeaker_46 rfl (by rw [(show (g_X0_addSpeaker_5 σ a1 a2) = (mPI (mPI (mPL σ 6 (σ.1 5 2).toNatClampNeg a1) 7 (σ.1 5 2).toNatClampNeg a2) 5 2 ((σ.1 5 2) + 1)) from by unfold g_X0_addSpeaker_5; exact ((if_neg c1).trans ((if_neg c2).trans rfl)))] at hQ; exact hQ)
def f_X0_hasSpeaker_5 (σ : mS) (a1 : Int32) : Int32 := if a1 < 0 then 0 else (if (σ.1 5 2) ≤ a1 then 0 else (if 6 ≤ a1 then 0 else 1))
set_option maxRecDepth 20000 in
theorem S_X0_hasSpeaker_5 {Γ : Nat × (Nat → Int32)} {d : Nat} {Q : mQ} {σ : mS} (a1 : Int32) (hQ : Q (.inl (some (.int (f_X0_hasSpeaker_5 σ a1)))) 60 mSH σ) : mCall Γ M_X0_hasSpeaker (d + 1) 0 0 [.ref 5, .int a1] 60 mSH σ Q := by
  refine mCall_of rfl (by decide) (Nat.le_of_ble_eq_true rfl) (mOkC (mOk_lo (Nat.le_of_ble_eq_true rfl)) (mOkC mOk_i mOkN)) ?_
  show mK Γ M_X0_hasSpeaker (d + 1) Q 60 0 0 0 [(0, .ref 5), (1, .int a1)] [] 60 mSH σ
  refine mK_iload_n dX0_hasSpeaker_0 rfl rfl (.tail _ (.head _)) ?_
  refine mK_if_lt (tgt := 22) dX0_hasSpeaker_1 rfl (by decide) (fun c1 => ?_) (fun c1 => ?_)
  · refine mK_iconst dX0_hasSpeaker_22 rfl qic_0 ?_
    exact mK_zret dX0_hasSpeaker_23 rfl (by decide) (by rw [(show (f_X0_hasSpeaker_5 σ a1) = 0 from by unfold f_X0_hasSpeaker_5; exact ((if_pos c1).trans rfl))] at hQ; exact hQ)
  · refine mK_iload_n dX0_hasSpeaker_4 rfl rfl (.tail _ (.head _)) ?_
    refine mK_aload_n dX0_hasSpeaker_5 rfl rfl (.head _) ?_
    refine ru_getI (k := 2) (ci := 0) dX0_hasSpeaker_6 rfl rfl kw_144 ?_
    refine mK_icmp_ge (tgt := 22) dX0_hasSpeaker_9 rfl (by decide) (fun c2 => ?_) (fun c2 => ?_)
    · refine mK_iconst dX0_hasSpeaker_22 rfl qic_0 ?_
      exact mK_zret dX0_hasSpeaker_23 rfl (by decide) (by rw [(show (f_X0_hasSpeaker_5 σ a1) = 0 from by unfold f_X0_hasSpeaker_5; exact ((if_neg c1).trans ((if_pos c2).trans rfl)))] at hQ; exact hQ)
    · refine mK_iload_n dX0_hasSpeaker_12 rfl rfl (.tail _ (.head _)) ?_
      refine mK_bipush dX0_hasSpeaker_13 rfl qbi_6 ?_
      refine mK_icmp_ge (tgt := 22) dX0_hasSpeaker_15 rfl (by decide) (fun c3 => ?_) (fun c3 => ?_)
      · refine mK_iconst dX0_hasSpeaker_22 rfl qic_0 ?_
        exact mK_zret dX0_hasSpeaker_23 rfl (by decide) (by rw [(show (f_X0_hasSpeaker_5 σ a1) = 0 from by unfold f_X0_hasSpeaker_5; exact ((if_neg c1).trans ((if_neg c2).trans ((if_pos c3).trans rfl))))] at hQ; exact hQ)
      · refine mK_iconst dX0_hasSpeaker_18 rfl qic_1 ?_
        refine mK_goto (tgt := 23) dX0_hasSpeaker_19 (by decide) ?_
        exact mK_zret dX0_hasSpeaker_23 rfl (by decide) (by rw [(show (f_X0_hasSpeaker_5 σ a1) = 1 from by unfold f_X0_hasSpeaker_5; exact ((if_neg c1).trans ((if_neg c2).trans ((if_neg c3).trans rfl))))] at hQ; exact hQ)
theorem hasSpeaker_in {σ : mS} {x : Int32} (h : ¬ f_X0_hasSpeaker_5 σ x = 0) : vp_in x 6 := by
  unfold f_X0_hasSpeaker_5 at h
  by_cases h1 : x < 0
  · rw [if_pos h1] at h; exact absurd rfl h
  rw [if_neg h1] at h
  by_cases h2 : σ.1 5 2 ≤ x
  · rw [if_pos h2] at h; exact absurd rfl h
  rw [if_neg h2] at h
  by_cases h3 : 6 ≤ x
  · rw [if_pos h3] at h; exact absurd rfl h
  exact vin_of (Int32.not_lt.mp h1) (Int32.not_le.mp h3) (by decide)
def g_X0_addTime_5 (σ : mS) (a1 : Int32) (a2 : Int32) : mS := if (f_X0_hasSpeaker_5 σ a1) = 0 then σ else (mPI σ 7 (a1).toNatClampNeg ((σ.1 7 (a1).toNatClampNeg) + a2))
set_option maxRecDepth 20000 in
theorem S_X0_addTime_5 {Γ : Nat × (Nat → Int32)} {d : Nat} {Q : mQ} {σ : mS} (a1 : Int32) (a2 : Int32) (hQ : Q (.inl none) 60 mSH (g_X0_addTime_5 σ a1 a2)) : mCall Γ M_X0_addTime (d + 2) 0 0 [.ref 5, .int a1, .int a2] 60 mSH σ Q := by
  refine mCall_of rfl (by decide) (Nat.le_of_ble_eq_true rfl) (mOkC (mOk_lo (Nat.le_of_ble_eq_true rfl)) (mOkC mOk_i (mOkC mOk_i mOkN))) ?_
  show mK Γ M_X0_addTime (d + 2) Q 60 0 0 0 [(0, .ref 5), (1, .int a1), (2, .int a2)] [] 60 mSH σ
  refine mK_aload_n dX0_addTime_0 rfl rfl (.head _) ?_
  refine mK_iload_n dX0_addTime_1 rfl rfl (.tail _ (.head _)) ?_
  refine mK_invV (J := M_X0_hasSpeaker) (k := 1) (as := [.int a1]) (st := []) (c1 := 0) (s1 := 0) dX0_addTime_2 rfl jw_X0_hasSpeaker jn_X0_hasSpeaker rfl (Nat.le_of_ble_eq_true rfl) (Nat.zero_le _) (Nat.zero_le _) rfl kw_541 kw_542 kw_543 (b := 5) (Nat.le_of_ble_eq_true rfl) (Nat.le_of_ble_eq_true rfl) rfl ?_
  refine S_X0_hasSpeaker_5 a1 ?_
  show mK Γ M_X0_addTime (d + 2) Q 60 0 0 5 [(0, .ref 5), (1, .int a1), (2, .int a2)] [.int (f_X0_hasSpeaker_5 σ a1)] 60 mSH σ
  refine mK_if_eq (tgt := 18) dX0_addTime_5 rfl (by decide) (fun c1 => ?_) (fun c1 => ?_)
  · exact mK_vret dX0_addTime_18 rfl (by rw [(show (g_X0_addTime_5 σ a1 a2) = σ from by unfold g_X0_addTime_5; exact ((if_pos c1).trans rfl))] at hQ; exact hQ)
  · refine mK_aload_n dX0_addTime_8 rfl rfl (.head _) ?_
    refine ru_getR (k := 1) (ci := 0) (a := 7) dX0_addTime_9 rfl rfl rfl kw_143 ?_
    refine mK_iload_n dX0_addTime_12 rfl rfl (.tail _ (.head _)) ?_
    refine mK_dup2 dX0_addTime_13 rfl rfl rfl ?_
    refine ru_iald (n := 6) dX0_addTime_14 rfl rfl (hasSpeaker_in c1) ?_
    refine mK_iload_n dX0_addTime_15 rfl rfl (.tail _ (.tail _ (.head _))) ?_
    refine mK_iadd dX0_addTime_16 rfl ?_
    refine ru_iast (n := 6) dX0_addTime_17 rfl rfl (hasSpeaker_in c1) ?_
    exact mK_vret dX0_addTime_18 rfl (by rw [(show (g_X0_addTime_5 σ a1 a2) = (mPI σ 7 (a1).toNatClampNeg ((σ.1 7 (a1).toNatClampNeg) + a2)) from by unfold g_X0_addTime_5; exact ((if_neg c1).trans rfl))] at hQ; exact hQ)
def f_X7_bit (σ : mS) (a1 : Int32) : Int64 := (1 <<< (Int32.toInt64 a1 &&& 63))
set_option maxRecDepth 20000 in
theorem S_X7_bit {Γ : Nat × (Nat → Int32)} {d : Nat} {Q : mQ} {σ : mS} (a1 : Int32) (hQ : Q (.inl (some (.long (f_X7_bit σ a1)))) 60 mSH σ) : mCall Γ M_X7_bit (d + 1) 0 0 [.int a1] 60 mSH σ Q := by
  refine mCall_of rfl (by decide) (Nat.le_of_ble_eq_true rfl) (mOkC mOk_i mOkN) ?_
  show mK Γ M_X7_bit (d + 1) Q 60 0 0 0 [(0, .int a1)] [] 60 mSH σ
  refine mK_lconst dX7_bit_0 rfl (v := 1) rfl ?_
  refine mK_iload_n dX7_bit_1 rfl rfl (.head _) ?_
  refine mK_lshl dX7_bit_2 rfl ?_
  exact mK_lret dX7_bit_3 rfl (by rw [(show (f_X7_bit σ a1) = (1 <<< (Int32.toInt64 a1 &&& 63)) from rfl)] at hQ; exact hQ)
def f_X0_allItems_5 (σ : mS) : Int64 := ((f_X7_bit σ (σ.1 5 10)) - 1)
set_option maxRecDepth 20000 in
theorem S_X0_allItems_5 {Γ : Nat × (Nat → Int32)} {d : Nat} {Q : mQ} {σ : mS} (hQ : Q (.inl (some (.long (f_X0_allItems_5 σ)))) 60 mSH σ) : mCall Γ M_X0_allItems (d + 2) 0 0 [.ref 5] 60 mSH σ Q := by
  refine mCall_of rfl (by decide) (Nat.le_of_ble_eq_true rfl) (mOkC (mOk_lo (Nat.le_of_ble_eq_true rfl)) mOkN) ?_
  show mK Γ M_X0_allItems (d + 2) Q 60 0 0 0 [(0, .ref 5)] [] 60 mSH σ
  refine mK_aload_n dX0_allItems_0 rfl rfl (.head _) ?_
  refine ru_getI (k := 10) (ci := 0) dX0_allItems_1 rfl rfl kw_152 ?_
  refine mK_invSN (J := M_X7_bit) (k := 1) (as := [.int (σ.1 5 10)]) (st := []) (c1 := 0) (s1 := 0) dX0_allItems_4 rfl jw_X7_bit jn_X7_bit rfl (Nat.le_of_ble_eq_true rfl) (Nat.zero_le _) (Nat.zero_le _) rfl kn_634 kw_612 ?_
  refine S_X7_bit (σ.1 5 10) ?_
  show mK Γ M_X0_allItems (d + 2) Q 60 0 0 7 [(0, .ref 5)] [.long (f_X7_bit σ (σ.1 5 10))] 60 mSH σ
  refine mK_lconst dX0_allItems_7 rfl (v := 1) rfl ?_
  refine mK_lsub dX0_allItems_8 rfl ?_
  exact mK_lret dX0_allItems_9 rfl (by rw [(show (f_X0_allItems_5 σ) = ((f_X7_bit σ (σ.1 5 10)) - 1) from rfl)] at hQ; exact hQ)
def f_X0_concededItems_5 (σ : mS) : Int64 := (σ.2.1 5 11)
set_option maxRecDepth 20000 in
theorem S_X0_concededItems_5 {Γ : Nat × (Nat → Int32)} {d : Nat} {Q : mQ} {σ : mS} (hQ : Q (.inl (some (.long (f_X0_concededItems_5 σ)))) 60 mSH σ) : mCall Γ M_X0_concededItems (d + 1) 0 0 [.ref 5] 60 mSH σ Q := by
  refine mCall_of rfl (by decide) (Nat.le_of_ble_eq_true rfl) (mOkC (mOk_lo (Nat.le_of_ble_eq_true rfl)) mOkN) ?_
  show mK Γ M_X0_concededItems (d + 1) Q 60 0 0 0 [(0, .ref 5)] [] 60 mSH σ
  refine mK_aload_n dX0_concededItems_0 rfl rfl (.head _) ?_
  refine ru_getL (k := 11) (ci := 0) dX0_concededItems_1 rfl rfl kw_153 ?_
  exact mK_lret dX0_concededItems_4 rfl (by rw [(show (f_X0_concededItems_5 σ) = (σ.2.1 5 11) from rfl)] at hQ; exact hQ)
def g_X0_goBack_5 (σ : mS) : mS := (mPL (mPI (mPI (mRowI σ 7 (va_cpy (σ.1 15) (σ.1 7) 0 0 6)) 5 2 (σ.1 5 13)) 5 10 (σ.1 5 14)) 5 11 (σ.2.1 5 15))
set_option maxRecDepth 20000 in
theorem S_X0_goBack_5 {Γ : Nat × (Nat → Int32)} {d : Nat} {Q : mQ} {σ : mS} (hQ : Q (.inl none) 60 mSH (g_X0_goBack_5 σ)) : mCall Γ M_X0_goBack (d + 1) 0 0 [.ref 5] 60 mSH σ Q := by
  refine mCall_of rfl (by decide) (Nat.le_of_ble_eq_true rfl) (mOkC (mOk_lo (Nat.le_of_ble_eq_true rfl)) mOkN) ?_
  show mK Γ M_X0_goBack (d + 1) Q 60 0 0 0 [(0, .ref 5)] [] 60 mSH σ
  refine mK_aload_n dX0_goBack_0 rfl rfl (.head _) ?_
  refine ru_getR (k := 12) (ci := 0) (a := 15) dX0_goBack_1 rfl rfl rfl kw_154 ?_
  refine mK_iconst dX0_goBack_4 rfl qic_0 ?_
  refine mK_aload_n dX0_goBack_5 rfl rfl (.head _) ?_
  refine ru_getR (k := 1) (ci := 0) (a := 7) dX0_goBack_6 rfl rfl rfl kw_143 ?_
  refine mK_iconst dX0_goBack_9 rfl qic_0 ?_
  refine mK_bipush dX0_goBack_10 rfl qbi_6 ?_
  refine mK_copyI (j1 := 15) (j2 := 7) dX0_goBack_12 rfl (by decide) (by decide) rfl rfl (by decide) (by decide) (by decide) (by decide) (by decide) (Nat.le_of_ble_eq_true rfl) kw_472 kw_474 kw_473 kw_104 ?_
  refine mK_aload_n dX0_goBack_15 rfl rfl (.head _) ?_
  refine mK_aload_n dX0_goBack_16 rfl rfl (.head _) ?_
  refine ru_getI (k := 13) (ci := 0) dX0_goBack_17 rfl rfl kw_155 ?_
  refine ru_putI (k := 2) (ci := 0) dX0_goBack_20 rfl rfl rfl kw_144 ?_
  refine mK_aload_n dX0_goBack_23 rfl rfl (.head _) ?_
  refine mK_aload_n dX0_goBack_24 rfl rfl (.head _) ?_
  refine ru_getI (k := 14) (ci := 0) dX0_goBack_25 rfl rfl kw_156 ?_
  refine ru_putI (k := 10) (ci := 0) dX0_goBack_28 rfl rfl rfl kw_152 ?_
  refine mK_aload_n dX0_goBack_31 rfl rfl (.head _) ?_
  refine mK_aload_n dX0_goBack_32 rfl rfl (.head _) ?_
  refine ru_getL (k := 15) (ci := 0) dX0_goBack_33 rfl rfl kw_157 ?_
  refine ru_putL (k := 11) (ci := 0) dX0_goBack_36 rfl rfl rfl kw_153 ?_
  exact mK_vret dX0_goBack_39 rfl (by rw [(show (g_X0_goBack_5 σ) = (mPL (mPI (mPI (mRowI σ 7 (va_cpy (σ.1 15) (σ.1 7) 0 0 6)) 5 2 (σ.1 5 13)) 5 10 (σ.1 5 14)) 5 11 (σ.2.1 5 15)) from rfl)] at hQ; exact hQ)
def f_X0_isConceded_5 (σ : mS) (a1 : Int32) : Int32 := if ((σ.2.1 5 11) &&& (f_X7_bit σ a1)) = 0 then 0 else 1
set_option maxRecDepth 20000 in
theorem S_X0_isConceded_5 {Γ : Nat × (Nat → Int32)} {d : Nat} {Q : mQ} {σ : mS} (a1 : Int32) (hQ : Q (.inl (some (.int (f_X0_isConceded_5 σ a1)))) 60 mSH σ) : mCall Γ M_X0_isConceded (d + 2) 0 0 [.ref 5, .int a1] 60 mSH σ Q := by
  refine mCall_of rfl (by decide) (Nat.le_of_ble_eq_true rfl) (mOkC (mOk_lo (Nat.le_of_ble_eq_true rfl)) (mOkC mOk_i mOkN)) ?_
  show mK Γ M_X0_isConceded (d + 2) Q 60 0 0 0 [(0, .ref 5), (1, .int a1)] [] 60 mSH σ
  refine mK_aload_n dX0_isConceded_0 rfl rfl (.head _) ?_
  refine ru_getL (k := 11) (ci := 0) dX0_isConceded_1 rfl rfl kw_153 ?_
  refine mK_iload_n dX0_isConceded_4 rfl rfl (.tail _ (.head _)) ?_
  refine mK_invSN (J := M_X7_bit) (k := 1) (as := [.int a1]) (st := [.long (σ.2.1 5 11)]) (c1 := 0) (s1 := 0) dX0_isConceded_5 rfl jw_X7_bit jn_X7_bit rfl (Nat.le_of_ble_eq_true rfl) (Nat.zero_le _) (Nat.zero_le _) rfl kn_634 kw_612 ?_
  refine S_X7_bit a1 ?_
  show mK Γ M_X0_isConceded (d + 2) Q 60 0 0 8 [(0, .ref 5), (1, .int a1)] [.long (f_X7_bit σ a1), .long (σ.2.1 5 11)] 60 mSH σ
  refine mK_land dX0_isConceded_8 rfl ?_
  refine mK_lconst dX0_isConceded_9 rfl (v := 0) rfl ?_
  refine ru_lif_eq (tgt := 18) dX0_isConceded_10 rfl dX0_isConceded_11 rfl (by decide) (fun c1 => ?_) (fun c1 => ?_)
  · refine mK_iconst dX0_isConceded_18 rfl qic_0 ?_
    exact mK_zret dX0_isConceded_19 rfl (by decide) (by rw [(show (f_X0_isConceded_5 σ a1) = 0 from by unfold f_X0_isConceded_5; exact ((if_pos c1).trans rfl))] at hQ; exact hQ)
  · refine mK_iconst dX0_isConceded_14 rfl qic_1 ?_
    refine mK_goto (tgt := 19) dX0_isConceded_15 (by decide) ?_
    exact mK_zret dX0_isConceded_19 rfl (by decide) (by rw [(show (f_X0_isConceded_5 σ a1) = 1 from by unfold f_X0_isConceded_5; exact ((if_neg c1).trans rfl))] at hQ; exact hQ)
def f_X0_isStrongAttack_5 (σ : mS) (a1 : Int32) : Int32 := if (f_X0_hasItem_5 σ a1) = 0 then 0 else (if (σ.1 14 (a1).toNatClampNeg) = 0 then 0 else 1)
set_option maxRecDepth 20000 in
theorem S_X0_isStrongAttack_5 {Γ : Nat × (Nat → Int32)} {d : Nat} {Q : mQ} {σ : mS} (a1 : Int32) (hQ : Q (.inl (some (.int (f_X0_isStrongAttack_5 σ a1)))) 60 mSH σ) : mCall Γ M_X0_isStrongAttack (d + 2) 0 0 [.ref 5, .int a1] 60 mSH σ Q := by
  refine mCall_of rfl (by decide) (Nat.le_of_ble_eq_true rfl) (mOkC (mOk_lo (Nat.le_of_ble_eq_true rfl)) (mOkC mOk_i mOkN)) ?_
  show mK Γ M_X0_isStrongAttack (d + 2) Q 60 0 0 0 [(0, .ref 5), (1, .int a1)] [] 60 mSH σ
  refine mK_aload_n dX0_isStrongAttack_0 rfl rfl (.head _) ?_
  refine mK_iload_n dX0_isStrongAttack_1 rfl rfl (.tail _ (.head _)) ?_
  refine mK_invV (J := M_X0_hasItem) (k := 1) (as := [.int a1]) (st := []) (c1 := 0) (s1 := 0) dX0_isStrongAttack_2 rfl jw_X0_hasItem jn_X0_hasItem rfl (Nat.le_of_ble_eq_true rfl) (Nat.zero_le _) (Nat.zero_le _) rfl kw_565 kw_566 kw_567 (b := 5) (Nat.le_of_ble_eq_true rfl) (Nat.le_of_ble_eq_true rfl) rfl ?_
  refine S_X0_hasItem_5 a1 ?_
  show mK Γ M_X0_isStrongAttack (d + 2) Q 60 0 0 5 [(0, .ref 5), (1, .int a1)] [.int (f_X0_hasItem_5 σ a1)] 60 mSH σ
  refine mK_if_eq (tgt := 21) dX0_isStrongAttack_5 rfl (by decide) (fun c1 => ?_) (fun c1 => ?_)
  · refine mK_iconst dX0_isStrongAttack_21 rfl qic_0 ?_
    exact mK_zret dX0_isStrongAttack_22 rfl (by decide) (by rw [(show (f_X0_isStrongAttack_5 σ a1) = 0 from by unfold f_X0_isStrongAttack_5; exact ((if_pos c1).trans rfl))] at hQ; exact hQ)
  · refine mK_aload_n dX0_isStrongAttack_8 rfl rfl (.head _) ?_
    refine ru_getR (k := 9) (ci := 0) (a := 14) dX0_isStrongAttack_9 rfl rfl rfl kw_151 ?_
    refine mK_iload_n dX0_isStrongAttack_12 rfl rfl (.tail _ (.head _)) ?_
    refine ru_zald (n := 40) dX0_isStrongAttack_13 rfl rfl (hasItem_in c1) ?_
    refine mK_if_eq (tgt := 21) dX0_isStrongAttack_14 rfl (by decide) (fun c2 => ?_) (fun c2 => ?_)
    · refine mK_iconst dX0_isStrongAttack_21 rfl qic_0 ?_
      exact mK_zret dX0_isStrongAttack_22 rfl (by decide) (by rw [(show (f_X0_isStrongAttack_5 σ a1) = 0 from by unfold f_X0_isStrongAttack_5; exact ((if_neg c1).trans ((if_pos c2).trans rfl)))] at hQ; exact hQ)
    · refine mK_iconst dX0_isStrongAttack_17 rfl qic_1 ?_
      refine mK_goto (tgt := 22) dX0_isStrongAttack_18 (by decide) ?_
      exact mK_zret dX0_isStrongAttack_22 rfl (by decide) (by rw [(show (f_X0_isStrongAttack_5 σ a1) = 1 from by unfold f_X0_isStrongAttack_5; exact ((if_neg c1).trans ((if_neg c2).trans rfl)))] at hQ; exact hQ)
def f_X0_items_5 (σ : mS) : Int32 := (σ.1 5 10)
set_option maxRecDepth 20000 in
theorem S_X0_items_5 {Γ : Nat × (Nat → Int32)} {d : Nat} {Q : mQ} {σ : mS} (hQ : Q (.inl (some (.int (f_X0_items_5 σ)))) 60 mSH σ) : mCall Γ M_X0_items (d + 1) 0 0 [.ref 5] 60 mSH σ Q := by
  refine mCall_of rfl (by decide) (Nat.le_of_ble_eq_true rfl) (mOkC (mOk_lo (Nat.le_of_ble_eq_true rfl)) mOkN) ?_
  show mK Γ M_X0_items (d + 1) Q 60 0 0 0 [(0, .ref 5)] [] 60 mSH σ
  refine mK_aload_n dX0_items_0 rfl rfl (.head _) ?_
  refine ru_getI (k := 10) (ci := 0) dX0_items_1 rfl rfl kw_152 ?_
  exact mK_iret dX0_items_4 rfl (by rw [(show (f_X0_items_5 σ) = (σ.1 5 10) from rfl)] at hQ; exact hQ)
def g_X0_keep_5 (σ : mS) : mS := (mPL (mPI (mPI (mRowI σ 15 (va_cpy (σ.1 7) (σ.1 15) 0 0 6)) 5 13 (σ.1 5 2)) 5 14 (σ.1 5 10)) 5 15 (σ.2.1 5 11))
set_option maxRecDepth 20000 in
theorem S_X0_keep_5 {Γ : Nat × (Nat → Int32)} {d : Nat} {Q : mQ} {σ : mS} (hQ : Q (.inl none) 60 mSH (g_X0_keep_5 σ)) : mCall Γ M_X0_keep (d + 1) 0 0 [.ref 5] 60 mSH σ Q := by
  refine mCall_of rfl (by decide) (Nat.le_of_ble_eq_true rfl) (mOkC (mOk_lo (Nat.le_of_ble_eq_true rfl)) mOkN) ?_
  show mK Γ M_X0_keep (d + 1) Q 60 0 0 0 [(0, .ref 5)] [] 60 mSH σ
  refine mK_aload_n dX0_keep_0 rfl rfl (.head _) ?_
  refine ru_getR (k := 1) (ci := 0) (a := 7) dX0_keep_1 rfl rfl rfl kw_143 ?_
  refine mK_iconst dX0_keep_4 rfl qic_0 ?_
  refine mK_aload_n dX0_keep_5 rfl rfl (.head _) ?_
  refine ru_getR (k := 12) (ci := 0) (a := 15) dX0_keep_6 rfl rfl rfl kw_154 ?_
  refine mK_iconst dX0_keep_9 rfl qic_0 ?_
  refine mK_bipush dX0_keep_10 rfl qbi_6 ?_
  refine mK_copyI (j1 := 7) (j2 := 15) dX0_keep_12 rfl (by decide) (by decide) rfl rfl (by decide) (by decide) (by decide) (by decide) (by decide) (Nat.le_of_ble_eq_true rfl) kw_472 kw_474 kw_473 kw_104 ?_
  refine mK_aload_n dX0_keep_15 rfl rfl (.head _) ?_
  refine mK_aload_n dX0_keep_16 rfl rfl (.head _) ?_
  refine ru_getI (k := 2) (ci := 0) dX0_keep_17 rfl rfl kw_144 ?_
  refine ru_putI (k := 13) (ci := 0) dX0_keep_20 rfl rfl rfl kw_155 ?_
  refine mK_aload_n dX0_keep_23 rfl rfl (.head _) ?_
  refine mK_aload_n dX0_keep_24 rfl rfl (.head _) ?_
  refine ru_getI (k := 10) (ci := 0) dX0_keep_25 rfl rfl kw_152 ?_
  refine ru_putI (k := 14) (ci := 0) dX0_keep_28 rfl rfl rfl kw_156 ?_
  refine mK_aload_n dX0_keep_31 rfl rfl (.head _) ?_
  refine mK_aload_n dX0_keep_32 rfl rfl (.head _) ?_
  refine ru_getL (k := 11) (ci := 0) dX0_keep_33 rfl rfl kw_153 ?_
  refine ru_putL (k := 15) (ci := 0) dX0_keep_36 rfl rfl rfl kw_157 ?_
  exact mK_vret dX0_keep_39 rfl (by rw [(show (g_X0_keep_5 σ) = (mPL (mPI (mPI (mRowI σ 15 (va_cpy (σ.1 7) (σ.1 15) 0 0 6)) 5 13 (σ.1 5 2)) 5 14 (σ.1 5 10)) 5 15 (σ.2.1 5 11)) from rfl)] at hQ; exact hQ)
def f_X0_nameOfItem_5 (σ : mS) (a1 : Int32) : Int64 := if (f_X0_hasItem_5 σ a1) = 0 then 0 else (σ.2.1 8 (a1).toNatClampNeg)
set_option maxRecDepth 20000 in
theorem S_X0_nameOfItem_5 {Γ : Nat × (Nat → Int32)} {d : Nat} {Q : mQ} {σ : mS} (a1 : Int32) (hQ : Q (.inl (some (.long (f_X0_nameOfItem_5 σ a1)))) 60 mSH σ) : mCall Γ M_X0_nameOfItem (d + 2) 0 0 [.ref 5, .int a1] 60 mSH σ Q := by
  refine mCall_of rfl (by decide) (Nat.le_of_ble_eq_true rfl) (mOkC (mOk_lo (Nat.le_of_ble_eq_true rfl)) (mOkC mOk_i mOkN)) ?_
  show mK Γ M_X0_nameOfItem (d + 2) Q 60 0 0 0 [(0, .ref 5), (1, .int a1)] [] 60 mSH σ
  refine mK_aload_n dX0_nameOfItem_0 rfl rfl (.head _) ?_
  refine mK_iload_n dX0_nameOfItem_1 rfl rfl (.tail _ (.head _)) ?_
  refine mK_invV (J := M_X0_hasItem) (k := 1) (as := [.int a1]) (st := []) (c1 := 0) (s1 := 0) dX0_nameOfItem_2 rfl jw_X0_hasItem jn_X0_hasItem rfl (Nat.le_of_ble_eq_true rfl) (Nat.zero_le _) (Nat.zero_le _) rfl kw_565 kw_566 kw_567 (b := 5) (Nat.le_of_ble_eq_true rfl) (Nat.le_of_ble_eq_true rfl) rfl ?_
  refine S_X0_hasItem_5 a1 ?_
  show mK Γ M_X0_nameOfItem (d + 2) Q 60 0 0 5 [(0, .ref 5), (1, .int a1)] [.int (f_X0_hasItem_5 σ a1)] 60 mSH σ
  refine mK_if_eq (tgt := 17) dX0_nameOfItem_5 rfl (by decide) (fun c1 => ?_) (fun c1 => ?_)
  · refine mK_lconst dX0_nameOfItem_17 rfl (v := 0) rfl ?_
    exact mK_lret dX0_nameOfItem_18 rfl (by rw [(show (f_X0_nameOfItem_5 σ a1) = 0 from by unfold f_X0_nameOfItem_5; exact ((if_pos c1).trans rfl))] at hQ; exact hQ)
  · refine mK_aload_n dX0_nameOfItem_8 rfl rfl (.head _) ?_
    refine ru_getR (k := 3) (ci := 0) (a := 8) dX0_nameOfItem_9 rfl rfl rfl kw_145 ?_
    refine mK_iload_n dX0_nameOfItem_12 rfl rfl (.tail _ (.head _)) ?_
    refine ru_lald (n := 40) dX0_nameOfItem_13 rfl rfl (hasItem_in c1) ?_
    refine mK_goto (tgt := 18) dX0_nameOfItem_14 (by decide) ?_
    exact mK_lret dX0_nameOfItem_18 rfl (by rw [(show (f_X0_nameOfItem_5 σ a1) = (σ.2.1 8 (a1).toNatClampNeg) from by unfold f_X0_nameOfItem_5; exact ((if_neg c1).trans rfl))] at hQ; exact hQ)
def f_X0_nameOfSpeaker_5 (σ : mS) (a1 : Int32) : Int64 := if (f_X0_hasSpeaker_5 σ a1) = 0 then 0 else (σ.2.1 6 (a1).toNatClampNeg)
set_option maxRecDepth 20000 in
theorem S_X0_nameOfSpeaker_5 {Γ : Nat × (Nat → Int32)} {d : Nat} {Q : mQ} {σ : mS} (a1 : Int32) (hQ : Q (.inl (some (.long (f_X0_nameOfSpeaker_5 σ a1)))) 60 mSH σ) : mCall Γ M_X0_nameOfSpeaker (d + 2) 0 0 [.ref 5, .int a1] 60 mSH σ Q := by
  refine mCall_of rfl (by decide) (Nat.le_of_ble_eq_true rfl) (mOkC (mOk_lo (Nat.le_of_ble_eq_true rfl)) (mOkC mOk_i mOkN)) ?_
  show mK Γ M_X0_nameOfSpeaker (d + 2) Q 60 0 0 0 [(0, .ref 5), (1, .int a1)] [] 60 mSH σ
  refine mK_aload_n dX0_nameOfSpeaker_0 rfl rfl (.head _) ?_
  refine mK_iload_n dX0_nameOfSpeaker_1 rfl rfl (.tail _ (.head _)) ?_
  refine mK_invV (J := M_X0_hasSpeaker) (k := 1) (as := [.int a1]) (st := []) (c1 := 0) (s1 := 0) dX0_nameOfSpeaker_2 rfl jw_X0_hasSpeaker jn_X0_hasSpeaker rfl (Nat.le_of_ble_eq_true rfl) (Nat.zero_le _) (Nat.zero_le _) rfl kw_541 kw_542 kw_543 (b := 5) (Nat.le_of_ble_eq_true rfl) (Nat.le_of_ble_eq_true rfl) rfl ?_
  refine S_X0_hasSpeaker_5 a1 ?_
  show mK Γ M_X0_nameOfSpeaker (d + 2) Q 60 0 0 5 [(0, .ref 5), (1, .int a1)] [.int (f_X0_hasSpeaker_5 σ a1)] 60 mSH σ
  refine mK_if_eq (tgt := 17) dX0_nameOfSpeaker_5 rfl (by decide) (fun c1 => ?_) (fun c1 => ?_)
  · refine mK_lconst dX0_nameOfSpeaker_17 rfl (v := 0) rfl ?_
    exact mK_lret dX0_nameOfSpeaker_18 rfl (by rw [(show (f_X0_nameOfSpeaker_5 σ a1) = 0 from by unfold f_X0_nameOfSpeaker_5; exact ((if_pos c1).trans rfl))] at hQ; exact hQ)
  · refine mK_aload_n dX0_nameOfSpeaker_8 rfl rfl (.head _) ?_
    refine ru_getR (k := 0) (ci := 0) (a := 6) dX0_nameOfSpeaker_9 rfl rfl rfl kw_142 ?_
    refine mK_iload_n dX0_nameOfSpeaker_12 rfl rfl (.tail _ (.head _)) ?_
    refine ru_lald (n := 6) dX0_nameOfSpeaker_13 rfl rfl (hasSpeaker_in c1) ?_
    refine mK_goto (tgt := 18) dX0_nameOfSpeaker_14 (by decide) ?_
    exact mK_lret dX0_nameOfSpeaker_18 rfl (by rw [(show (f_X0_nameOfSpeaker_5 σ a1) = (σ.2.1 6 (a1).toNatClampNeg) from by unfold f_X0_nameOfSpeaker_5; exact ((if_neg c1).trans rfl))] at hQ; exact hQ)
def g_X0_setConceded_5 (σ : mS) (a1 : Int32) (a2 : Int32) : mS := if (f_X0_hasItem_5 σ a1) = 0 then σ else (if a2 = 0 then (mPL σ 5 11 ((σ.2.1 5 11) &&& ((f_X7_bit σ a1) ^^^ (-1)))) else (mPL σ 5 11 ((σ.2.1 5 11) ||| (f_X7_bit σ a1))))
set_option maxRecDepth 20000 in
theorem S_X0_setConceded_5 {Γ : Nat × (Nat → Int32)} {d : Nat} {Q : mQ} {σ : mS} (a1 : Int32) (a2 : Int32) (hQ : Q (.inl none) 60 mSH (g_X0_setConceded_5 σ a1 a2)) : mCall Γ M_X0_setConceded (d + 2) 0 0 [.ref 5, .int a1, .int a2] 60 mSH σ Q := by
  refine mCall_of rfl (by decide) (Nat.le_of_ble_eq_true rfl) (mOkC (mOk_lo (Nat.le_of_ble_eq_true rfl)) (mOkC mOk_i (mOkC mOk_i mOkN))) ?_
  show mK Γ M_X0_setConceded (d + 2) Q 60 0 0 0 [(0, .ref 5), (1, .int a1), (2, .int a2)] [] 60 mSH σ
  refine mK_aload_n dX0_setConceded_0 rfl rfl (.head _) ?_
  refine mK_iload_n dX0_setConceded_1 rfl rfl (.tail _ (.head _)) ?_
  refine mK_invV (J := M_X0_hasItem) (k := 1) (as := [.int a1]) (st := []) (c1 := 0) (s1 := 0) dX0_setConceded_2 rfl jw_X0_hasItem jn_X0_hasItem rfl (Nat.le_of_ble_eq_true rfl) (Nat.zero_le _) (Nat.zero_le _) rfl kw_565 kw_566 kw_567 (b := 5) (Nat.le_of_ble_eq_true rfl) (Nat.le_of_ble_eq_true rfl) rfl ?_
  refine S_X0_hasItem_5 a1 ?_
  show mK Γ M_X0_setConceded (d + 2) Q 60 0 0 5 [(0, .ref 5), (1, .int a1), (2, .int a2)] [.int (f_X0_hasItem_5 σ a1)] 60 mSH σ
  refine mK_if_eq (tgt := 41) dX0_setConceded_5 rfl (by decide) (fun c1 => ?_) (fun c1 => ?_)
  · exact mK_vret dX0_setConceded_41 rfl (by rw [(show (g_X0_setConceded_5 σ a1 a2) = σ from by unfold g_X0_setConceded_5; exact ((if_pos c1).trans rfl))] at hQ; exact hQ)
  · refine mK_aload_n dX0_setConceded_8 rfl rfl (.head _) ?_
    refine mK_iload_n dX0_setConceded_9 rfl rfl (.tail _ (.tail _ (.head _))) ?_
    refine mK_if_eq (tgt := 25) dX0_setConceded_10 rfl (by decide) (fun c2 => ?_) (fun c2 => ?_)
    · refine mK_aload_n dX0_setConceded_25 rfl rfl (.head _) ?_
      refine ru_getL (k := 11) (ci := 0) dX0_setConceded_26 rfl rfl kw_153 ?_
      refine mK_iload_n dX0_setConceded_29 rfl rfl (.tail _ (.head _)) ?_
      refine mK_invSN (J := M_X7_bit) (k := 1) (as := [.int a1]) (st := [.long (σ.2.1 5 11), .ref 5]) (c1 := 0) (s1 := 0) dX0_setConceded_30 rfl jw_X7_bit jn_X7_bit rfl (Nat.le_of_ble_eq_true rfl) (Nat.zero_le _) (Nat.zero_le _) rfl kn_634 kw_612 ?_
      refine S_X7_bit a1 ?_
      show mK Γ M_X0_setConceded (d + 2) Q 60 0 0 33 [(0, .ref 5), (1, .int a1), (2, .int a2)] [.long (f_X7_bit σ a1), .long (σ.2.1 5 11), .ref 5] 60 mSH σ
      refine mK_ldc2 dX0_setConceded_33 rfl kw_682 ?_
      refine mK_lxor dX0_setConceded_36 rfl ?_
      refine mK_land dX0_setConceded_37 rfl ?_
      refine ru_putL (k := 11) (ci := 0) dX0_setConceded_38 rfl rfl rfl kw_153 ?_
      exact mK_vret dX0_setConceded_41 rfl (by rw [(show (g_X0_setConceded_5 σ a1 a2) = (mPL σ 5 11 ((σ.2.1 5 11) &&& ((f_X7_bit σ a1) ^^^ (-1)))) from by unfold g_X0_setConceded_5; exact ((if_neg c1).trans ((if_pos c2).trans rfl)))] at hQ; exact hQ)
    · refine mK_aload_n dX0_setConceded_13 rfl rfl (.head _) ?_
      refine ru_getL (k := 11) (ci := 0) dX0_setConceded_14 rfl rfl kw_153 ?_
      refine mK_iload_n dX0_setConceded_17 rfl rfl (.tail _ (.head _)) ?_
      refine mK_invSN (J := M_X7_bit) (k := 1) (as := [.int a1]) (st := [.long (σ.2.1 5 11), .ref 5]) (c1 := 0) (s1 := 0) dX0_setConceded_18 rfl jw_X7_bit jn_X7_bit rfl (Nat.le_of_ble_eq_true rfl) (Nat.zero_le _) (Nat.zero_le _) rfl kn_634 kw_612 ?_
      refine S_X7_bit a1 ?_
      show mK Γ M_X0_setConceded (d + 2) Q 60 0 0 21 [(0, .ref 5), (1, .int a1), (2, .int a2)] [.long (f_X7_bit σ a1), .long (σ.2.1 5 11), .ref 5] 60 mSH σ
      refine mK_lor dX0_setConceded_21 rfl ?_
      refine mK_goto (tgt := 38) dX0_setConceded_22 (by decide) ?_
      refine ru_putL (k := 11) (ci := 0) dX0_setConceded_38 rfl rfl rfl kw_153 ?_
      exact mK_vret dX0_setConceded_41 rfl (by rw [(show (g_X0_setConceded_5 σ a1 a2) = (mPL σ 5 11 ((σ.2.1 5 11) ||| (f_X7_bit σ a1))) from by unfold g_X0_setConceded_5; exact ((if_neg c1).trans ((if_neg c2).trans rfl)))] at hQ; exact hQ)
def f_X0_sourceOf_5 (σ : mS) (a1 : Int32) : Int32 := if (f_X0_hasItem_5 σ a1) = 0 then (-1) else (σ.1 12 (a1).toNatClampNeg)
set_option maxRecDepth 20000 in
theorem S_X0_sourceOf_5 {Γ : Nat × (Nat → Int32)} {d : Nat} {Q : mQ} {σ : mS} (a1 : Int32) (hQ : Q (.inl (some (.int (f_X0_sourceOf_5 σ a1)))) 60 mSH σ) : mCall Γ M_X0_sourceOf (d + 2) 0 0 [.ref 5, .int a1] 60 mSH σ Q := by
  refine mCall_of rfl (by decide) (Nat.le_of_ble_eq_true rfl) (mOkC (mOk_lo (Nat.le_of_ble_eq_true rfl)) (mOkC mOk_i mOkN)) ?_
  show mK Γ M_X0_sourceOf (d + 2) Q 60 0 0 0 [(0, .ref 5), (1, .int a1)] [] 60 mSH σ
  refine mK_aload_n dX0_sourceOf_0 rfl rfl (.head _) ?_
  refine mK_iload_n dX0_sourceOf_1 rfl rfl (.tail _ (.head _)) ?_
  refine mK_invV (J := M_X0_hasItem) (k := 1) (as := [.int a1]) (st := []) (c1 := 0) (s1 := 0) dX0_sourceOf_2 rfl jw_X0_hasItem jn_X0_hasItem rfl (Nat.le_of_ble_eq_true rfl) (Nat.zero_le _) (Nat.zero_le _) rfl kw_565 kw_566 kw_567 (b := 5) (Nat.le_of_ble_eq_true rfl) (Nat.le_of_ble_eq_true rfl) rfl ?_
  refine S_X0_hasItem_5 a1 ?_
  show mK Γ M_X0_sourceOf (d + 2) Q 60 0 0 5 [(0, .ref 5), (1, .int a1)] [.int (f_X0_hasItem_5 σ a1)] 60 mSH σ
  refine mK_if_eq (tgt := 17) dX0_sourceOf_5 rfl (by decide) (fun c1 => ?_) (fun c1 => ?_)
  · refine mK_iconst dX0_sourceOf_17 rfl qic_m1 ?_
    exact mK_iret dX0_sourceOf_18 rfl (by rw [(show (f_X0_sourceOf_5 σ a1) = (-1) from by unfold f_X0_sourceOf_5; exact ((if_pos c1).trans rfl))] at hQ; exact hQ)
  · refine mK_aload_n dX0_sourceOf_8 rfl rfl (.head _) ?_
    refine ru_getR (k := 7) (ci := 0) (a := 12) dX0_sourceOf_9 rfl rfl rfl kw_149 ?_
    refine mK_iload_n dX0_sourceOf_12 rfl rfl (.tail _ (.head _)) ?_
    refine ru_iald (n := 40) dX0_sourceOf_13 rfl rfl (hasItem_in c1) ?_
    refine mK_goto (tgt := 18) dX0_sourceOf_14 (by decide) ?_
    exact mK_iret dX0_sourceOf_18 rfl (by rw [(show (f_X0_sourceOf_5 σ a1) = (σ.1 12 (a1).toNatClampNeg) from by unfold f_X0_sourceOf_5; exact ((if_neg c1).trans rfl))] at hQ; exact hQ)
def f_X0_speakers_5 (σ : mS) : Int32 := (σ.1 5 2)
set_option maxRecDepth 20000 in
theorem S_X0_speakers_5 {Γ : Nat × (Nat → Int32)} {d : Nat} {Q : mQ} {σ : mS} (hQ : Q (.inl (some (.int (f_X0_speakers_5 σ)))) 60 mSH σ) : mCall Γ M_X0_speakers (d + 1) 0 0 [.ref 5] 60 mSH σ Q := by
  refine mCall_of rfl (by decide) (Nat.le_of_ble_eq_true rfl) (mOkC (mOk_lo (Nat.le_of_ble_eq_true rfl)) mOkN) ?_
  show mK Γ M_X0_speakers (d + 1) Q 60 0 0 0 [(0, .ref 5)] [] 60 mSH σ
  refine mK_aload_n dX0_speakers_0 rfl rfl (.head _) ?_
  refine ru_getI (k := 2) (ci := 0) dX0_speakers_1 rfl rfl kw_144 ?_
  exact mK_iret dX0_speakers_4 rfl (by rw [(show (f_X0_speakers_5 σ) = (σ.1 5 2) from rfl)] at hQ; exact hQ)
def f_X0_targetOf_5 (σ : mS) (a1 : Int32) : Int32 := if (f_X0_hasItem_5 σ a1) = 0 then (-1) else (σ.1 13 (a1).toNatClampNeg)
set_option maxRecDepth 20000 in
theorem S_X0_targetOf_5 {Γ : Nat × (Nat → Int32)} {d : Nat} {Q : mQ} {σ : mS} (a1 : Int32) (hQ : Q (.inl (some (.int (f_X0_targetOf_5 σ a1)))) 60 mSH σ) : mCall Γ M_X0_targetOf (d + 2) 0 0 [.ref 5, .int a1] 60 mSH σ Q := by
  refine mCall_of rfl (by decide) (Nat.le_of_ble_eq_true rfl) (mOkC (mOk_lo (Nat.le_of_ble_eq_true rfl)) (mOkC mOk_i mOkN)) ?_
  show mK Γ M_X0_targetOf (d + 2) Q 60 0 0 0 [(0, .ref 5), (1, .int a1)] [] 60 mSH σ
  refine mK_aload_n dX0_targetOf_0 rfl rfl (.head _) ?_
  refine mK_iload_n dX0_targetOf_1 rfl rfl (.tail _ (.head _)) ?_
  refine mK_invV (J := M_X0_hasItem) (k := 1) (as := [.int a1]) (st := []) (c1 := 0) (s1 := 0) dX0_targetOf_2 rfl jw_X0_hasItem jn_X0_hasItem rfl (Nat.le_of_ble_eq_true rfl) (Nat.zero_le _) (Nat.zero_le _) rfl kw_565 kw_566 kw_567 (b := 5) (Nat.le_of_ble_eq_true rfl) (Nat.le_of_ble_eq_true rfl) rfl ?_
  refine S_X0_hasItem_5 a1 ?_
  show mK Γ M_X0_targetOf (d + 2) Q 60 0 0 5 [(0, .ref 5), (1, .int a1)] [.int (f_X0_hasItem_5 σ a1)] 60 mSH σ
  refine mK_if_eq (tgt := 17) dX0_targetOf_5 rfl (by decide) (fun c1 => ?_) (fun c1 => ?_)
  · refine mK_iconst dX0_targetOf_17 rfl qic_m1 ?_
    exact mK_iret dX0_targetOf_18 rfl (by rw [(show (f_X0_targetOf_5 σ a1) = (-1) from by unfold f_X0_targetOf_5; exact ((if_pos c1).trans rfl))] at hQ; exact hQ)
  · refine mK_aload_n dX0_targetOf_8 rfl rfl (.head _) ?_
    refine ru_getR (k := 8) (ci := 0) (a := 13) dX0_targetOf_9 rfl rfl rfl kw_150 ?_
    refine mK_iload_n dX0_targetOf_12 rfl rfl (.tail _ (.head _)) ?_
    refine ru_iald (n := 40) dX0_targetOf_13 rfl rfl (hasItem_in c1) ?_
    refine mK_goto (tgt := 18) dX0_targetOf_14 (by decide) ?_
    exact mK_iret dX0_targetOf_18 rfl (by rw [(show (f_X0_targetOf_5 σ a1) = (σ.1 13 (a1).toNatClampNeg) from by unfold f_X0_targetOf_5; exact ((if_neg c1).trans rfl))] at hQ; exact hQ)
def f_X0_timeOf_5 (σ : mS) (a1 : Int32) : Int32 := if (f_X0_hasSpeaker_5 σ a1) = 0 then 0 else (σ.1 7 (a1).toNatClampNeg)
set_option maxRecDepth 20000 in
theorem S_X0_timeOf_5 {Γ : Nat × (Nat → Int32)} {d : Nat} {Q : mQ} {σ : mS} (a1 : Int32) (hQ : Q (.inl (some (.int (f_X0_timeOf_5 σ a1)))) 60 mSH σ) : mCall Γ M_X0_timeOf (d + 2) 0 0 [.ref 5, .int a1] 60 mSH σ Q := by
  refine mCall_of rfl (by decide) (Nat.le_of_ble_eq_true rfl) (mOkC (mOk_lo (Nat.le_of_ble_eq_true rfl)) (mOkC mOk_i mOkN)) ?_
  show mK Γ M_X0_timeOf (d + 2) Q 60 0 0 0 [(0, .ref 5), (1, .int a1)] [] 60 mSH σ
  refine mK_aload_n dX0_timeOf_0 rfl rfl (.head _) ?_
  refine mK_iload_n dX0_timeOf_1 rfl rfl (.tail _ (.head _)) ?_
  refine mK_invV (J := M_X0_hasSpeaker) (k := 1) (as := [.int a1]) (st := []) (c1 := 0) (s1 := 0) dX0_timeOf_2 rfl jw_X0_hasSpeaker jn_X0_hasSpeaker rfl (Nat.le_of_ble_eq_true rfl) (Nat.zero_le _) (Nat.zero_le _) rfl kw_541 kw_542 kw_543 (b := 5) (Nat.le_of_ble_eq_true rfl) (Nat.le_of_ble_eq_true rfl) rfl ?_
  refine S_X0_hasSpeaker_5 a1 ?_
  show mK Γ M_X0_timeOf (d + 2) Q 60 0 0 5 [(0, .ref 5), (1, .int a1)] [.int (f_X0_hasSpeaker_5 σ a1)] 60 mSH σ
  refine mK_if_eq (tgt := 17) dX0_timeOf_5 rfl (by decide) (fun c1 => ?_) (fun c1 => ?_)
  · refine mK_iconst dX0_timeOf_17 rfl qic_0 ?_
    exact mK_iret dX0_timeOf_18 rfl (by rw [(show (f_X0_timeOf_5 σ a1) = 0 from by unfold f_X0_timeOf_5; exact ((if_pos c1).trans rfl))] at hQ; exact hQ)
  · refine mK_aload_n dX0_timeOf_8 rfl rfl (.head _) ?_
    refine ru_getR (k := 1) (ci := 0) (a := 7) dX0_timeOf_9 rfl rfl rfl kw_143 ?_
    refine mK_iload_n dX0_timeOf_12 rfl rfl (.tail _ (.head _)) ?_
    refine ru_iald (n := 6) dX0_timeOf_13 rfl rfl (hasSpeaker_in c1) ?_
    refine mK_goto (tgt := 18) dX0_timeOf_14 (by decide) ?_
    exact mK_iret dX0_timeOf_18 rfl (by rw [(show (f_X0_timeOf_5 σ a1) = (σ.1 7 (a1).toNatClampNeg) from by unfold f_X0_timeOf_5; exact ((if_neg c1).trans rfl))] at hQ; exact hQ)
def f_X6_kindAt_20 (σ : mS) (a1 : Int32) : Nat := if a1 < 0 then 1027 else (if (σ.1 20 3) ≤ a1 then 1027 else (if 400 < a1 then 1027 else (kR σ 21 (a1).toNatClampNeg)))
set_option maxRecDepth 20000 in
theorem S_X6_kindAt_20 {Γ : Nat × (Nat → Int32)} {d : Nat} {Q : mQ} {σ : mS} (a1 : Int32) (hs1 : ¬ (a1 < 0) → ¬ ((σ.1 20 3) ≤ a1) → ¬ (400 < a1) → vp_in a1 401) (hs2 : ¬ (a1 < 0) → ¬ ((σ.1 20 3) ≤ a1) → ¬ (400 < a1) → kRok σ 21 (a1).toNatClampNeg) (hQ : Q (.inl (some (.ref (f_X6_kindAt_20 σ a1)))) 60 mSH σ) : mCall Γ M_X6_kindAt (d + 1) 0 0 [.ref 20, .int a1] 60 mSH σ Q := by
  refine mCall_of rfl (by decide) (Nat.le_of_ble_eq_true rfl) (mOkC (mOk_lo (Nat.le_of_ble_eq_true rfl)) (mOkC mOk_i mOkN)) ?_
  show mK Γ M_X6_kindAt (d + 1) Q 60 0 0 0 [(0, .ref 20), (1, .int a1)] [] 60 mSH σ
  refine mK_iload_n dX6_kindAt_0 rfl rfl (.tail _ (.head _)) ?_
  refine mK_if_lt (tgt := 28) dX6_kindAt_1 rfl (by decide) (fun c1 => ?_) (fun c1 => ?_)
  · refine mK_getE (i := 27) dX6_kindAt_28 rfl (by decide) kw_342 ?_
    exact mK_aret dX6_kindAt_31 (ty := .object "DebateHall$Kind") rfl (Or.inl ⟨_, rfl⟩) (by rw [(show (f_X6_kindAt_20 σ a1) = 1027 from by unfold f_X6_kindAt_20; exact ((if_pos c1).trans rfl))] at hQ; exact hQ)
  · refine mK_iload_n dX6_kindAt_4 rfl rfl (.tail _ (.head _)) ?_
    refine mK_aload_n dX6_kindAt_5 rfl rfl (.head _) ?_
    refine ru_getI (k := 3) (ci := 5) dX6_kindAt_6 rfl rfl kw_230 ?_
    refine mK_icmp_ge (tgt := 28) dX6_kindAt_9 rfl (by decide) (fun c2 => ?_) (fun c2 => ?_)
    · refine mK_getE (i := 27) dX6_kindAt_28 rfl (by decide) kw_342 ?_
      exact mK_aret dX6_kindAt_31 (ty := .object "DebateHall$Kind") rfl (Or.inl ⟨_, rfl⟩) (by rw [(show (f_X6_kindAt_20 σ a1) = 1027 from by unfold f_X6_kindAt_20; exact ((if_neg c1).trans ((if_pos c2).trans rfl)))] at hQ; exact hQ)
    · refine mK_iload_n dX6_kindAt_12 rfl rfl (.tail _ (.head _)) ?_
      refine mK_sipush dX6_kindAt_13 rfl qsi_400 ?_
      refine mK_icmp_gt (tgt := 28) dX6_kindAt_16 rfl (by decide) (fun c3 => ?_) (fun c3 => ?_)
      · refine mK_getE (i := 27) dX6_kindAt_28 rfl (by decide) kw_342 ?_
        exact mK_aret dX6_kindAt_31 (ty := .object "DebateHall$Kind") rfl (Or.inl ⟨_, rfl⟩) (by rw [(show (f_X6_kindAt_20 σ a1) = 1027 from by unfold f_X6_kindAt_20; exact ((if_neg c1).trans ((if_neg c2).trans ((if_pos c3).trans rfl))))] at hQ; exact hQ)
      · refine mK_aload_n dX6_kindAt_19 rfl rfl (.head _) ?_
        refine ru_getR (k := 0) (ci := 5) (a := 21) dX6_kindAt_20 rfl rfl rfl kw_227 ?_
        refine mK_iload_n dX6_kindAt_23 rfl rfl (.tail _ (.head _)) ?_
        refine ru_aald (n := 401) dX6_kindAt_24 rfl rfl (hs1 c1 c2 c3) ((hs2 c1 c2 c3)).1 ((hs2 c1 c2 c3)).2.1 ?_
        refine mK_goto (tgt := 31) dX6_kindAt_25 (by decide) ?_
        exact mK_aret dX6_kindAt_31 (ty := .object "DebateHall$Kind") rfl (Or.inl ⟨_, rfl⟩) (by rw [(show (f_X6_kindAt_20 σ a1) = (kR σ 21 (a1).toNatClampNeg) from by unfold f_X6_kindAt_20; exact ((if_neg c1).trans ((if_neg c2).trans ((if_neg c3).trans rfl))))] at hQ; exact hQ)
def g_X1_need_24 (σ : mS) (a1 : Nat) : mS := if (σ.1 24 2) = 0 then (mPI σ 24 2 0) else (if (f_X6_kindAt_20 σ (σ.1 24 1)) = a1 then (mPI σ 24 1 ((σ.1 24 1) + 1)) else (mPI σ 24 2 0))
set_option maxRecDepth 20000 in
theorem S_X1_need_24 {Γ : Nat × (Nat → Int32)} {d : Nat} {Q : mQ} {σ : mS} (a1 : Nat) (ha_a1 : 1000 ≤ a1 ∧ a1 < 1028) (hs1 : ¬ ((σ.1 24 2) = 0) → ¬ ((σ.1 24 1) < 0) → ¬ ((σ.1 20 3) ≤ (σ.1 24 1)) → ¬ (400 < (σ.1 24 1)) → vp_in (σ.1 24 1) 401) (hs2 : ¬ ((σ.1 24 2) = 0) → ¬ ((σ.1 24 1) < 0) → ¬ ((σ.1 20 3) ≤ (σ.1 24 1)) → ¬ (400 < (σ.1 24 1)) → kRok σ 21 ((σ.1 24 1)).toNatClampNeg) (hs3 : ¬ ((σ.1 24 2) = 0) → 1000 ≤ (f_X6_kindAt_20 σ (σ.1 24 1)) ∧ (f_X6_kindAt_20 σ (σ.1 24 1)) < 1028) (hQ : Q (.inl none) 60 mSH (g_X1_need_24 σ a1)) : mCall Γ M_X1_need (d + 2) 0 0 [.ref 24, .ref a1] 60 mSH σ Q := by
  refine mCall_of rfl (by decide) (Nat.le_of_ble_eq_true rfl) (mOkC (mOk_lo (Nat.le_of_ble_eq_true rfl)) (mOkC (mOk_hi ha_a1.1) mOkN)) ?_
  show mK Γ M_X1_need (d + 2) Q 60 0 0 0 [(0, .ref 24), (1, .ref a1)] [] 60 mSH σ
  refine mK_aload_n dX1_need_0 rfl rfl (.head _) ?_
  refine ru_getZ (k := 2) (ci := 1) dX1_need_1 rfl rfl kw_248 ?_
  refine mK_if_eq (tgt := 35) dX1_need_4 rfl (by decide) (fun c1 => ?_) (fun c1 => ?_)
  · refine mK_aload_n dX1_need_35 rfl rfl (.head _) ?_
    refine mK_iconst dX1_need_36 rfl qic_0 ?_
    refine ru_putZ (k := 2) (ci := 1) dX1_need_37 rfl rfl (by decide) rfl kw_248 ?_
    exact mK_vret dX1_need_40 rfl (by rw [(show (g_X1_need_24 σ a1) = (mPI σ 24 2 0) from by unfold g_X1_need_24; exact ((if_pos c1).trans rfl))] at hQ; exact hQ)
  · refine mK_aload_n dX1_need_7 rfl rfl (.head _) ?_
    refine ru_getR (k := 0) (ci := 1) (a := 20) dX1_need_8 rfl rfl rfl kw_246 ?_
    refine mK_aload_n dX1_need_11 rfl rfl (.head _) ?_
    refine ru_getI (k := 1) (ci := 1) dX1_need_12 rfl rfl kw_247 ?_
    refine mK_invV (J := M_X6_kindAt) (k := 1) (as := [.int (σ.1 24 1)]) (st := []) (c1 := 0) (s1 := 0) dX1_need_15 rfl jw_X6_kindAt jn_X6_kindAt rfl (Nat.le_of_ble_eq_true rfl) (Nat.zero_le _) (Nat.zero_le _) rfl kw_378 kw_379 kw_380 (b := 20) (Nat.le_of_ble_eq_true rfl) (Nat.le_of_ble_eq_true rfl) rfl ?_
    refine S_X6_kindAt_20 (σ.1 24 1) (hs1 c1) (hs2 c1) ?_
    show mK Γ M_X1_need (d + 2) Q 60 0 0 18 [(0, .ref 24), (1, .ref a1)] [.ref (f_X6_kindAt_20 σ (σ.1 24 1))] 60 mSH σ
    refine mK_aload_n dX1_need_18 rfl rfl (.tail _ (.head _)) ?_
    refine ru_acmp_ne (tgt := 35) dX1_need_19 rfl (by decide) (hs3 c1) ha_a1 (fun c2 => ?_) (fun c2 => ?_)
    · refine mK_aload_n dX1_need_22 rfl rfl (.head _) ?_
      refine mK_dup dX1_need_23 rfl rfl ?_
      refine ru_getI (k := 1) (ci := 1) dX1_need_24 rfl rfl kw_247 ?_
      refine mK_iconst dX1_need_27 rfl qic_1 ?_
      refine mK_iadd dX1_need_28 rfl ?_
      refine ru_putI (k := 1) (ci := 1) dX1_need_29 rfl rfl rfl kw_247 ?_
      refine mK_goto (tgt := 40) dX1_need_32 (by decide) ?_
      exact mK_vret dX1_need_40 rfl (by rw [(show (g_X1_need_24 σ a1) = (mPI σ 24 1 ((σ.1 24 1) + 1)) from by unfold g_X1_need_24; exact ((if_neg c1).trans ((if_pos c2).trans rfl)))] at hQ; exact hQ)
    · refine mK_aload_n dX1_need_35 rfl rfl (.head _) ?_
      refine mK_iconst dX1_need_36 rfl qic_0 ?_
      refine ru_putZ (k := 2) (ci := 1) dX1_need_37 rfl rfl (by decide) rfl kw_248 ?_
      exact mK_vret dX1_need_40 rfl (by rw [(show (g_X1_need_24 σ a1) = (mPI σ 24 2 0) from by unfold g_X1_need_24; exact ((if_neg c1).trans ((if_neg c2).trans rfl)))] at hQ; exact hQ)
def g_X1_readNameBehind_24 (σ : mS) (a1 : Nat) : mS := (g_X1_need_24 (g_X1_need_24 σ a1) 1024)
set_option maxRecDepth 20000 in
theorem S_X1_readNameBehind_24 {Γ : Nat × (Nat → Int32)} {d : Nat} {Q : mQ} {σ : mS} (a1 : Nat) (ha_a1 : 1000 ≤ a1 ∧ a1 < 1028) (hs1 : ¬ ((σ.1 24 2) = 0) → ¬ ((σ.1 24 1) < 0) → ¬ ((σ.1 20 3) ≤ (σ.1 24 1)) → ¬ (400 < (σ.1 24 1)) → vp_in (σ.1 24 1) 401) (hs2 : ¬ ((σ.1 24 2) = 0) → ¬ ((σ.1 24 1) < 0) → ¬ ((σ.1 20 3) ≤ (σ.1 24 1)) → ¬ (400 < (σ.1 24 1)) → kRok σ 21 ((σ.1 24 1)).toNatClampNeg) (hs3 : ¬ ((σ.1 24 2) = 0) → 1000 ≤ (f_X6_kindAt_20 σ (σ.1 24 1)) ∧ (f_X6_kindAt_20 σ (σ.1 24 1)) < 1028) (hs4 : ¬ (((g_X1_need_24 σ a1).1 24 2) = 0) → ¬ (((g_X1_need_24 σ a1).1 24 1) < 0) → ¬ (((g_X1_need_24 σ a1).1 20 3) ≤ ((g_X1_need_24 σ a1).1 24 1)) → ¬ (400 < ((g_X1_need_24 σ a1).1 24 1)) → vp_in ((g_X1_need_24 σ a1).1 24 1) 401) (hs5 : ¬ (((g_X1_need_24 σ a1).1 24 2) = 0) → ¬ (((g_X1_need_24 σ a1).1 24 1) < 0) → ¬ (((g_X1_need_24 σ a1).1 20 3) ≤ ((g_X1_need_24 σ a1).1 24 1)) → ¬ (400 < ((g_X1_need_24 σ a1).1 24 1)) → kRok (g_X1_need_24 σ a1) 21 (((g_X1_need_24 σ a1).1 24 1)).toNatClampNeg) (hs6 : ¬ (((g_X1_need_24 σ a1).1 24 2) = 0) → 1000 ≤ (f_X6_kindAt_20 (g_X1_need_24 σ a1) ((g_X1_need_24 σ a1).1 24 1)) ∧ (f_X6_kindAt_20 (g_X1_need_24 σ a1) ((g_X1_need_24 σ a1).1 24 1)) < 1028) (hQ : Q (.inl none) 60 mSH (g_X1_readNameBehind_24 σ a1)) : mCall Γ M_X1_readNameBehind (d + 3) 0 0 [.ref 24, .ref a1] 60 mSH σ Q := by
  refine mCall_of rfl (by decide) (Nat.le_of_ble_eq_true rfl) (mOkC (mOk_lo (Nat.le_of_ble_eq_true rfl)) (mOkC (mOk_hi ha_a1.1) mOkN)) ?_
  show mK Γ M_X1_readNameBehind (d + 3) Q 60 0 0 0 [(0, .ref 24), (1, .ref a1)] [] 60 mSH σ
  refine mK_aload_n dX1_readNameBehind_0 rfl rfl (.head _) ?_
  refine mK_aload_n dX1_readNameBehind_1 rfl rfl (.tail _ (.head _)) ?_
  refine mK_invV (J := M_X1_need) (k := 1) (as := [.ref a1]) (st := []) (c1 := 0) (s1 := 0) dX1_readNameBehind_2 rfl jw_X1_need jn_X1_need rfl (Nat.le_of_ble_eq_true rfl) (Nat.zero_le _) (Nat.zero_le _) rfl kw_393 kw_395 kw_7 (b := 24) (Nat.le_of_ble_eq_true rfl) (Nat.le_of_ble_eq_true rfl) rfl ?_
  refine S_X1_need_24 a1 ha_a1 hs1 hs2 hs3 ?_
  show mK Γ M_X1_readNameBehind (d + 3) Q 60 0 0 5 [(0, .ref 24), (1, .ref a1)] [] 60 mSH (g_X1_need_24 σ a1)
  refine mK_aload_n dX1_readNameBehind_5 rfl rfl (.head _) ?_
  refine mK_getE (i := 24) dX1_readNameBehind_6 rfl (by decide) kw_392 ?_
  refine mK_invV (J := M_X1_need) (k := 1) (as := [.ref 1024]) (st := []) (c1 := 0) (s1 := 0) dX1_readNameBehind_9 rfl jw_X1_need jn_X1_need rfl (Nat.le_of_ble_eq_true rfl) (Nat.zero_le _) (Nat.zero_le _) rfl kw_393 kw_395 kw_7 (b := 24) (Nat.le_of_ble_eq_true rfl) (Nat.le_of_ble_eq_true rfl) rfl ?_
  refine S_X1_need_24 1024 (by decide) hs4 hs5 hs6 ?_
  show mK Γ M_X1_readNameBehind (d + 3) Q 60 0 0 12 [(0, .ref 24), (1, .ref a1)] [] 60 mSH (g_X1_need_24 (g_X1_need_24 σ a1) 1024)
  exact mK_vret dX1_readNameBehind_12 rfl (by rw [(show (g_X1_readNameBehind_24 σ a1) = (g_X1_need_24 (g_X1_need_24 σ a1) 1024) from rfl)] at hQ; exact hQ)
def h_X1_takes_24 (σ : mS) (a1 : Nat) : Int32 × mS := if (σ.1 24 2) = 0 then (0, σ) else (if (f_X6_kindAt_20 σ (σ.1 24 1)) = a1 then (1, (mPI σ 24 1 ((σ.1 24 1) + 1))) else (0, σ))
set_option maxRecDepth 20000 in
theorem S_X1_takes_24 {Γ : Nat × (Nat → Int32)} {d : Nat} {Q : mQ} {σ : mS} (a1 : Nat) (ha_a1 : 1000 ≤ a1 ∧ a1 < 1028) (hs1 : ¬ ((σ.1 24 2) = 0) → ¬ ((σ.1 24 1) < 0) → ¬ ((σ.1 20 3) ≤ (σ.1 24 1)) → ¬ (400 < (σ.1 24 1)) → vp_in (σ.1 24 1) 401) (hs2 : ¬ ((σ.1 24 2) = 0) → ¬ ((σ.1 24 1) < 0) → ¬ ((σ.1 20 3) ≤ (σ.1 24 1)) → ¬ (400 < (σ.1 24 1)) → kRok σ 21 ((σ.1 24 1)).toNatClampNeg) (hs3 : ¬ ((σ.1 24 2) = 0) → 1000 ≤ (f_X6_kindAt_20 σ (σ.1 24 1)) ∧ (f_X6_kindAt_20 σ (σ.1 24 1)) < 1028) (hQ : Q (.inl (some (.int (h_X1_takes_24 σ a1).1))) 60 mSH (h_X1_takes_24 σ a1).2) : mCall Γ M_X1_takes (d + 2) 0 0 [.ref 24, .ref a1] 60 mSH σ Q := by
  refine mCall_of rfl (by decide) (Nat.le_of_ble_eq_true rfl) (mOkC (mOk_lo (Nat.le_of_ble_eq_true rfl)) (mOkC (mOk_hi ha_a1.1) mOkN)) ?_
  show mK Γ M_X1_takes (d + 2) Q 60 0 0 0 [(0, .ref 24), (1, .ref a1)] [] 60 mSH σ
  refine mK_aload_n dX1_takes_0 rfl rfl (.head _) ?_
  refine ru_getZ (k := 2) (ci := 1) dX1_takes_1 rfl rfl kw_248 ?_
  refine mK_if_eq (tgt := 22) dX1_takes_4 rfl (by decide) (fun c1 => ?_) (fun c1 => ?_)
  · refine mK_iconst dX1_takes_22 rfl qic_0 ?_
    exact mK_zret dX1_takes_23 rfl (by decide) (by rw [(show (h_X1_takes_24 σ a1) = (0, σ) from by unfold h_X1_takes_24; exact ((if_pos c1).trans rfl))] at hQ; exact hQ)
  · refine mK_aload_n dX1_takes_7 rfl rfl (.head _) ?_
    refine ru_getR (k := 0) (ci := 1) (a := 20) dX1_takes_8 rfl rfl rfl kw_246 ?_
    refine mK_aload_n dX1_takes_11 rfl rfl (.head _) ?_
    refine ru_getI (k := 1) (ci := 1) dX1_takes_12 rfl rfl kw_247 ?_
    refine mK_invV (J := M_X6_kindAt) (k := 1) (as := [.int (σ.1 24 1)]) (st := []) (c1 := 0) (s1 := 0) dX1_takes_15 rfl jw_X6_kindAt jn_X6_kindAt rfl (Nat.le_of_ble_eq_true rfl) (Nat.zero_le _) (Nat.zero_le _) rfl kw_378 kw_379 kw_380 (b := 20) (Nat.le_of_ble_eq_true rfl) (Nat.le_of_ble_eq_true rfl) rfl ?_
    refine S_X6_kindAt_20 (σ.1 24 1) (hs1 c1) (hs2 c1) ?_
    show mK Γ M_X1_takes (d + 2) Q 60 0 0 18 [(0, .ref 24), (1, .ref a1)] [.ref (f_X6_kindAt_20 σ (σ.1 24 1))] 60 mSH σ
    refine mK_aload_n dX1_takes_18 rfl rfl (.tail _ (.head _)) ?_
    refine ru_acmp_eq (tgt := 24) dX1_takes_19 rfl (by decide) (hs3 c1) ha_a1 (fun c2 => ?_) (fun c2 => ?_)
    · refine mK_aload_n dX1_takes_24 rfl rfl (.head _) ?_
      refine mK_dup dX1_takes_25 rfl rfl ?_
      refine ru_getI (k := 1) (ci := 1) dX1_takes_26 rfl rfl kw_247 ?_
      refine mK_iconst dX1_takes_29 rfl qic_1 ?_
      refine mK_iadd dX1_takes_30 rfl ?_
      refine ru_putI (k := 1) (ci := 1) dX1_takes_31 rfl rfl rfl kw_247 ?_
      refine mK_iconst dX1_takes_34 rfl qic_1 ?_
      exact mK_zret dX1_takes_35 rfl (by decide) (by rw [(show (h_X1_takes_24 σ a1) = (1, (mPI σ 24 1 ((σ.1 24 1) + 1))) from by unfold h_X1_takes_24; exact ((if_neg c1).trans ((if_pos c2).trans rfl)))] at hQ; exact hQ)
    · refine mK_iconst dX1_takes_22 rfl qic_0 ?_
      exact mK_zret dX1_takes_23 rfl (by decide) (by rw [(show (h_X1_takes_24 σ a1) = (0, σ) from by unfold h_X1_takes_24; exact ((if_neg c1).trans ((if_neg c2).trans rfl)))] at hQ; exact hQ)
def g_X1_readNumberBehind_24 (σ : mS) (a1 : Nat) : mS := if (h_X1_takes_24 σ a1).1 = 0 then ((h_X1_takes_24 σ a1).2) else (g_X1_need_24 (h_X1_takes_24 σ a1).2 1025)
set_option maxRecDepth 20000 in
theorem S_X1_readNumberBehind_24 {Γ : Nat × (Nat → Int32)} {d : Nat} {Q : mQ} {σ : mS} (a1 : Nat) (ha_a1 : 1000 ≤ a1 ∧ a1 < 1028) (hs1 : ¬ ((σ.1 24 2) = 0) → ¬ ((σ.1 24 1) < 0) → ¬ ((σ.1 20 3) ≤ (σ.1 24 1)) → ¬ (400 < (σ.1 24 1)) → vp_in (σ.1 24 1) 401) (hs2 : ¬ ((σ.1 24 2) = 0) → ¬ ((σ.1 24 1) < 0) → ¬ ((σ.1 20 3) ≤ (σ.1 24 1)) → ¬ (400 < (σ.1 24 1)) → kRok σ 21 ((σ.1 24 1)).toNatClampNeg) (hs3 : ¬ ((σ.1 24 2) = 0) → 1000 ≤ (f_X6_kindAt_20 σ (σ.1 24 1)) ∧ (f_X6_kindAt_20 σ (σ.1 24 1)) < 1028) (hs4 : ¬ ((h_X1_takes_24 σ a1).1 = 0) → ¬ (((h_X1_takes_24 σ a1).2.1 24 2) = 0) → ¬ (((h_X1_takes_24 σ a1).2.1 24 1) < 0) → ¬ (((h_X1_takes_24 σ a1).2.1 20 3) ≤ ((h_X1_takes_24 σ a1).2.1 24 1)) → ¬ (400 < ((h_X1_takes_24 σ a1).2.1 24 1)) → vp_in ((h_X1_takes_24 σ a1).2.1 24 1) 401) (hs5 : ¬ ((h_X1_takes_24 σ a1).1 = 0) → ¬ (((h_X1_takes_24 σ a1).2.1 24 2) = 0) → ¬ (((h_X1_takes_24 σ a1).2.1 24 1) < 0) → ¬ (((h_X1_takes_24 σ a1).2.1 20 3) ≤ ((h_X1_takes_24 σ a1).2.1 24 1)) → ¬ (400 < ((h_X1_takes_24 σ a1).2.1 24 1)) → kRok (h_X1_takes_24 σ a1).2 21 (((h_X1_takes_24 σ a1).2.1 24 1)).toNatClampNeg) (hs6 : ¬ ((h_X1_takes_24 σ a1).1 = 0) → ¬ (((h_X1_takes_24 σ a1).2.1 24 2) = 0) → 1000 ≤ (f_X6_kindAt_20 (h_X1_takes_24 σ a1).2 ((h_X1_takes_24 σ a1).2.1 24 1)) ∧ (f_X6_kindAt_20 (h_X1_takes_24 σ a1).2 ((h_X1_takes_24 σ a1).2.1 24 1)) < 1028) (hQ : Q (.inl none) 60 mSH (g_X1_readNumberBehind_24 σ a1)) : mCall Γ M_X1_readNumberBehind (d + 3) 0 0 [.ref 24, .ref a1] 60 mSH σ Q := by
  refine mCall_of rfl (by decide) (Nat.le_of_ble_eq_true rfl) (mOkC (mOk_lo (Nat.le_of_ble_eq_true rfl)) (mOkC (mOk_hi ha_a1.1) mOkN)) ?_
  show mK Γ M_X1_readNumberBehind (d + 3) Q 60 0 0 0 [(0, .ref 24), (1, .ref a1)] [] 60 mSH σ
  refine mK_aload_n dX1_readNumberBehind_0 rfl rfl (.head _) ?_
  refine mK_aload_n dX1_readNumberBehind_1 rfl rfl (.tail _ (.head _)) ?_
  refine mK_invV (J := M_X1_takes) (k := 1) (as := [.ref a1]) (st := []) (c1 := 0) (s1 := 0) dX1_readNumberBehind_2 rfl jw_X1_takes jn_X1_takes rfl (Nat.le_of_ble_eq_true rfl) (Nat.zero_le _) (Nat.zero_le _) rfl kw_388 kw_390 kw_6 (b := 24) (Nat.le_of_ble_eq_true rfl) (Nat.le_of_ble_eq_true rfl) rfl ?_
  refine S_X1_takes_24 a1 ha_a1 hs1 hs2 hs3 ?_
  show mK Γ M_X1_readNumberBehind (d + 3) Q 60 0 0 5 [(0, .ref 24), (1, .ref a1)] [.int (h_X1_takes_24 σ a1).1] 60 mSH (h_X1_takes_24 σ a1).2
  refine mK_if_eq (tgt := 15) dX1_readNumberBehind_5 rfl (by decide) (fun c1 => ?_) (fun c1 => ?_)
  · exact mK_vret dX1_readNumberBehind_15 rfl (by rw [(show (g_X1_readNumberBehind_24 σ a1) = (h_X1_takes_24 σ a1).2 from by unfold g_X1_readNumberBehind_24; exact ((if_pos c1).trans rfl))] at hQ; exact hQ)
  · refine mK_aload_n dX1_readNumberBehind_8 rfl rfl (.head _) ?_
    refine mK_getE (i := 25) dX1_readNumberBehind_9 rfl (by decide) kw_403 ?_
    refine mK_invV (J := M_X1_need) (k := 1) (as := [.ref 1025]) (st := []) (c1 := 0) (s1 := 0) dX1_readNumberBehind_12 rfl jw_X1_need jn_X1_need rfl (Nat.le_of_ble_eq_true rfl) (Nat.zero_le _) (Nat.zero_le _) rfl kw_393 kw_395 kw_7 (b := 24) (Nat.le_of_ble_eq_true rfl) (Nat.le_of_ble_eq_true rfl) rfl ?_
    refine S_X1_need_24 1025 (by decide) (hs4 c1) (hs5 c1) (hs6 c1) ?_
    show mK Γ M_X1_readNumberBehind (d + 3) Q 60 0 0 15 [(0, .ref 24), (1, .ref a1)] [] 60 mSH (g_X1_need_24 (h_X1_takes_24 σ a1).2 1025)
    exact mK_vret dX1_readNumberBehind_15 rfl (by rw [(show (g_X1_readNumberBehind_24 σ a1) = (g_X1_need_24 (h_X1_takes_24 σ a1).2 1025) from by unfold g_X1_readNumberBehind_24; exact ((if_neg c1).trans rfl))] at hQ; exact hQ)
def f_X1_sees_24 (σ : mS) (a1 : Nat) : Int32 := if (σ.1 24 2) = 0 then 0 else (if (f_X6_kindAt_20 σ (σ.1 24 1)) = a1 then 1 else 0)
set_option maxRecDepth 20000 in
theorem S_X1_sees_24 {Γ : Nat × (Nat → Int32)} {d : Nat} {Q : mQ} {σ : mS} (a1 : Nat) (ha_a1 : 1000 ≤ a1 ∧ a1 < 1028) (hs1 : ¬ ((σ.1 24 2) = 0) → ¬ ((σ.1 24 1) < 0) → ¬ ((σ.1 20 3) ≤ (σ.1 24 1)) → ¬ (400 < (σ.1 24 1)) → vp_in (σ.1 24 1) 401) (hs2 : ¬ ((σ.1 24 2) = 0) → ¬ ((σ.1 24 1) < 0) → ¬ ((σ.1 20 3) ≤ (σ.1 24 1)) → ¬ (400 < (σ.1 24 1)) → kRok σ 21 ((σ.1 24 1)).toNatClampNeg) (hs3 : ¬ ((σ.1 24 2) = 0) → 1000 ≤ (f_X6_kindAt_20 σ (σ.1 24 1)) ∧ (f_X6_kindAt_20 σ (σ.1 24 1)) < 1028) (hQ : Q (.inl (some (.int (f_X1_sees_24 σ a1)))) 60 mSH σ) : mCall Γ M_X1_sees (d + 2) 0 0 [.ref 24, .ref a1] 60 mSH σ Q := by
  refine mCall_of rfl (by decide) (Nat.le_of_ble_eq_true rfl) (mOkC (mOk_lo (Nat.le_of_ble_eq_true rfl)) (mOkC (mOk_hi ha_a1.1) mOkN)) ?_
  show mK Γ M_X1_sees (d + 2) Q 60 0 0 0 [(0, .ref 24), (1, .ref a1)] [] 60 mSH σ
  refine mK_aload_n dX1_sees_0 rfl rfl (.head _) ?_
  refine ru_getZ (k := 2) (ci := 1) dX1_sees_1 rfl rfl kw_248 ?_
  refine mK_if_eq (tgt := 26) dX1_sees_4 rfl (by decide) (fun c1 => ?_) (fun c1 => ?_)
  · refine mK_iconst dX1_sees_26 rfl qic_0 ?_
    exact mK_zret dX1_sees_27 rfl (by decide) (by rw [(show (f_X1_sees_24 σ a1) = 0 from by unfold f_X1_sees_24; exact ((if_pos c1).trans rfl))] at hQ; exact hQ)
  · refine mK_aload_n dX1_sees_7 rfl rfl (.head _) ?_
    refine ru_getR (k := 0) (ci := 1) (a := 20) dX1_sees_8 rfl rfl rfl kw_246 ?_
    refine mK_aload_n dX1_sees_11 rfl rfl (.head _) ?_
    refine ru_getI (k := 1) (ci := 1) dX1_sees_12 rfl rfl kw_247 ?_
    refine mK_invV (J := M_X6_kindAt) (k := 1) (as := [.int (σ.1 24 1)]) (st := []) (c1 := 0) (s1 := 0) dX1_sees_15 rfl jw_X6_kindAt jn_X6_kindAt rfl (Nat.le_of_ble_eq_true rfl) (Nat.zero_le _) (Nat.zero_le _) rfl kw_378 kw_379 kw_380 (b := 20) (Nat.le_of_ble_eq_true rfl) (Nat.le_of_ble_eq_true rfl) rfl ?_
    refine S_X6_kindAt_20 (σ.1 24 1) (hs1 c1) (hs2 c1) ?_
    show mK Γ M_X1_sees (d + 2) Q 60 0 0 18 [(0, .ref 24), (1, .ref a1)] [.ref (f_X6_kindAt_20 σ (σ.1 24 1))] 60 mSH σ
    refine mK_aload_n dX1_sees_18 rfl rfl (.tail _ (.head _)) ?_
    refine ru_acmp_ne (tgt := 26) dX1_sees_19 rfl (by decide) (hs3 c1) ha_a1 (fun c2 => ?_) (fun c2 => ?_)
    · refine mK_iconst dX1_sees_22 rfl qic_1 ?_
      refine mK_goto (tgt := 27) dX1_sees_23 (by decide) ?_
      exact mK_zret dX1_sees_27 rfl (by decide) (by rw [(show (f_X1_sees_24 σ a1) = 1 from by unfold f_X1_sees_24; exact ((if_neg c1).trans ((if_pos c2).trans rfl)))] at hQ; exact hQ)
    · refine mK_iconst dX1_sees_26 rfl qic_0 ?_
      exact mK_zret dX1_sees_27 rfl (by decide) (by rw [(show (f_X1_sees_24 σ a1) = 0 from by unfold f_X1_sees_24; exact ((if_neg c1).trans ((if_neg c2).trans rfl)))] at hQ; exact hQ)
def f_X6_placeOf_20 (σ : mS) (a1 : Int32) : Int32 := if a1 < 0 then 0 else (if (σ.1 20 3) ≤ a1 then 0 else (if 400 < a1 then 0 else (σ.1 22 (a1).toNatClampNeg)))
set_option maxRecDepth 20000 in
theorem S_X6_placeOf_20 {Γ : Nat × (Nat → Int32)} {d : Nat} {Q : mQ} {σ : mS} (a1 : Int32) (hs1 : ¬ (a1 < 0) → ¬ ((σ.1 20 3) ≤ a1) → ¬ (400 < a1) → vp_in a1 401) (hQ : Q (.inl (some (.int (f_X6_placeOf_20 σ a1)))) 60 mSH σ) : mCall Γ M_X6_placeOf (d + 1) 0 0 [.ref 20, .int a1] 60 mSH σ Q := by
  refine mCall_of rfl (by decide) (Nat.le_of_ble_eq_true rfl) (mOkC (mOk_lo (Nat.le_of_ble_eq_true rfl)) (mOkC mOk_i mOkN)) ?_
  show mK Γ M_X6_placeOf (d + 1) Q 60 0 0 0 [(0, .ref 20), (1, .int a1)] [] 60 mSH σ
  refine mK_iload_n dX6_placeOf_0 rfl rfl (.tail _ (.head _)) ?_
  refine mK_if_lt (tgt := 28) dX6_placeOf_1 rfl (by decide) (fun c1 => ?_) (fun c1 => ?_)
  · refine mK_iconst dX6_placeOf_28 rfl qic_0 ?_
    exact mK_iret dX6_placeOf_29 rfl (by rw [(show (f_X6_placeOf_20 σ a1) = 0 from by unfold f_X6_placeOf_20; exact ((if_pos c1).trans rfl))] at hQ; exact hQ)
  · refine mK_iload_n dX6_placeOf_4 rfl rfl (.tail _ (.head _)) ?_
    refine mK_aload_n dX6_placeOf_5 rfl rfl (.head _) ?_
    refine ru_getI (k := 3) (ci := 5) dX6_placeOf_6 rfl rfl kw_230 ?_
    refine mK_icmp_ge (tgt := 28) dX6_placeOf_9 rfl (by decide) (fun c2 => ?_) (fun c2 => ?_)
    · refine mK_iconst dX6_placeOf_28 rfl qic_0 ?_
      exact mK_iret dX6_placeOf_29 rfl (by rw [(show (f_X6_placeOf_20 σ a1) = 0 from by unfold f_X6_placeOf_20; exact ((if_neg c1).trans ((if_pos c2).trans rfl)))] at hQ; exact hQ)
    · refine mK_iload_n dX6_placeOf_12 rfl rfl (.tail _ (.head _)) ?_
      refine mK_sipush dX6_placeOf_13 rfl qsi_400 ?_
      refine mK_icmp_gt (tgt := 28) dX6_placeOf_16 rfl (by decide) (fun c3 => ?_) (fun c3 => ?_)
      · refine mK_iconst dX6_placeOf_28 rfl qic_0 ?_
        exact mK_iret dX6_placeOf_29 rfl (by rw [(show (f_X6_placeOf_20 σ a1) = 0 from by unfold f_X6_placeOf_20; exact ((if_neg c1).trans ((if_neg c2).trans ((if_pos c3).trans rfl))))] at hQ; exact hQ)
      · refine mK_aload_n dX6_placeOf_19 rfl rfl (.head _) ?_
        refine ru_getR (k := 1) (ci := 5) (a := 22) dX6_placeOf_20 rfl rfl rfl kw_228 ?_
        refine mK_iload_n dX6_placeOf_23 rfl rfl (.tail _ (.head _)) ?_
        refine ru_iald (n := 401) dX6_placeOf_24 rfl rfl (hs1 c1 c2 c3) ?_
        refine mK_goto (tgt := 29) dX6_placeOf_25 (by decide) ?_
        exact mK_iret dX6_placeOf_29 rfl (by rw [(show (f_X6_placeOf_20 σ a1) = (σ.1 22 (a1).toNatClampNeg) from by unfold f_X6_placeOf_20; exact ((if_neg c1).trans ((if_neg c2).trans ((if_neg c3).trans rfl))))] at hQ; exact hQ)
def f_X2_code (σ : mS) (a0 : Nat) : Int64 := (mKc (a0 - 1000))
set_option maxRecDepth 20000 in
theorem S_X2_code {Γ : Nat × (Nat → Int32)} {d : Nat} {Q : mQ} {σ : mS} (a0 : Nat) (ha_a0 : 1000 ≤ a0 ∧ a0 < 1028) (hQ : Q (.inl (some (.long (f_X2_code σ a0)))) 60 mSH σ) : mCall Γ M_X2_code (d + 1) 0 0 [.ref a0] 60 mSH σ Q := by
  refine mCall_of rfl (by decide) (Nat.le_of_ble_eq_true rfl) (mOkC (mOk_hi ha_a0.1) mOkN) ?_
  show mK Γ M_X2_code (d + 1) Q 60 0 0 0 [(0, .ref a0)] [] 60 mSH σ
  refine mK_aload_n dX2_code_0 rfl rfl (.head _) ?_
  refine ru_code dX2_code_1 rfl ha_a0 kw_1599 ?_
  exact mK_lret dX2_code_4 rfl (by rw [(show (f_X2_code σ a0) = (mKc (a0 - 1000)) from rfl)] at hQ; exact hQ)
def g_X3_append_1 (σ : mS) (a1 : Int32) : mS := if (σ.1 1 1) < 0 then σ else (if 2000 ≤ (σ.1 1 1) then σ else (mPI (mPI σ 2 (σ.1 1 1).toNatClampNeg (vp_nar .byte (Int32.toInt8 a1).toInt32)) 1 1 ((σ.1 1 1) + 1)))
set_option maxRecDepth 20000 in
theorem S_X3_append_1 {Γ : Nat × (Nat → Int32)} {d : Nat} {Q : mQ} {σ : mS} (a1 : Int32) (hQ : Q (.inl none) 60 mSH (g_X3_append_1 σ a1)) : mCall Γ M_X3_append (d + 1) 0 0 [.ref 1, .int a1] 60 mSH σ Q := by
  refine mCall_of rfl (by decide) (Nat.le_of_ble_eq_true rfl) (mOkC (mOk_lo (Nat.le_of_ble_eq_true rfl)) (mOkC mOk_i mOkN)) ?_
  show mK Γ M_X3_append (d + 1) Q 60 0 0 0 [(0, .ref 1), (1, .int a1)] [] 60 mSH σ
  refine mK_aload_n dX3_append_0 rfl rfl (.head _) ?_
  refine ru_getI (k := 1) (ci := 2) dX3_append_1 rfl rfl kw_129 ?_
  refine mK_if_lt (tgt := 40) dX3_append_4 rfl (by decide) (fun c1 => ?_) (fun c1 => ?_)
  · exact mK_vret dX3_append_40 rfl (by rw [(show (g_X3_append_1 σ a1) = σ from by unfold g_X3_append_1; exact ((if_pos c1).trans rfl))] at hQ; exact hQ)
  · refine mK_aload_n dX3_append_7 rfl rfl (.head _) ?_
    refine ru_getI (k := 1) (ci := 2) dX3_append_8 rfl rfl kw_129 ?_
    refine mK_aload_n dX3_append_11 rfl rfl (.head _) ?_
    refine ru_getR (k := 0) (ci := 2) (a := 2) dX3_append_12 rfl rfl rfl kw_128 ?_
    refine ru_alen (n := 2000) (t := 1) dX3_append_15 rfl rfl ?_
    refine mK_icmp_ge (tgt := 40) dX3_append_16 rfl (by decide) (fun c2 => ?_) (fun c2 => ?_)
    · exact mK_vret dX3_append_40 rfl (by rw [(show (g_X3_append_1 σ a1) = σ from by unfold g_X3_append_1; exact ((if_neg c1).trans ((if_pos c2).trans rfl)))] at hQ; exact hQ)
    · refine mK_aload_n dX3_append_19 rfl rfl (.head _) ?_
      refine ru_getR (k := 0) (ci := 2) (a := 2) dX3_append_20 rfl rfl rfl kw_128 ?_
      refine mK_aload_n dX3_append_23 rfl rfl (.head _) ?_
      refine ru_getI (k := 1) (ci := 2) dX3_append_24 rfl rfl kw_129 ?_
      refine mK_iload_n dX3_append_27 rfl rfl (.tail _ (.head _)) ?_
      refine mK_i2b dX3_append_28 rfl ?_
      refine ru_bast (n := 2000) dX3_append_29 rfl rfl (vin_of (Int32.not_lt.mp c1) (Int32.not_le.mp c2) (by decide)) ?_
      refine mK_aload_n dX3_append_30 rfl rfl (.head _) ?_
      refine mK_dup dX3_append_31 rfl rfl ?_
      refine ru_getI (k := 1) (ci := 2) dX3_append_32 rfl rfl kw_129 ?_
      refine mK_iconst dX3_append_35 rfl qic_1 ?_
      refine mK_iadd dX3_append_36 rfl ?_
      refine ru_putI (k := 1) (ci := 2) dX3_append_37 rfl rfl rfl kw_129 ?_
      exact mK_vret dX3_append_40 rfl (by rw [(show (g_X3_append_1 σ a1) = (mPI (mPI σ 2 (σ.1 1 1).toNatClampNeg (vp_nar .byte (Int32.toInt8 a1).toInt32)) 1 1 ((σ.1 1 1) + 1)) from by unfold g_X3_append_1; exact ((if_neg c1).trans ((if_neg c2).trans rfl)))] at hQ; exact hQ)
def g_X3_append_3 (σ : mS) (a1 : Int32) : mS := if (σ.1 3 1) < 0 then σ else (if 920 ≤ (σ.1 3 1) then σ else (mPI (mPI σ 4 (σ.1 3 1).toNatClampNeg (vp_nar .byte (Int32.toInt8 a1).toInt32)) 3 1 ((σ.1 3 1) + 1)))
set_option maxRecDepth 20000 in
theorem S_X3_append_3 {Γ : Nat × (Nat → Int32)} {d : Nat} {Q : mQ} {σ : mS} (a1 : Int32) (hQ : Q (.inl none) 60 mSH (g_X3_append_3 σ a1)) : mCall Γ M_X3_append (d + 1) 0 0 [.ref 3, .int a1] 60 mSH σ Q := by
  refine mCall_of rfl (by decide) (Nat.le_of_ble_eq_true rfl) (mOkC (mOk_lo (Nat.le_of_ble_eq_true rfl)) (mOkC mOk_i mOkN)) ?_
  show mK Γ M_X3_append (d + 1) Q 60 0 0 0 [(0, .ref 3), (1, .int a1)] [] 60 mSH σ
  refine mK_aload_n dX3_append_0 rfl rfl (.head _) ?_
  refine ru_getI (k := 1) (ci := 2) dX3_append_1 rfl rfl kw_129 ?_
  refine mK_if_lt (tgt := 40) dX3_append_4 rfl (by decide) (fun c1 => ?_) (fun c1 => ?_)
  · exact mK_vret dX3_append_40 rfl (by rw [(show (g_X3_append_3 σ a1) = σ from by unfold g_X3_append_3; exact ((if_pos c1).trans rfl))] at hQ; exact hQ)
  · refine mK_aload_n dX3_append_7 rfl rfl (.head _) ?_
    refine ru_getI (k := 1) (ci := 2) dX3_append_8 rfl rfl kw_129 ?_
    refine mK_aload_n dX3_append_11 rfl rfl (.head _) ?_
    refine ru_getR (k := 0) (ci := 2) (a := 4) dX3_append_12 rfl rfl rfl kw_128 ?_
    refine ru_alen (n := 920) (t := 1) dX3_append_15 rfl rfl ?_
    refine mK_icmp_ge (tgt := 40) dX3_append_16 rfl (by decide) (fun c2 => ?_) (fun c2 => ?_)
    · exact mK_vret dX3_append_40 rfl (by rw [(show (g_X3_append_3 σ a1) = σ from by unfold g_X3_append_3; exact ((if_neg c1).trans ((if_pos c2).trans rfl)))] at hQ; exact hQ)
    · refine mK_aload_n dX3_append_19 rfl rfl (.head _) ?_
      refine ru_getR (k := 0) (ci := 2) (a := 4) dX3_append_20 rfl rfl rfl kw_128 ?_
      refine mK_aload_n dX3_append_23 rfl rfl (.head _) ?_
      refine ru_getI (k := 1) (ci := 2) dX3_append_24 rfl rfl kw_129 ?_
      refine mK_iload_n dX3_append_27 rfl rfl (.tail _ (.head _)) ?_
      refine mK_i2b dX3_append_28 rfl ?_
      refine ru_bast (n := 920) dX3_append_29 rfl rfl (vin_of (Int32.not_lt.mp c1) (Int32.not_le.mp c2) (by decide)) ?_
      refine mK_aload_n dX3_append_30 rfl rfl (.head _) ?_
      refine mK_dup dX3_append_31 rfl rfl ?_
      refine ru_getI (k := 1) (ci := 2) dX3_append_32 rfl rfl kw_129 ?_
      refine mK_iconst dX3_append_35 rfl qic_1 ?_
      refine mK_iadd dX3_append_36 rfl ?_
      refine ru_putI (k := 1) (ci := 2) dX3_append_37 rfl rfl rfl kw_129 ?_
      exact mK_vret dX3_append_40 rfl (by rw [(show (g_X3_append_3 σ a1) = (mPI (mPI σ 4 (σ.1 3 1).toNatClampNeg (vp_nar .byte (Int32.toInt8 a1).toInt32)) 3 1 ((σ.1 3 1) + 1)) from by unfold g_X3_append_3; exact ((if_neg c1).trans ((if_neg c2).trans rfl)))] at hQ; exact hQ)
def g_X3_appendFour_1 (σ : mS) (a1 : Int32) : mS := (g_X3_append_1 (g_X3_append_1 (g_X3_append_1 (g_X3_append_1 σ (a1 >>> (24 &&& 31))) (a1 >>> (16 &&& 31))) (a1 >>> (8 &&& 31))) a1)
set_option maxRecDepth 20000 in
theorem S_X3_appendFour_1 {Γ : Nat × (Nat → Int32)} {d : Nat} {Q : mQ} {σ : mS} (a1 : Int32) (hQ : Q (.inl none) 60 mSH (g_X3_appendFour_1 σ a1)) : mCall Γ M_X3_appendFour (d + 2) 0 0 [.ref 1, .int a1] 60 mSH σ Q := by
  refine mCall_of rfl (by decide) (Nat.le_of_ble_eq_true rfl) (mOkC (mOk_lo (Nat.le_of_ble_eq_true rfl)) (mOkC mOk_i mOkN)) ?_
  show mK Γ M_X3_appendFour (d + 2) Q 60 0 0 0 [(0, .ref 1), (1, .int a1)] [] 60 mSH σ
  refine mK_aload_n dX3_appendFour_0 rfl rfl (.head _) ?_
  refine mK_iload_n dX3_appendFour_1 rfl rfl (.tail _ (.head _)) ?_
  refine mK_bipush dX3_appendFour_2 rfl qbi_24 ?_
  refine mK_ishr dX3_appendFour_4 rfl ?_
  refine mK_invV (J := M_X3_append) (k := 1) (as := [.int (a1 >>> (24 &&& 31))]) (st := []) (c1 := 0) (s1 := 0) dX3_appendFour_5 rfl jw_X3_append jn_X3_append rfl (Nat.le_of_ble_eq_true rfl) (Nat.zero_le _) (Nat.zero_le _) rfl kw_731 kw_732 kw_733 (b := 1) (Nat.le_of_ble_eq_true rfl) (Nat.le_of_ble_eq_true rfl) rfl ?_
  refine S_X3_append_1 (a1 >>> (24 &&& 31)) ?_
  show mK Γ M_X3_appendFour (d + 2) Q 60 0 0 8 [(0, .ref 1), (1, .int a1)] [] 60 mSH (g_X3_append_1 σ (a1 >>> (24 &&& 31)))
  refine mK_aload_n dX3_appendFour_8 rfl rfl (.head _) ?_
  refine mK_iload_n dX3_appendFour_9 rfl rfl (.tail _ (.head _)) ?_
  refine mK_bipush dX3_appendFour_10 rfl qbi_16 ?_
  refine mK_ishr dX3_appendFour_12 rfl ?_
  refine mK_invV (J := M_X3_append) (k := 1) (as := [.int (a1 >>> (16 &&& 31))]) (st := []) (c1 := 0) (s1 := 0) dX3_appendFour_13 rfl jw_X3_append jn_X3_append rfl (Nat.le_of_ble_eq_true rfl) (Nat.zero_le _) (Nat.zero_le _) rfl kw_731 kw_732 kw_733 (b := 1) (Nat.le_of_ble_eq_true rfl) (Nat.le_of_ble_eq_true rfl) rfl ?_
  refine S_X3_append_1 (a1 >>> (16 &&& 31)) ?_
  show mK Γ M_X3_appendFour (d + 2) Q 60 0 0 16 [(0, .ref 1), (1, .int a1)] [] 60 mSH (g_X3_append_1 (g_X3_append_1 σ (a1 >>> (24 &&& 31))) (a1 >>> (16 &&& 31)))
  refine mK_aload_n dX3_appendFour_16 rfl rfl (.head _) ?_
  refine mK_iload_n dX3_appendFour_17 rfl rfl (.tail _ (.head _)) ?_
  refine mK_bipush dX3_appendFour_18 rfl qbi_8 ?_
  refine mK_ishr dX3_appendFour_20 rfl ?_
  refine mK_invV (J := M_X3_append) (k := 1) (as := [.int (a1 >>> (8 &&& 31))]) (st := []) (c1 := 0) (s1 := 0) dX3_appendFour_21 rfl jw_X3_append jn_X3_append rfl (Nat.le_of_ble_eq_true rfl) (Nat.zero_le _) (Nat.zero_le _) rfl kw_731 kw_732 kw_733 (b := 1) (Nat.le_of_ble_eq_true rfl) (Nat.le_of_ble_eq_true rfl) rfl ?_
  refine S_X3_append_1 (a1 >>> (8 &&& 31)) ?_
  show mK Γ M_X3_appendFour (d + 2) Q 60 0 0 24 [(0, .ref 1), (1, .int a1)] [] 60 mSH (g_X3_append_1 (g_X3_append_1 (g_X3_append_1 σ (a1 >>> (24 &&& 31))) (a1 >>> (16 &&& 31))) (a1 >>> (8 &&& 31)))
  refine mK_aload_n dX3_appendFour_24 rfl rfl (.head _) ?_
  refine mK_iload_n dX3_appendFour_25 rfl rfl (.tail _ (.head _)) ?_
  refine mK_invV (J := M_X3_append) (k := 1) (as := [.int a1]) (st := []) (c1 := 0) (s1 := 0) dX3_appendFour_26 rfl jw_X3_append jn_X3_append rfl (Nat.le_of_ble_eq_true rfl) (Nat.zero_le _) (Nat.zero_le _) rfl kw_731 kw_732 kw_733 (b := 1) (Nat.le_of_ble_eq_true rfl) (Nat.le_of_ble_eq_true rfl) rfl ?_
  refine S_X3_append_1 a1 ?_
  show mK Γ M_X3_appendFour (d + 2) Q 60 0 0 29 [(0, .ref 1), (1, .int a1)] [] 60 mSH (g_X3_append_1 (g_X3_append_1 (g_X3_append_1 (g_X3_append_1 σ (a1 >>> (24 &&& 31))) (a1 >>> (16 &&& 31))) (a1 >>> (8 &&& 31))) a1)
  exact mK_vret dX3_appendFour_29 rfl (by rw [(show (g_X3_appendFour_1 σ a1) = (g_X3_append_1 (g_X3_append_1 (g_X3_append_1 (g_X3_append_1 σ (a1 >>> (24 &&& 31))) (a1 >>> (16 &&& 31))) (a1 >>> (8 &&& 31))) a1) from rfl)] at hQ; exact hQ)
def f_X3_at_1 (σ : mS) (a1 : Int32) : Int32 := if a1 < 0 then 0 else (if (σ.1 1 1) ≤ a1 then 0 else (if 2000 ≤ a1 then 0 else ((σ.1 2 (a1).toNatClampNeg) &&& 255)))
set_option maxRecDepth 20000 in
theorem S_X3_at_1 {Γ : Nat × (Nat → Int32)} {d : Nat} {Q : mQ} {σ : mS} (a1 : Int32) (hQ : Q (.inl (some (.int (f_X3_at_1 σ a1)))) 60 mSH σ) : mCall Γ M_X3_at (d + 1) 0 0 [.ref 1, .int a1] 60 mSH σ Q := by
  refine mCall_of rfl (by decide) (Nat.le_of_ble_eq_true rfl) (mOkC (mOk_lo (Nat.le_of_ble_eq_true rfl)) (mOkC mOk_i mOkN)) ?_
  show mK Γ M_X3_at (d + 1) Q 60 0 0 0 [(0, .ref 1), (1, .int a1)] [] 60 mSH σ
  refine mK_iload_n dX3_at_0 rfl rfl (.tail _ (.head _)) ?_
  refine mK_if_lt (tgt := 34) dX3_at_1 rfl (by decide) (fun c1 => ?_) (fun c1 => ?_)
  · refine mK_iconst dX3_at_34 rfl qic_0 ?_
    exact mK_iret dX3_at_35 rfl (by rw [(show (f_X3_at_1 σ a1) = 0 from by unfold f_X3_at_1; exact ((if_pos c1).trans rfl))] at hQ; exact hQ)
  · refine mK_iload_n dX3_at_4 rfl rfl (.tail _ (.head _)) ?_
    refine mK_aload_n dX3_at_5 rfl rfl (.head _) ?_
    refine ru_getI (k := 1) (ci := 2) dX3_at_6 rfl rfl kw_129 ?_
    refine mK_icmp_ge (tgt := 34) dX3_at_9 rfl (by decide) (fun c2 => ?_) (fun c2 => ?_)
    · refine mK_iconst dX3_at_34 rfl qic_0 ?_
      exact mK_iret dX3_at_35 rfl (by rw [(show (f_X3_at_1 σ a1) = 0 from by unfold f_X3_at_1; exact ((if_neg c1).trans ((if_pos c2).trans rfl)))] at hQ; exact hQ)
    · refine mK_iload_n dX3_at_12 rfl rfl (.tail _ (.head _)) ?_
      refine mK_aload_n dX3_at_13 rfl rfl (.head _) ?_
      refine ru_getR (k := 0) (ci := 2) (a := 2) dX3_at_14 rfl rfl rfl kw_128 ?_
      refine ru_alen (n := 2000) (t := 1) dX3_at_17 rfl rfl ?_
      refine mK_icmp_ge (tgt := 34) dX3_at_18 rfl (by decide) (fun c3 => ?_) (fun c3 => ?_)
      · refine mK_iconst dX3_at_34 rfl qic_0 ?_
        exact mK_iret dX3_at_35 rfl (by rw [(show (f_X3_at_1 σ a1) = 0 from by unfold f_X3_at_1; exact ((if_neg c1).trans ((if_neg c2).trans ((if_pos c3).trans rfl))))] at hQ; exact hQ)
      · refine mK_aload_n dX3_at_21 rfl rfl (.head _) ?_
        refine ru_getR (k := 0) (ci := 2) (a := 2) dX3_at_22 rfl rfl rfl kw_128 ?_
        refine mK_iload_n dX3_at_25 rfl rfl (.tail _ (.head _)) ?_
        refine ru_bald (n := 2000) dX3_at_26 rfl rfl (vin_of (Int32.not_lt.mp c1) (Int32.not_le.mp c3) (by decide)) ?_
        refine mK_sipush dX3_at_27 rfl qsi_255 ?_
        refine mK_iand dX3_at_30 rfl ?_
        refine mK_goto (tgt := 35) dX3_at_31 (by decide) ?_
        exact mK_iret dX3_at_35 rfl (by rw [(show (f_X3_at_1 σ a1) = ((σ.1 2 (a1).toNatClampNeg) &&& 255) from by unfold f_X3_at_1; exact ((if_neg c1).trans ((if_neg c2).trans ((if_neg c3).trans rfl))))] at hQ; exact hQ)
def f_X3_at_3 (σ : mS) (a1 : Int32) : Int32 := if a1 < 0 then 0 else (if (σ.1 3 1) ≤ a1 then 0 else (if 920 ≤ a1 then 0 else ((σ.1 4 (a1).toNatClampNeg) &&& 255)))
set_option maxRecDepth 20000 in
theorem S_X3_at_3 {Γ : Nat × (Nat → Int32)} {d : Nat} {Q : mQ} {σ : mS} (a1 : Int32) (hQ : Q (.inl (some (.int (f_X3_at_3 σ a1)))) 60 mSH σ) : mCall Γ M_X3_at (d + 1) 0 0 [.ref 3, .int a1] 60 mSH σ Q := by
  refine mCall_of rfl (by decide) (Nat.le_of_ble_eq_true rfl) (mOkC (mOk_lo (Nat.le_of_ble_eq_true rfl)) (mOkC mOk_i mOkN)) ?_
  show mK Γ M_X3_at (d + 1) Q 60 0 0 0 [(0, .ref 3), (1, .int a1)] [] 60 mSH σ
  refine mK_iload_n dX3_at_0 rfl rfl (.tail _ (.head _)) ?_
  refine mK_if_lt (tgt := 34) dX3_at_1 rfl (by decide) (fun c1 => ?_) (fun c1 => ?_)
  · refine mK_iconst dX3_at_34 rfl qic_0 ?_
    exact mK_iret dX3_at_35 rfl (by rw [(show (f_X3_at_3 σ a1) = 0 from by unfold f_X3_at_3; exact ((if_pos c1).trans rfl))] at hQ; exact hQ)
  · refine mK_iload_n dX3_at_4 rfl rfl (.tail _ (.head _)) ?_
    refine mK_aload_n dX3_at_5 rfl rfl (.head _) ?_
    refine ru_getI (k := 1) (ci := 2) dX3_at_6 rfl rfl kw_129 ?_
    refine mK_icmp_ge (tgt := 34) dX3_at_9 rfl (by decide) (fun c2 => ?_) (fun c2 => ?_)
    · refine mK_iconst dX3_at_34 rfl qic_0 ?_
      exact mK_iret dX3_at_35 rfl (by rw [(show (f_X3_at_3 σ a1) = 0 from by unfold f_X3_at_3; exact ((if_neg c1).trans ((if_pos c2).trans rfl)))] at hQ; exact hQ)
    · refine mK_iload_n dX3_at_12 rfl rfl (.tail _ (.head _)) ?_
      refine mK_aload_n dX3_at_13 rfl rfl (.head _) ?_
      refine ru_getR (k := 0) (ci := 2) (a := 4) dX3_at_14 rfl rfl rfl kw_128 ?_
      refine ru_alen (n := 920) (t := 1) dX3_at_17 rfl rfl ?_
      refine mK_icmp_ge (tgt := 34) dX3_at_18 rfl (by decide) (fun c3 => ?_) (fun c3 => ?_)
      · refine mK_iconst dX3_at_34 rfl qic_0 ?_
        exact mK_iret dX3_at_35 rfl (by rw [(show (f_X3_at_3 σ a1) = 0 from by unfold f_X3_at_3; exact ((if_neg c1).trans ((if_neg c2).trans ((if_pos c3).trans rfl))))] at hQ; exact hQ)
      · refine mK_aload_n dX3_at_21 rfl rfl (.head _) ?_
        refine ru_getR (k := 0) (ci := 2) (a := 4) dX3_at_22 rfl rfl rfl kw_128 ?_
        refine mK_iload_n dX3_at_25 rfl rfl (.tail _ (.head _)) ?_
        refine ru_bald (n := 920) dX3_at_26 rfl rfl (vin_of (Int32.not_lt.mp c1) (Int32.not_le.mp c3) (by decide)) ?_
        refine mK_sipush dX3_at_27 rfl qsi_255 ?_
        refine mK_iand dX3_at_30 rfl ?_
        refine mK_goto (tgt := 35) dX3_at_31 (by decide) ?_
        exact mK_iret dX3_at_35 rfl (by rw [(show (f_X3_at_3 σ a1) = ((σ.1 4 (a1).toNatClampNeg) &&& 255) from by unfold f_X3_at_3; exact ((if_neg c1).trans ((if_neg c2).trans ((if_neg c3).trans rfl))))] at hQ; exact hQ)
def f_X3_length_1 (σ : mS) : Int32 := (σ.1 1 1)
set_option maxRecDepth 20000 in
theorem S_X3_length_1 {Γ : Nat × (Nat → Int32)} {d : Nat} {Q : mQ} {σ : mS} (hQ : Q (.inl (some (.int (f_X3_length_1 σ)))) 60 mSH σ) : mCall Γ M_X3_length (d + 1) 0 0 [.ref 1] 60 mSH σ Q := by
  refine mCall_of rfl (by decide) (Nat.le_of_ble_eq_true rfl) (mOkC (mOk_lo (Nat.le_of_ble_eq_true rfl)) mOkN) ?_
  show mK Γ M_X3_length (d + 1) Q 60 0 0 0 [(0, .ref 1)] [] 60 mSH σ
  refine mK_aload_n dX3_length_0 rfl rfl (.head _) ?_
  refine ru_getI (k := 1) (ci := 2) dX3_length_1 rfl rfl kw_129 ?_
  exact mK_iret dX3_length_4 rfl (by rw [(show (f_X3_length_1 σ) = (σ.1 1 1) from rfl)] at hQ; exact hQ)
def f_X3_length_3 (σ : mS) : Int32 := (σ.1 3 1)
set_option maxRecDepth 20000 in
theorem S_X3_length_3 {Γ : Nat × (Nat → Int32)} {d : Nat} {Q : mQ} {σ : mS} (hQ : Q (.inl (some (.int (f_X3_length_3 σ)))) 60 mSH σ) : mCall Γ M_X3_length (d + 1) 0 0 [.ref 3] 60 mSH σ Q := by
  refine mCall_of rfl (by decide) (Nat.le_of_ble_eq_true rfl) (mOkC (mOk_lo (Nat.le_of_ble_eq_true rfl)) mOkN) ?_
  show mK Γ M_X3_length (d + 1) Q 60 0 0 0 [(0, .ref 3)] [] 60 mSH σ
  refine mK_aload_n dX3_length_0 rfl rfl (.head _) ?_
  refine ru_getI (k := 1) (ci := 2) dX3_length_1 rfl rfl kw_129 ?_
  exact mK_iret dX3_length_4 rfl (by rw [(show (f_X3_length_3 σ) = (σ.1 3 1) from rfl)] at hQ; exact hQ)
def g_X3_shortenTo_1 (σ : mS) (a1 : Int32) : mS := if a1 < 0 then σ else (if (σ.1 1 1) < a1 then σ else (mPI σ 1 1 a1))
set_option maxRecDepth 20000 in
theorem S_X3_shortenTo_1 {Γ : Nat × (Nat → Int32)} {d : Nat} {Q : mQ} {σ : mS} (a1 : Int32) (hQ : Q (.inl none) 60 mSH (g_X3_shortenTo_1 σ a1)) : mCall Γ M_X3_shortenTo (d + 1) 0 0 [.ref 1, .int a1] 60 mSH σ Q := by
  refine mCall_of rfl (by decide) (Nat.le_of_ble_eq_true rfl) (mOkC (mOk_lo (Nat.le_of_ble_eq_true rfl)) (mOkC mOk_i mOkN)) ?_
  show mK Γ M_X3_shortenTo (d + 1) Q 60 0 0 0 [(0, .ref 1), (1, .int a1)] [] 60 mSH σ
  refine mK_iload_n dX3_shortenTo_0 rfl rfl (.tail _ (.head _)) ?_
  refine mK_if_lt (tgt := 17) dX3_shortenTo_1 rfl (by decide) (fun c1 => ?_) (fun c1 => ?_)
  · exact mK_vret dX3_shortenTo_17 rfl (by rw [(show (g_X3_shortenTo_1 σ a1) = σ from by unfold g_X3_shortenTo_1; exact ((if_pos c1).trans rfl))] at hQ; exact hQ)
  · refine mK_iload_n dX3_shortenTo_4 rfl rfl (.tail _ (.head _)) ?_
    refine mK_aload_n dX3_shortenTo_5 rfl rfl (.head _) ?_
    refine ru_getI (k := 1) (ci := 2) dX3_shortenTo_6 rfl rfl kw_129 ?_
    refine mK_icmp_gt (tgt := 17) dX3_shortenTo_9 rfl (by decide) (fun c2 => ?_) (fun c2 => ?_)
    · exact mK_vret dX3_shortenTo_17 rfl (by rw [(show (g_X3_shortenTo_1 σ a1) = σ from by unfold g_X3_shortenTo_1; exact ((if_neg c1).trans ((if_pos c2).trans rfl)))] at hQ; exact hQ)
    · refine mK_aload_n dX3_shortenTo_12 rfl rfl (.head _) ?_
      refine mK_iload_n dX3_shortenTo_13 rfl rfl (.tail _ (.head _)) ?_
      refine ru_putI (k := 1) (ci := 2) dX3_shortenTo_14 rfl rfl rfl kw_129 ?_
      exact mK_vret dX3_shortenTo_17 rfl (by rw [(show (g_X3_shortenTo_1 σ a1) = (mPI σ 1 1 a1) from by unfold g_X3_shortenTo_1; exact ((if_neg c1).trans ((if_neg c2).trans rfl)))] at hQ; exact hQ)
def g_X3_shortenTo_3 (σ : mS) (a1 : Int32) : mS := if a1 < 0 then σ else (if (σ.1 3 1) < a1 then σ else (mPI σ 3 1 a1))
set_option maxRecDepth 20000 in
theorem S_X3_shortenTo_3 {Γ : Nat × (Nat → Int32)} {d : Nat} {Q : mQ} {σ : mS} (a1 : Int32) (hQ : Q (.inl none) 60 mSH (g_X3_shortenTo_3 σ a1)) : mCall Γ M_X3_shortenTo (d + 1) 0 0 [.ref 3, .int a1] 60 mSH σ Q := by
  refine mCall_of rfl (by decide) (Nat.le_of_ble_eq_true rfl) (mOkC (mOk_lo (Nat.le_of_ble_eq_true rfl)) (mOkC mOk_i mOkN)) ?_
  show mK Γ M_X3_shortenTo (d + 1) Q 60 0 0 0 [(0, .ref 3), (1, .int a1)] [] 60 mSH σ
  refine mK_iload_n dX3_shortenTo_0 rfl rfl (.tail _ (.head _)) ?_
  refine mK_if_lt (tgt := 17) dX3_shortenTo_1 rfl (by decide) (fun c1 => ?_) (fun c1 => ?_)
  · exact mK_vret dX3_shortenTo_17 rfl (by rw [(show (g_X3_shortenTo_3 σ a1) = σ from by unfold g_X3_shortenTo_3; exact ((if_pos c1).trans rfl))] at hQ; exact hQ)
  · refine mK_iload_n dX3_shortenTo_4 rfl rfl (.tail _ (.head _)) ?_
    refine mK_aload_n dX3_shortenTo_5 rfl rfl (.head _) ?_
    refine ru_getI (k := 1) (ci := 2) dX3_shortenTo_6 rfl rfl kw_129 ?_
    refine mK_icmp_gt (tgt := 17) dX3_shortenTo_9 rfl (by decide) (fun c2 => ?_) (fun c2 => ?_)
    · exact mK_vret dX3_shortenTo_17 rfl (by rw [(show (g_X3_shortenTo_3 σ a1) = σ from by unfold g_X3_shortenTo_3; exact ((if_neg c1).trans ((if_pos c2).trans rfl)))] at hQ; exact hQ)
    · refine mK_aload_n dX3_shortenTo_12 rfl rfl (.head _) ?_
      refine mK_iload_n dX3_shortenTo_13 rfl rfl (.tail _ (.head _)) ?_
      refine ru_putI (k := 1) (ci := 2) dX3_shortenTo_14 rfl rfl rfl kw_129 ?_
      exact mK_vret dX3_shortenTo_17 rfl (by rw [(show (g_X3_shortenTo_3 σ a1) = (mPI σ 3 1 a1) from by unfold g_X3_shortenTo_3; exact ((if_neg c1).trans ((if_neg c2).trans rfl)))] at hQ; exact hQ)
def f_X4_isIn_16 (σ : mS) (a1 : Int32) : Int32 := if (((σ.2.1 16 3) >>> (Int32.toInt64 a1 &&& 63)) &&& 1) = 0 then 0 else 1
set_option maxRecDepth 20000 in
theorem S_X4_isIn_16 {Γ : Nat × (Nat → Int32)} {d : Nat} {Q : mQ} {σ : mS} (a1 : Int32) (hQ : Q (.inl (some (.int (f_X4_isIn_16 σ a1)))) 60 mSH σ) : mCall Γ M_X4_isIn (d + 1) 0 0 [.ref 16, .int a1] 60 mSH σ Q := by
  refine mCall_of rfl (by decide) (Nat.le_of_ble_eq_true rfl) (mOkC (mOk_lo (Nat.le_of_ble_eq_true rfl)) (mOkC mOk_i mOkN)) ?_
  show mK Γ M_X4_isIn (d + 1) Q 60 0 0 0 [(0, .ref 16), (1, .int a1)] [] 60 mSH σ
  refine mK_aload_n dX4_isIn_0 rfl rfl (.head _) ?_
  refine ru_getL (k := 3) (ci := 3) dX4_isIn_1 rfl rfl kw_203 ?_
  refine mK_iload_n dX4_isIn_4 rfl rfl (.tail _ (.head _)) ?_
  refine mK_lshr dX4_isIn_5 rfl ?_
  refine mK_lconst dX4_isIn_6 rfl (v := 1) rfl ?_
  refine mK_land dX4_isIn_7 rfl ?_
  refine mK_lconst dX4_isIn_8 rfl (v := 0) rfl ?_
  refine ru_lif_eq (tgt := 17) dX4_isIn_9 rfl dX4_isIn_10 rfl (by decide) (fun c1 => ?_) (fun c1 => ?_)
  · refine mK_iconst dX4_isIn_17 rfl qic_0 ?_
    exact mK_zret dX4_isIn_18 rfl (by decide) (by rw [(show (f_X4_isIn_16 σ a1) = 0 from by unfold f_X4_isIn_16; exact ((if_pos c1).trans rfl))] at hQ; exact hQ)
  · refine mK_iconst dX4_isIn_13 rfl qic_1 ?_
    refine mK_goto (tgt := 18) dX4_isIn_14 (by decide) ?_
    exact mK_zret dX4_isIn_18 rfl (by decide) (by rw [(show (f_X4_isIn_16 σ a1) = 1 from by unfold f_X4_isIn_16; exact ((if_neg c1).trans rfl))] at hQ; exact hQ)
def f_X4_isOut_16 (σ : mS) (a1 : Int32) : Int32 := if (((σ.2.1 16 4) >>> (Int32.toInt64 a1 &&& 63)) &&& 1) = 0 then 0 else 1
set_option maxRecDepth 20000 in
theorem S_X4_isOut_16 {Γ : Nat × (Nat → Int32)} {d : Nat} {Q : mQ} {σ : mS} (a1 : Int32) (hQ : Q (.inl (some (.int (f_X4_isOut_16 σ a1)))) 60 mSH σ) : mCall Γ M_X4_isOut (d + 1) 0 0 [.ref 16, .int a1] 60 mSH σ Q := by
  refine mCall_of rfl (by decide) (Nat.le_of_ble_eq_true rfl) (mOkC (mOk_lo (Nat.le_of_ble_eq_true rfl)) (mOkC mOk_i mOkN)) ?_
  show mK Γ M_X4_isOut (d + 1) Q 60 0 0 0 [(0, .ref 16), (1, .int a1)] [] 60 mSH σ
  refine mK_aload_n dX4_isOut_0 rfl rfl (.head _) ?_
  refine ru_getL (k := 4) (ci := 3) dX4_isOut_1 rfl rfl kw_204 ?_
  refine mK_iload_n dX4_isOut_4 rfl rfl (.tail _ (.head _)) ?_
  refine mK_lshr dX4_isOut_5 rfl ?_
  refine mK_lconst dX4_isOut_6 rfl (v := 1) rfl ?_
  refine mK_land dX4_isOut_7 rfl ?_
  refine mK_lconst dX4_isOut_8 rfl (v := 0) rfl ?_
  refine ru_lif_eq (tgt := 17) dX4_isOut_9 rfl dX4_isOut_10 rfl (by decide) (fun c1 => ?_) (fun c1 => ?_)
  · refine mK_iconst dX4_isOut_17 rfl qic_0 ?_
    exact mK_zret dX4_isOut_18 rfl (by decide) (by rw [(show (f_X4_isOut_16 σ a1) = 0 from by unfold f_X4_isOut_16; exact ((if_pos c1).trans rfl))] at hQ; exact hQ)
  · refine mK_iconst dX4_isOut_13 rfl qic_1 ?_
    refine mK_goto (tgt := 18) dX4_isOut_14 (by decide) ?_
    exact mK_zret dX4_isOut_18 rfl (by decide) (by rw [(show (f_X4_isOut_16 σ a1) = 1 from by unfold f_X4_isOut_16; exact ((if_neg c1).trans rfl))] at hQ; exact hQ)
def f_X4_itemsOpen_16 (σ : mS) : Int64 := ((f_X0_allItems_5 σ) &&& (((σ.2.1 16 3) ||| (σ.2.1 16 4)) ^^^ (-1)))
set_option maxRecDepth 20000 in
theorem S_X4_itemsOpen_16 {Γ : Nat × (Nat → Int32)} {d : Nat} {Q : mQ} {σ : mS} (hQ : Q (.inl (some (.long (f_X4_itemsOpen_16 σ)))) 60 mSH σ) : mCall Γ M_X4_itemsOpen (d + 3) 0 0 [.ref 16] 60 mSH σ Q := by
  refine mCall_of rfl (by decide) (Nat.le_of_ble_eq_true rfl) (mOkC (mOk_lo (Nat.le_of_ble_eq_true rfl)) mOkN) ?_
  show mK Γ M_X4_itemsOpen (d + 3) Q 60 0 0 0 [(0, .ref 16)] [] 60 mSH σ
  refine mK_aload_n dX4_itemsOpen_0 rfl rfl (.head _) ?_
  refine ru_getR (k := 0) (ci := 3) (a := 5) dX4_itemsOpen_1 rfl rfl rfl kw_200 ?_
  refine mK_invV (J := M_X0_allItems) (k := 0) (as := []) (st := []) (c1 := 0) (s1 := 0) dX4_itemsOpen_4 rfl jw_X0_allItems jn_X0_allItems rfl (Nat.le_of_ble_eq_true rfl) (Nat.zero_le _) (Nat.zero_le _) rfl kw_630 kw_631 kw_632 (b := 5) (Nat.le_of_ble_eq_true rfl) (Nat.le_of_ble_eq_true rfl) rfl ?_
  refine S_X0_allItems_5  ?_
  show mK Γ M_X4_itemsOpen (d + 3) Q 60 0 0 7 [(0, .ref 16)] [.long (f_X0_allItems_5 σ)] 60 mSH σ
  refine mK_aload_n dX4_itemsOpen_7 rfl rfl (.head _) ?_
  refine ru_getL (k := 3) (ci := 3) dX4_itemsOpen_8 rfl rfl kw_203 ?_
  refine mK_aload_n dX4_itemsOpen_11 rfl rfl (.head _) ?_
  refine ru_getL (k := 4) (ci := 3) dX4_itemsOpen_12 rfl rfl kw_204 ?_
  refine mK_lor dX4_itemsOpen_15 rfl ?_
  refine mK_ldc2 dX4_itemsOpen_16 rfl kw_635 ?_
  refine mK_lxor dX4_itemsOpen_19 rfl ?_
  refine mK_land dX4_itemsOpen_20 rfl ?_
  exact mK_lret dX4_itemsOpen_21 rfl (by rw [(show (f_X4_itemsOpen_16 σ) = ((f_X0_allItems_5 σ) &&& (((σ.2.1 16 3) ||| (σ.2.1 16 4)) ^^^ (-1))) from rfl)] at hQ; exact hQ)
def f_X4_isIn_18 (σ : mS) (a1 : Int32) : Int32 := if (((σ.2.1 18 3) >>> (Int32.toInt64 a1 &&& 63)) &&& 1) = 0 then 0 else 1
set_option maxRecDepth 20000 in
theorem S_X4_isIn_18 {Γ : Nat × (Nat → Int32)} {d : Nat} {Q : mQ} {σ : mS} (a1 : Int32) (hQ : Q (.inl (some (.int (f_X4_isIn_18 σ a1)))) 60 mSH σ) : mCall Γ M_X4_isIn (d + 1) 0 0 [.ref 18, .int a1] 60 mSH σ Q := by
  refine mCall_of rfl (by decide) (Nat.le_of_ble_eq_true rfl) (mOkC (mOk_lo (Nat.le_of_ble_eq_true rfl)) (mOkC mOk_i mOkN)) ?_
  show mK Γ M_X4_isIn (d + 1) Q 60 0 0 0 [(0, .ref 18), (1, .int a1)] [] 60 mSH σ
  refine mK_aload_n dX4_isIn_0 rfl rfl (.head _) ?_
  refine ru_getL (k := 3) (ci := 3) dX4_isIn_1 rfl rfl kw_203 ?_
  refine mK_iload_n dX4_isIn_4 rfl rfl (.tail _ (.head _)) ?_
  refine mK_lshr dX4_isIn_5 rfl ?_
  refine mK_lconst dX4_isIn_6 rfl (v := 1) rfl ?_
  refine mK_land dX4_isIn_7 rfl ?_
  refine mK_lconst dX4_isIn_8 rfl (v := 0) rfl ?_
  refine ru_lif_eq (tgt := 17) dX4_isIn_9 rfl dX4_isIn_10 rfl (by decide) (fun c1 => ?_) (fun c1 => ?_)
  · refine mK_iconst dX4_isIn_17 rfl qic_0 ?_
    exact mK_zret dX4_isIn_18 rfl (by decide) (by rw [(show (f_X4_isIn_18 σ a1) = 0 from by unfold f_X4_isIn_18; exact ((if_pos c1).trans rfl))] at hQ; exact hQ)
  · refine mK_iconst dX4_isIn_13 rfl qic_1 ?_
    refine mK_goto (tgt := 18) dX4_isIn_14 (by decide) ?_
    exact mK_zret dX4_isIn_18 rfl (by decide) (by rw [(show (f_X4_isIn_18 σ a1) = 1 from by unfold f_X4_isIn_18; exact ((if_neg c1).trans rfl))] at hQ; exact hQ)
def f_X4_isOut_18 (σ : mS) (a1 : Int32) : Int32 := if (((σ.2.1 18 4) >>> (Int32.toInt64 a1 &&& 63)) &&& 1) = 0 then 0 else 1
set_option maxRecDepth 20000 in
theorem S_X4_isOut_18 {Γ : Nat × (Nat → Int32)} {d : Nat} {Q : mQ} {σ : mS} (a1 : Int32) (hQ : Q (.inl (some (.int (f_X4_isOut_18 σ a1)))) 60 mSH σ) : mCall Γ M_X4_isOut (d + 1) 0 0 [.ref 18, .int a1] 60 mSH σ Q := by
  refine mCall_of rfl (by decide) (Nat.le_of_ble_eq_true rfl) (mOkC (mOk_lo (Nat.le_of_ble_eq_true rfl)) (mOkC mOk_i mOkN)) ?_
  show mK Γ M_X4_isOut (d + 1) Q 60 0 0 0 [(0, .ref 18), (1, .int a1)] [] 60 mSH σ
  refine mK_aload_n dX4_isOut_0 rfl rfl (.head _) ?_
  refine ru_getL (k := 4) (ci := 3) dX4_isOut_1 rfl rfl kw_204 ?_
  refine mK_iload_n dX4_isOut_4 rfl rfl (.tail _ (.head _)) ?_
  refine mK_lshr dX4_isOut_5 rfl ?_
  refine mK_lconst dX4_isOut_6 rfl (v := 1) rfl ?_
  refine mK_land dX4_isOut_7 rfl ?_
  refine mK_lconst dX4_isOut_8 rfl (v := 0) rfl ?_
  refine ru_lif_eq (tgt := 17) dX4_isOut_9 rfl dX4_isOut_10 rfl (by decide) (fun c1 => ?_) (fun c1 => ?_)
  · refine mK_iconst dX4_isOut_17 rfl qic_0 ?_
    exact mK_zret dX4_isOut_18 rfl (by decide) (by rw [(show (f_X4_isOut_18 σ a1) = 0 from by unfold f_X4_isOut_18; exact ((if_pos c1).trans rfl))] at hQ; exact hQ)
  · refine mK_iconst dX4_isOut_13 rfl qic_1 ?_
    refine mK_goto (tgt := 18) dX4_isOut_14 (by decide) ?_
    exact mK_zret dX4_isOut_18 rfl (by decide) (by rw [(show (f_X4_isOut_18 σ a1) = 1 from by unfold f_X4_isOut_18; exact ((if_neg c1).trans rfl))] at hQ; exact hQ)
def f_X4_itemsOpen_18 (σ : mS) : Int64 := ((f_X0_allItems_5 σ) &&& (((σ.2.1 18 3) ||| (σ.2.1 18 4)) ^^^ (-1)))
set_option maxRecDepth 20000 in
theorem S_X4_itemsOpen_18 {Γ : Nat × (Nat → Int32)} {d : Nat} {Q : mQ} {σ : mS} (hQ : Q (.inl (some (.long (f_X4_itemsOpen_18 σ)))) 60 mSH σ) : mCall Γ M_X4_itemsOpen (d + 3) 0 0 [.ref 18] 60 mSH σ Q := by
  refine mCall_of rfl (by decide) (Nat.le_of_ble_eq_true rfl) (mOkC (mOk_lo (Nat.le_of_ble_eq_true rfl)) mOkN) ?_
  show mK Γ M_X4_itemsOpen (d + 3) Q 60 0 0 0 [(0, .ref 18)] [] 60 mSH σ
  refine mK_aload_n dX4_itemsOpen_0 rfl rfl (.head _) ?_
  refine ru_getR (k := 0) (ci := 3) (a := 5) dX4_itemsOpen_1 rfl rfl rfl kw_200 ?_
  refine mK_invV (J := M_X0_allItems) (k := 0) (as := []) (st := []) (c1 := 0) (s1 := 0) dX4_itemsOpen_4 rfl jw_X0_allItems jn_X0_allItems rfl (Nat.le_of_ble_eq_true rfl) (Nat.zero_le _) (Nat.zero_le _) rfl kw_630 kw_631 kw_632 (b := 5) (Nat.le_of_ble_eq_true rfl) (Nat.le_of_ble_eq_true rfl) rfl ?_
  refine S_X0_allItems_5  ?_
  show mK Γ M_X4_itemsOpen (d + 3) Q 60 0 0 7 [(0, .ref 18)] [.long (f_X0_allItems_5 σ)] 60 mSH σ
  refine mK_aload_n dX4_itemsOpen_7 rfl rfl (.head _) ?_
  refine ru_getL (k := 3) (ci := 3) dX4_itemsOpen_8 rfl rfl kw_203 ?_
  refine mK_aload_n dX4_itemsOpen_11 rfl rfl (.head _) ?_
  refine ru_getL (k := 4) (ci := 3) dX4_itemsOpen_12 rfl rfl kw_204 ?_
  refine mK_lor dX4_itemsOpen_15 rfl ?_
  refine mK_ldc2 dX4_itemsOpen_16 rfl kw_635 ?_
  refine mK_lxor dX4_itemsOpen_19 rfl ?_
  refine mK_land dX4_itemsOpen_20 rfl ?_
  exact mK_lret dX4_itemsOpen_21 rfl (by rw [(show (f_X4_itemsOpen_18 σ) = ((f_X0_allItems_5 σ) &&& (((σ.2.1 18 3) ||| (σ.2.1 18 4)) ^^^ (-1))) from rfl)] at hQ; exact hQ)
def f_X4_helpOf_16 (σ : mS) (a1 : Int32) : Int32 := if (f_X0_kindOf_5 σ a1) = 2 then (if (f_X4_isIn_16 σ a1) = 0 then 0 else (if (f_X0_kindOf_5 σ (f_X0_targetOf_5 σ a1)) = 0 then (if (f_X4_isIn_16 σ (f_X0_targetOf_5 σ a1)) = 0 then 0 else (f_X0_strengthOf_5 σ a1)) else 0)) else 0
set_option maxRecDepth 20000 in
theorem S_X4_helpOf_16 {Γ : Nat × (Nat → Int32)} {d : Nat} {Q : mQ} {σ : mS} (a1 : Int32) (hQ : Q (.inl (some (.int (f_X4_helpOf_16 σ a1)))) 60 mSH σ) : mCall Γ M_X4_helpOf (d + 3) 0 0 [.ref 16, .int a1] 60 mSH σ Q := by
  refine mCall_of rfl (by decide) (Nat.le_of_ble_eq_true rfl) (mOkC (mOk_lo (Nat.le_of_ble_eq_true rfl)) (mOkC mOk_i mOkN)) ?_
  show mK Γ M_X4_helpOf (d + 3) Q 60 0 0 0 [(0, .ref 16), (1, .int a1)] [] 60 mSH σ
  refine mK_aload_n dX4_helpOf_0 rfl rfl (.head _) ?_
  refine ru_getR (k := 0) (ci := 3) (a := 5) dX4_helpOf_1 rfl rfl rfl kw_200 ?_
  refine mK_iload_n dX4_helpOf_4 rfl rfl (.tail _ (.head _)) ?_
  refine mK_invV (J := M_X0_targetOf) (k := 1) (as := [.int a1]) (st := []) (c1 := 0) (s1 := 0) dX4_helpOf_5 rfl jw_X0_targetOf jn_X0_targetOf rfl (Nat.le_of_ble_eq_true rfl) (Nat.zero_le _) (Nat.zero_le _) rfl kw_607 kw_608 kw_609 (b := 5) (Nat.le_of_ble_eq_true rfl) (Nat.le_of_ble_eq_true rfl) rfl ?_
  refine S_X0_targetOf_5 a1 ?_
  show mK Γ M_X4_helpOf (d + 3) Q 60 0 0 8 [(0, .ref 16), (1, .int a1)] [.int (f_X0_targetOf_5 σ a1)] 60 mSH σ
  refine ru_istore_n (lv1 := [(0, .ref 16), (1, .int a1), (2, .int (f_X0_targetOf_5 σ a1))]) dX4_helpOf_8 rfl rfl (by decide) rfl ?_
  refine mK_aload_n dX4_helpOf_9 rfl rfl (.head _) ?_
  refine ru_getR (k := 0) (ci := 3) (a := 5) dX4_helpOf_10 rfl rfl rfl kw_200 ?_
  refine mK_iload_n dX4_helpOf_13 rfl rfl (.tail _ (.head _)) ?_
  refine mK_invV (J := M_X0_kindOf) (k := 1) (as := [.int a1]) (st := []) (c1 := 0) (s1 := 0) dX4_helpOf_14 rfl jw_X0_kindOf jn_X0_kindOf rfl (Nat.le_of_ble_eq_true rfl) (Nat.zero_le _) (Nat.zero_le _) rfl kw_712 kw_570 kw_571 (b := 5) (Nat.le_of_ble_eq_true rfl) (Nat.le_of_ble_eq_true rfl) rfl ?_
  refine S_X0_kindOf_5 a1 ?_
  show mK Γ M_X4_helpOf (d + 3) Q 60 0 0 17 [(0, .ref 16), (1, .int a1), (2, .int (f_X0_targetOf_5 σ a1))] [.int (f_X0_kindOf_5 σ a1)] 60 mSH σ
  refine mK_iconst dX4_helpOf_17 rfl qic_2 ?_
  refine ru_icmp_ne (tgt := 52) dX4_helpOf_18 rfl (by decide) (fun c1 => ?_) (fun c1 => ?_)
  · refine mK_iconst dX4_helpOf_52 rfl qic_0 ?_
    refine ru_istore_n (lv1 := [(0, .ref 16), (1, .int a1), (2, .int (f_X0_targetOf_5 σ a1)), (3, .int 0)]) dX4_helpOf_53 rfl rfl (by decide) rfl ?_
    refine mK_iload_n dX4_helpOf_54 rfl rfl (.tail _ (.tail _ (.tail _ (.head _)))) ?_
    refine mK_if_eq (tgt := 69) dX4_helpOf_55 rfl (by decide) (fun c2 => ?_) (fun c2 => ?_)
    · refine mK_iconst dX4_helpOf_69 rfl qic_0 ?_
      exact mK_iret dX4_helpOf_70 rfl (by rw [(show (f_X4_helpOf_16 σ a1) = 0 from by unfold f_X4_helpOf_16; exact ((if_neg c1).trans rfl))] at hQ; exact hQ)
    · exact absurd (by decide) c2
  · refine mK_aload_n dX4_helpOf_21 rfl rfl (.head _) ?_
    refine mK_iload_n dX4_helpOf_22 rfl rfl (.tail _ (.head _)) ?_
    refine mK_invV (J := M_X4_isIn) (k := 1) (as := [.int a1]) (st := []) (c1 := 0) (s1 := 0) dX4_helpOf_23 rfl jw_X4_isIn jn_X4_isIn rfl (Nat.le_of_ble_eq_true rfl) (Nat.zero_le _) (Nat.zero_le _) rfl kw_614 kw_615 kw_616 (b := 16) (Nat.le_of_ble_eq_true rfl) (Nat.le_of_ble_eq_true rfl) rfl ?_
    refine S_X4_isIn_16 a1 ?_
    show mK Γ M_X4_helpOf (d + 3) Q 60 0 0 26 [(0, .ref 16), (1, .int a1), (2, .int (f_X0_targetOf_5 σ a1))] [.int (f_X4_isIn_16 σ a1)] 60 mSH σ
    refine mK_if_eq (tgt := 52) dX4_helpOf_26 rfl (by decide) (fun c3 => ?_) (fun c3 => ?_)
    · refine mK_iconst dX4_helpOf_52 rfl qic_0 ?_
      refine ru_istore_n (lv1 := [(0, .ref 16), (1, .int a1), (2, .int (f_X0_targetOf_5 σ a1)), (3, .int 0)]) dX4_helpOf_53 rfl rfl (by decide) rfl ?_
      refine mK_iload_n dX4_helpOf_54 rfl rfl (.tail _ (.tail _ (.tail _ (.head _)))) ?_
      refine mK_if_eq (tgt := 69) dX4_helpOf_55 rfl (by decide) (fun c4 => ?_) (fun c4 => ?_)
      · refine mK_iconst dX4_helpOf_69 rfl qic_0 ?_
        exact mK_iret dX4_helpOf_70 rfl (by rw [(show (f_X4_helpOf_16 σ a1) = 0 from by unfold f_X4_helpOf_16; exact ((if_pos c1).trans ((if_pos c3).trans rfl)))] at hQ; exact hQ)
      · exact absurd (by decide) c4
    · refine mK_aload_n dX4_helpOf_29 rfl rfl (.head _) ?_
      refine ru_getR (k := 0) (ci := 3) (a := 5) dX4_helpOf_30 rfl rfl rfl kw_200 ?_
      refine mK_iload_n dX4_helpOf_33 rfl rfl (.tail _ (.tail _ (.head _))) ?_
      refine mK_invV (J := M_X0_kindOf) (k := 1) (as := [.int (f_X0_targetOf_5 σ a1)]) (st := []) (c1 := 0) (s1 := 0) dX4_helpOf_34 rfl jw_X0_kindOf jn_X0_kindOf rfl (Nat.le_of_ble_eq_true rfl) (Nat.zero_le _) (Nat.zero_le _) rfl kw_712 kw_570 kw_571 (b := 5) (Nat.le_of_ble_eq_true rfl) (Nat.le_of_ble_eq_true rfl) rfl ?_
      refine S_X0_kindOf_5 (f_X0_targetOf_5 σ a1) ?_
      show mK Γ M_X4_helpOf (d + 3) Q 60 0 0 37 [(0, .ref 16), (1, .int a1), (2, .int (f_X0_targetOf_5 σ a1))] [.int (f_X0_kindOf_5 σ (f_X0_targetOf_5 σ a1))] 60 mSH σ
      refine ru_if_ne (tgt := 52) dX4_helpOf_37 rfl (by decide) (fun c5 => ?_) (fun c5 => ?_)
      · refine mK_iconst dX4_helpOf_52 rfl qic_0 ?_
        refine ru_istore_n (lv1 := [(0, .ref 16), (1, .int a1), (2, .int (f_X0_targetOf_5 σ a1)), (3, .int 0)]) dX4_helpOf_53 rfl rfl (by decide) rfl ?_
        refine mK_iload_n dX4_helpOf_54 rfl rfl (.tail _ (.tail _ (.tail _ (.head _)))) ?_
        refine mK_if_eq (tgt := 69) dX4_helpOf_55 rfl (by decide) (fun c6 => ?_) (fun c6 => ?_)
        · refine mK_iconst dX4_helpOf_69 rfl qic_0 ?_
          exact mK_iret dX4_helpOf_70 rfl (by rw [(show (f_X4_helpOf_16 σ a1) = 0 from by unfold f_X4_helpOf_16; exact ((if_pos c1).trans ((if_neg c3).trans ((if_neg c5).trans rfl))))] at hQ; exact hQ)
        · exact absurd (by decide) c6
      · refine mK_aload_n dX4_helpOf_40 rfl rfl (.head _) ?_
        refine mK_iload_n dX4_helpOf_41 rfl rfl (.tail _ (.tail _ (.head _))) ?_
        refine mK_invV (J := M_X4_isIn) (k := 1) (as := [.int (f_X0_targetOf_5 σ a1)]) (st := []) (c1 := 0) (s1 := 0) dX4_helpOf_42 rfl jw_X4_isIn jn_X4_isIn rfl (Nat.le_of_ble_eq_true rfl) (Nat.zero_le _) (Nat.zero_le _) rfl kw_614 kw_615 kw_616 (b := 16) (Nat.le_of_ble_eq_true rfl) (Nat.le_of_ble_eq_true rfl) rfl ?_
        refine S_X4_isIn_16 (f_X0_targetOf_5 σ a1) ?_
        show mK Γ M_X4_helpOf (d + 3) Q 60 0 0 45 [(0, .ref 16), (1, .int a1), (2, .int (f_X0_targetOf_5 σ a1))] [.int (f_X4_isIn_16 σ (f_X0_targetOf_5 σ a1))] 60 mSH σ
        refine mK_if_eq (tgt := 52) dX4_helpOf_45 rfl (by decide) (fun c7 => ?_) (fun c7 => ?_)
        · refine mK_iconst dX4_helpOf_52 rfl qic_0 ?_
          refine ru_istore_n (lv1 := [(0, .ref 16), (1, .int a1), (2, .int (f_X0_targetOf_5 σ a1)), (3, .int 0)]) dX4_helpOf_53 rfl rfl (by decide) rfl ?_
          refine mK_iload_n dX4_helpOf_54 rfl rfl (.tail _ (.tail _ (.tail _ (.head _)))) ?_
          refine mK_if_eq (tgt := 69) dX4_helpOf_55 rfl (by decide) (fun c8 => ?_) (fun c8 => ?_)
          · refine mK_iconst dX4_helpOf_69 rfl qic_0 ?_
            exact mK_iret dX4_helpOf_70 rfl (by rw [(show (f_X4_helpOf_16 σ a1) = 0 from by unfold f_X4_helpOf_16; exact ((if_pos c1).trans ((if_neg c3).trans ((if_pos c5).trans ((if_pos c7).trans rfl)))))] at hQ; exact hQ)
          · exact absurd (by decide) c8
        · refine mK_iconst dX4_helpOf_48 rfl qic_1 ?_
          refine mK_goto (tgt := 53) dX4_helpOf_49 (by decide) ?_
          refine ru_istore_n (lv1 := [(0, .ref 16), (1, .int a1), (2, .int (f_X0_targetOf_5 σ a1)), (3, .int 1)]) dX4_helpOf_53 rfl rfl (by decide) rfl ?_
          refine mK_iload_n dX4_helpOf_54 rfl rfl (.tail _ (.tail _ (.tail _ (.head _)))) ?_
          refine mK_if_eq (tgt := 69) dX4_helpOf_55 rfl (by decide) (fun c9 => ?_) (fun c9 => ?_)
          · exact absurd c9 (by decide)
          · refine mK_aload_n dX4_helpOf_58 rfl rfl (.head _) ?_
            refine ru_getR (k := 0) (ci := 3) (a := 5) dX4_helpOf_59 rfl rfl rfl kw_200 ?_
            refine mK_iload_n dX4_helpOf_62 rfl rfl (.tail _ (.head _)) ?_
            refine mK_invV (J := M_X0_strengthOf) (k := 1) (as := [.int a1]) (st := []) (c1 := 0) (s1 := 0) dX4_helpOf_63 rfl jw_X0_strengthOf jn_X0_strengthOf rfl (Nat.le_of_ble_eq_true rfl) (Nat.zero_le _) (Nat.zero_le _) rfl kw_713 kw_562 kw_563 (b := 5) (Nat.le_of_ble_eq_true rfl) (Nat.le_of_ble_eq_true rfl) rfl ?_
            refine S_X0_strengthOf_5 a1 ?_
            show mK Γ M_X4_helpOf (d + 3) Q 60 0 0 66 [(0, .ref 16), (1, .int a1), (2, .int (f_X0_targetOf_5 σ a1)), (3, .int 1)] [.int (f_X0_strengthOf_5 σ a1)] 60 mSH σ
            refine mK_goto (tgt := 70) dX4_helpOf_66 (by decide) ?_
            exact mK_iret dX4_helpOf_70 rfl (by rw [(show (f_X4_helpOf_16 σ a1) = (f_X0_strengthOf_5 σ a1) from by unfold f_X4_helpOf_16; exact ((if_pos c1).trans ((if_neg c3).trans ((if_pos c5).trans ((if_neg c7).trans rfl)))))] at hQ; exact hQ)
def f_X4_helpOf_18 (σ : mS) (a1 : Int32) : Int32 := if (f_X0_kindOf_5 σ a1) = 2 then (if (f_X4_isIn_18 σ a1) = 0 then 0 else (if (f_X0_kindOf_5 σ (f_X0_targetOf_5 σ a1)) = 0 then (if (f_X4_isIn_18 σ (f_X0_targetOf_5 σ a1)) = 0 then 0 else (f_X0_strengthOf_5 σ a1)) else 0)) else 0
set_option maxRecDepth 20000 in
theorem S_X4_helpOf_18 {Γ : Nat × (Nat → Int32)} {d : Nat} {Q : mQ} {σ : mS} (a1 : Int32) (hQ : Q (.inl (some (.int (f_X4_helpOf_18 σ a1)))) 60 mSH σ) : mCall Γ M_X4_helpOf (d + 3) 0 0 [.ref 18, .int a1] 60 mSH σ Q := by
  refine mCall_of rfl (by decide) (Nat.le_of_ble_eq_true rfl) (mOkC (mOk_lo (Nat.le_of_ble_eq_true rfl)) (mOkC mOk_i mOkN)) ?_
  show mK Γ M_X4_helpOf (d + 3) Q 60 0 0 0 [(0, .ref 18), (1, .int a1)] [] 60 mSH σ
  refine mK_aload_n dX4_helpOf_0 rfl rfl (.head _) ?_
  refine ru_getR (k := 0) (ci := 3) (a := 5) dX4_helpOf_1 rfl rfl rfl kw_200 ?_
  refine mK_iload_n dX4_helpOf_4 rfl rfl (.tail _ (.head _)) ?_
  refine mK_invV (J := M_X0_targetOf) (k := 1) (as := [.int a1]) (st := []) (c1 := 0) (s1 := 0) dX4_helpOf_5 rfl jw_X0_targetOf jn_X0_targetOf rfl (Nat.le_of_ble_eq_true rfl) (Nat.zero_le _) (Nat.zero_le _) rfl kw_607 kw_608 kw_609 (b := 5) (Nat.le_of_ble_eq_true rfl) (Nat.le_of_ble_eq_true rfl) rfl ?_
  refine S_X0_targetOf_5 a1 ?_
  show mK Γ M_X4_helpOf (d + 3) Q 60 0 0 8 [(0, .ref 18), (1, .int a1)] [.int (f_X0_targetOf_5 σ a1)] 60 mSH σ
  refine ru_istore_n (lv1 := [(0, .ref 18), (1, .int a1), (2, .int (f_X0_targetOf_5 σ a1))]) dX4_helpOf_8 rfl rfl (by decide) rfl ?_
  refine mK_aload_n dX4_helpOf_9 rfl rfl (.head _) ?_
  refine ru_getR (k := 0) (ci := 3) (a := 5) dX4_helpOf_10 rfl rfl rfl kw_200 ?_
  refine mK_iload_n dX4_helpOf_13 rfl rfl (.tail _ (.head _)) ?_
  refine mK_invV (J := M_X0_kindOf) (k := 1) (as := [.int a1]) (st := []) (c1 := 0) (s1 := 0) dX4_helpOf_14 rfl jw_X0_kindOf jn_X0_kindOf rfl (Nat.le_of_ble_eq_true rfl) (Nat.zero_le _) (Nat.zero_le _) rfl kw_712 kw_570 kw_571 (b := 5) (Nat.le_of_ble_eq_true rfl) (Nat.le_of_ble_eq_true rfl) rfl ?_
  refine S_X0_kindOf_5 a1 ?_
  show mK Γ M_X4_helpOf (d + 3) Q 60 0 0 17 [(0, .ref 18), (1, .int a1), (2, .int (f_X0_targetOf_5 σ a1))] [.int (f_X0_kindOf_5 σ a1)] 60 mSH σ
  refine mK_iconst dX4_helpOf_17 rfl qic_2 ?_
  refine ru_icmp_ne (tgt := 52) dX4_helpOf_18 rfl (by decide) (fun c1 => ?_) (fun c1 => ?_)
  · refine mK_iconst dX4_helpOf_52 rfl qic_0 ?_
    refine ru_istore_n (lv1 := [(0, .ref 18), (1, .int a1), (2, .int (f_X0_targetOf_5 σ a1)), (3, .int 0)]) dX4_helpOf_53 rfl rfl (by decide) rfl ?_
    refine mK_iload_n dX4_helpOf_54 rfl rfl (.tail _ (.tail _ (.tail _ (.head _)))) ?_
    refine mK_if_eq (tgt := 69) dX4_helpOf_55 rfl (by decide) (fun c2 => ?_) (fun c2 => ?_)
    · refine mK_iconst dX4_helpOf_69 rfl qic_0 ?_
      exact mK_iret dX4_helpOf_70 rfl (by rw [(show (f_X4_helpOf_18 σ a1) = 0 from by unfold f_X4_helpOf_18; exact ((if_neg c1).trans rfl))] at hQ; exact hQ)
    · exact absurd (by decide) c2
  · refine mK_aload_n dX4_helpOf_21 rfl rfl (.head _) ?_
    refine mK_iload_n dX4_helpOf_22 rfl rfl (.tail _ (.head _)) ?_
    refine mK_invV (J := M_X4_isIn) (k := 1) (as := [.int a1]) (st := []) (c1 := 0) (s1 := 0) dX4_helpOf_23 rfl jw_X4_isIn jn_X4_isIn rfl (Nat.le_of_ble_eq_true rfl) (Nat.zero_le _) (Nat.zero_le _) rfl kw_614 kw_615 kw_616 (b := 18) (Nat.le_of_ble_eq_true rfl) (Nat.le_of_ble_eq_true rfl) rfl ?_
    refine S_X4_isIn_18 a1 ?_
    show mK Γ M_X4_helpOf (d + 3) Q 60 0 0 26 [(0, .ref 18), (1, .int a1), (2, .int (f_X0_targetOf_5 σ a1))] [.int (f_X4_isIn_18 σ a1)] 60 mSH σ
    refine mK_if_eq (tgt := 52) dX4_helpOf_26 rfl (by decide) (fun c3 => ?_) (fun c3 => ?_)
    · refine mK_iconst dX4_helpOf_52 rfl qic_0 ?_
      refine ru_istore_n (lv1 := [(0, .ref 18), (1, .int a1), (2, .int (f_X0_targetOf_5 σ a1)), (3, .int 0)]) dX4_helpOf_53 rfl rfl (by decide) rfl ?_
      refine mK_iload_n dX4_helpOf_54 rfl rfl (.tail _ (.tail _ (.tail _ (.head _)))) ?_
      refine mK_if_eq (tgt := 69) dX4_helpOf_55 rfl (by decide) (fun c4 => ?_) (fun c4 => ?_)
      · refine mK_iconst dX4_helpOf_69 rfl qic_0 ?_
        exact mK_iret dX4_helpOf_70 rfl (by rw [(show (f_X4_helpOf_18 σ a1) = 0 from by unfold f_X4_helpOf_18; exact ((if_pos c1).trans ((if_pos c3).trans rfl)))] at hQ; exact hQ)
      · exact absurd (by decide) c4
    · refine mK_aload_n dX4_helpOf_29 rfl rfl (.head _) ?_
      refine ru_getR (k := 0) (ci := 3) (a := 5) dX4_helpOf_30 rfl rfl rfl kw_200 ?_
      refine mK_iload_n dX4_helpOf_33 rfl rfl (.tail _ (.tail _ (.head _))) ?_
      refine mK_invV (J := M_X0_kindOf) (k := 1) (as := [.int (f_X0_targetOf_5 σ a1)]) (st := []) (c1 := 0) (s1 := 0) dX4_helpOf_34 rfl jw_X0_kindOf jn_X0_kindOf rfl (Nat.le_of_ble_eq_true rfl) (Nat.zero_le _) (Nat.zero_le _) rfl kw_712 kw_570 kw_571 (b := 5) (Nat.le_of_ble_eq_true rfl) (Nat.le_of_ble_eq_true rfl) rfl ?_
      refine S_X0_kindOf_5 (f_X0_targetOf_5 σ a1) ?_
      show mK Γ M_X4_helpOf (d + 3) Q 60 0 0 37 [(0, .ref 18), (1, .int a1), (2, .int (f_X0_targetOf_5 σ a1))] [.int (f_X0_kindOf_5 σ (f_X0_targetOf_5 σ a1))] 60 mSH σ
      refine ru_if_ne (tgt := 52) dX4_helpOf_37 rfl (by decide) (fun c5 => ?_) (fun c5 => ?_)
      · refine mK_iconst dX4_helpOf_52 rfl qic_0 ?_
        refine ru_istore_n (lv1 := [(0, .ref 18), (1, .int a1), (2, .int (f_X0_targetOf_5 σ a1)), (3, .int 0)]) dX4_helpOf_53 rfl rfl (by decide) rfl ?_
        refine mK_iload_n dX4_helpOf_54 rfl rfl (.tail _ (.tail _ (.tail _ (.head _)))) ?_
        refine mK_if_eq (tgt := 69) dX4_helpOf_55 rfl (by decide) (fun c6 => ?_) (fun c6 => ?_)
        · refine mK_iconst dX4_helpOf_69 rfl qic_0 ?_
          exact mK_iret dX4_helpOf_70 rfl (by rw [(show (f_X4_helpOf_18 σ a1) = 0 from by unfold f_X4_helpOf_18; exact ((if_pos c1).trans ((if_neg c3).trans ((if_neg c5).trans rfl))))] at hQ; exact hQ)
        · exact absurd (by decide) c6
      · refine mK_aload_n dX4_helpOf_40 rfl rfl (.head _) ?_
        refine mK_iload_n dX4_helpOf_41 rfl rfl (.tail _ (.tail _ (.head _))) ?_
        refine mK_invV (J := M_X4_isIn) (k := 1) (as := [.int (f_X0_targetOf_5 σ a1)]) (st := []) (c1 := 0) (s1 := 0) dX4_helpOf_42 rfl jw_X4_isIn jn_X4_isIn rfl (Nat.le_of_ble_eq_true rfl) (Nat.zero_le _) (Nat.zero_le _) rfl kw_614 kw_615 kw_616 (b := 18) (Nat.le_of_ble_eq_true rfl) (Nat.le_of_ble_eq_true rfl) rfl ?_
        refine S_X4_isIn_18 (f_X0_targetOf_5 σ a1) ?_
        show mK Γ M_X4_helpOf (d + 3) Q 60 0 0 45 [(0, .ref 18), (1, .int a1), (2, .int (f_X0_targetOf_5 σ a1))] [.int (f_X4_isIn_18 σ (f_X0_targetOf_5 σ a1))] 60 mSH σ
        refine mK_if_eq (tgt := 52) dX4_helpOf_45 rfl (by decide) (fun c7 => ?_) (fun c7 => ?_)
        · refine mK_iconst dX4_helpOf_52 rfl qic_0 ?_
          refine ru_istore_n (lv1 := [(0, .ref 18), (1, .int a1), (2, .int (f_X0_targetOf_5 σ a1)), (3, .int 0)]) dX4_helpOf_53 rfl rfl (by decide) rfl ?_
          refine mK_iload_n dX4_helpOf_54 rfl rfl (.tail _ (.tail _ (.tail _ (.head _)))) ?_
          refine mK_if_eq (tgt := 69) dX4_helpOf_55 rfl (by decide) (fun c8 => ?_) (fun c8 => ?_)
          · refine mK_iconst dX4_helpOf_69 rfl qic_0 ?_
            exact mK_iret dX4_helpOf_70 rfl (by rw [(show (f_X4_helpOf_18 σ a1) = 0 from by unfold f_X4_helpOf_18; exact ((if_pos c1).trans ((if_neg c3).trans ((if_pos c5).trans ((if_pos c7).trans rfl)))))] at hQ; exact hQ)
          · exact absurd (by decide) c8
        · refine mK_iconst dX4_helpOf_48 rfl qic_1 ?_
          refine mK_goto (tgt := 53) dX4_helpOf_49 (by decide) ?_
          refine ru_istore_n (lv1 := [(0, .ref 18), (1, .int a1), (2, .int (f_X0_targetOf_5 σ a1)), (3, .int 1)]) dX4_helpOf_53 rfl rfl (by decide) rfl ?_
          refine mK_iload_n dX4_helpOf_54 rfl rfl (.tail _ (.tail _ (.tail _ (.head _)))) ?_
          refine mK_if_eq (tgt := 69) dX4_helpOf_55 rfl (by decide) (fun c9 => ?_) (fun c9 => ?_)
          · exact absurd c9 (by decide)
          · refine mK_aload_n dX4_helpOf_58 rfl rfl (.head _) ?_
            refine ru_getR (k := 0) (ci := 3) (a := 5) dX4_helpOf_59 rfl rfl rfl kw_200 ?_
            refine mK_iload_n dX4_helpOf_62 rfl rfl (.tail _ (.head _)) ?_
            refine mK_invV (J := M_X0_strengthOf) (k := 1) (as := [.int a1]) (st := []) (c1 := 0) (s1 := 0) dX4_helpOf_63 rfl jw_X0_strengthOf jn_X0_strengthOf rfl (Nat.le_of_ble_eq_true rfl) (Nat.zero_le _) (Nat.zero_le _) rfl kw_713 kw_562 kw_563 (b := 5) (Nat.le_of_ble_eq_true rfl) (Nat.le_of_ble_eq_true rfl) rfl ?_
            refine S_X0_strengthOf_5 a1 ?_
            show mK Γ M_X4_helpOf (d + 3) Q 60 0 0 66 [(0, .ref 18), (1, .int a1), (2, .int (f_X0_targetOf_5 σ a1)), (3, .int 1)] [.int (f_X0_strengthOf_5 σ a1)] 60 mSH σ
            refine mK_goto (tgt := 70) dX4_helpOf_66 (by decide) ?_
            exact mK_iret dX4_helpOf_70 rfl (by rw [(show (f_X4_helpOf_18 σ a1) = (f_X0_strengthOf_5 σ a1) from by unfold f_X4_helpOf_18; exact ((if_pos c1).trans ((if_neg c3).trans ((if_pos c5).trans ((if_neg c7).trans rfl)))))] at hQ; exact hQ)
def f_X4_itemsIn_16 (σ : mS) : Int64 := (σ.2.1 16 3)
set_option maxRecDepth 20000 in
theorem S_X4_itemsIn_16 {Γ : Nat × (Nat → Int32)} {d : Nat} {Q : mQ} {σ : mS} (hQ : Q (.inl (some (.long (f_X4_itemsIn_16 σ)))) 60 mSH σ) : mCall Γ M_X4_itemsIn (d + 1) 0 0 [.ref 16] 60 mSH σ Q := by
  refine mCall_of rfl (by decide) (Nat.le_of_ble_eq_true rfl) (mOkC (mOk_lo (Nat.le_of_ble_eq_true rfl)) mOkN) ?_
  show mK Γ M_X4_itemsIn (d + 1) Q 60 0 0 0 [(0, .ref 16)] [] 60 mSH σ
  refine mK_aload_n dX4_itemsIn_0 rfl rfl (.head _) ?_
  refine ru_getL (k := 3) (ci := 3) dX4_itemsIn_1 rfl rfl kw_203 ?_
  exact mK_lret dX4_itemsIn_4 rfl (by rw [(show (f_X4_itemsIn_16 σ) = (σ.2.1 16 3) from rfl)] at hQ; exact hQ)
def f_X4_itemsOut_16 (σ : mS) : Int64 := (σ.2.1 16 4)
set_option maxRecDepth 20000 in
theorem S_X4_itemsOut_16 {Γ : Nat × (Nat → Int32)} {d : Nat} {Q : mQ} {σ : mS} (hQ : Q (.inl (some (.long (f_X4_itemsOut_16 σ)))) 60 mSH σ) : mCall Γ M_X4_itemsOut (d + 1) 0 0 [.ref 16] 60 mSH σ Q := by
  refine mCall_of rfl (by decide) (Nat.le_of_ble_eq_true rfl) (mOkC (mOk_lo (Nat.le_of_ble_eq_true rfl)) mOkN) ?_
  show mK Γ M_X4_itemsOut (d + 1) Q 60 0 0 0 [(0, .ref 16)] [] 60 mSH σ
  refine mK_aload_n dX4_itemsOut_0 rfl rfl (.head _) ?_
  refine ru_getL (k := 4) (ci := 3) dX4_itemsOut_1 rfl rfl kw_204 ?_
  exact mK_lret dX4_itemsOut_4 rfl (by rw [(show (f_X4_itemsOut_16 σ) = (σ.2.1 16 4) from rfl)] at hQ; exact hQ)
def f_X4_worthOf_16 (σ : mS) (a1 : Int32) : Int32 := if ((σ.2.1 16 2) &&& (f_X7_bit σ a1)) = 0 then (if (f_X4_isIn_16 σ a1) = 0 then (if (f_X4_isOut_16 σ a1) = 0 then (if (f_X0_kindOf_5 σ a1) = 0 then (0 + ((f_X0_strengthOf_5 σ a1) / 2)) else 0) else 0) else (if (f_X0_kindOf_5 σ a1) = 0 then (0 + (f_X0_strengthOf_5 σ a1)) else (if (f_X0_kindOf_5 σ a1) = 2 then (0 + 1) else (if (f_X0_isStrongAttack_5 σ a1) = 0 then (if (f_X4_isOut_16 σ a1) = 0 then 0 else 0) else (0 + ((f_X0_strengthOf_5 σ a1) / 2)))))) else (if (f_X4_isIn_16 σ a1) = 0 then (if (f_X4_isOut_16 σ a1) = 0 then (if (f_X0_kindOf_5 σ a1) = 0 then ((-1) + ((f_X0_strengthOf_5 σ a1) / 2)) else (-1)) else (-1)) else (if (f_X0_kindOf_5 σ a1) = 0 then ((-1) + (f_X0_strengthOf_5 σ a1)) else (if (f_X0_kindOf_5 σ a1) = 2 then ((-1) + 1) else (if (f_X0_isStrongAttack_5 σ a1) = 0 then (if (f_X4_isOut_16 σ a1) = 0 then (-1) else (-1)) else ((-1) + ((f_X0_strengthOf_5 σ a1) / 2))))))
set_option maxRecDepth 20000 in
theorem S_X4_worthOf_16 {Γ : Nat × (Nat → Int32)} {d : Nat} {Q : mQ} {σ : mS} (a1 : Int32) (hQ : Q (.inl (some (.int (f_X4_worthOf_16 σ a1)))) 60 mSH σ) : mCall Γ M_X4_worthOf (d + 3) 0 0 [.ref 16, .int a1] 60 mSH σ Q := by
  refine mCall_of rfl (by decide) (Nat.le_of_ble_eq_true rfl) (mOkC (mOk_lo (Nat.le_of_ble_eq_true rfl)) (mOkC mOk_i mOkN)) ?_
  show mK Γ M_X4_worthOf (d + 3) Q 60 0 0 0 [(0, .ref 16), (1, .int a1)] [] 60 mSH σ
  refine mK_aload_n dX4_worthOf_0 rfl rfl (.head _) ?_
  refine ru_getL (k := 2) (ci := 3) dX4_worthOf_1 rfl rfl kw_202 ?_
  refine mK_iload_n dX4_worthOf_4 rfl rfl (.tail _ (.head _)) ?_
  refine mK_invSN (J := M_X7_bit) (k := 1) (as := [.int a1]) (st := [.long (σ.2.1 16 2)]) (c1 := 0) (s1 := 0) dX4_worthOf_5 rfl jw_X7_bit jn_X7_bit rfl (Nat.le_of_ble_eq_true rfl) (Nat.zero_le _) (Nat.zero_le _) rfl kn_611 kw_612 ?_
  refine S_X7_bit a1 ?_
  show mK Γ M_X4_worthOf (d + 3) Q 60 0 0 8 [(0, .ref 16), (1, .int a1)] [.long (f_X7_bit σ a1), .long (σ.2.1 16 2)] 60 mSH σ
  refine mK_land dX4_worthOf_8 rfl ?_
  refine mK_lconst dX4_worthOf_9 rfl (v := 0) rfl ?_
  refine ru_lif_eq (tgt := 18) dX4_worthOf_10 rfl dX4_worthOf_11 rfl (by decide) (fun c1 => ?_) (fun c1 => ?_)
  · refine mK_iconst dX4_worthOf_18 rfl qic_0 ?_
    refine ru_istore_n (lv1 := [(0, .ref 16), (1, .int a1), (2, .int 0)]) dX4_worthOf_19 rfl rfl (by decide) rfl ?_
    refine mK_aload_n dX4_worthOf_20 rfl rfl (.head _) ?_
    refine ru_getR (k := 0) (ci := 3) (a := 5) dX4_worthOf_21 rfl rfl rfl kw_200 ?_
    refine mK_iload_n dX4_worthOf_24 rfl rfl (.tail _ (.head _)) ?_
    refine mK_invV (J := M_X0_kindOf) (k := 1) (as := [.int a1]) (st := []) (c1 := 0) (s1 := 0) dX4_worthOf_25 rfl jw_X0_kindOf jn_X0_kindOf rfl (Nat.le_of_ble_eq_true rfl) (Nat.zero_le _) (Nat.zero_le _) rfl kw_712 kw_570 kw_571 (b := 5) (Nat.le_of_ble_eq_true rfl) (Nat.le_of_ble_eq_true rfl) rfl ?_
    refine S_X0_kindOf_5 a1 ?_
    show mK Γ M_X4_worthOf (d + 3) Q 60 0 0 28 [(0, .ref 16), (1, .int a1), (2, .int 0)] [.int (f_X0_kindOf_5 σ a1)] 60 mSH σ
    refine ru_istore_n (lv1 := [(0, .ref 16), (1, .int a1), (2, .int 0), (3, .int (f_X0_kindOf_5 σ a1))]) dX4_worthOf_28 rfl rfl (by decide) rfl ?_
    refine mK_aload_n dX4_worthOf_29 rfl rfl (.head _) ?_
    refine ru_getR (k := 0) (ci := 3) (a := 5) dX4_worthOf_30 rfl rfl rfl kw_200 ?_
    refine mK_iload_n dX4_worthOf_33 rfl rfl (.tail _ (.head _)) ?_
    refine mK_invV (J := M_X0_strengthOf) (k := 1) (as := [.int a1]) (st := []) (c1 := 0) (s1 := 0) dX4_worthOf_34 rfl jw_X0_strengthOf jn_X0_strengthOf rfl (Nat.le_of_ble_eq_true rfl) (Nat.zero_le _) (Nat.zero_le _) rfl kw_713 kw_562 kw_563 (b := 5) (Nat.le_of_ble_eq_true rfl) (Nat.le_of_ble_eq_true rfl) rfl ?_
    refine S_X0_strengthOf_5 a1 ?_
    show mK Γ M_X4_worthOf (d + 3) Q 60 0 0 37 [(0, .ref 16), (1, .int a1), (2, .int 0), (3, .int (f_X0_kindOf_5 σ a1))] [.int (f_X0_strengthOf_5 σ a1)] 60 mSH σ
    refine ru_istore (lv1 := [(0, .ref 16), (1, .int a1), (2, .int 0), (3, .int (f_X0_kindOf_5 σ a1)), (4, .int (f_X0_strengthOf_5 σ a1))]) dX4_worthOf_37 rfl (by decide) rfl ?_
    refine mK_aload_n dX4_worthOf_39 rfl rfl (.head _) ?_
    refine mK_iload_n dX4_worthOf_40 rfl rfl (.tail _ (.head _)) ?_
    refine mK_invV (J := M_X4_isIn) (k := 1) (as := [.int a1]) (st := []) (c1 := 0) (s1 := 0) dX4_worthOf_41 rfl jw_X4_isIn jn_X4_isIn rfl (Nat.le_of_ble_eq_true rfl) (Nat.zero_le _) (Nat.zero_le _) rfl kw_614 kw_615 kw_616 (b := 16) (Nat.le_of_ble_eq_true rfl) (Nat.le_of_ble_eq_true rfl) rfl ?_
    refine S_X4_isIn_16 a1 ?_
    show mK Γ M_X4_worthOf (d + 3) Q 60 0 0 44 [(0, .ref 16), (1, .int a1), (2, .int 0), (3, .int (f_X0_kindOf_5 σ a1)), (4, .int (f_X0_strengthOf_5 σ a1))] [.int (f_X4_isIn_16 σ a1)] 60 mSH σ
    refine mK_if_eq (tgt := 59) dX4_worthOf_44 rfl (by decide) (fun c2 => ?_) (fun c2 => ?_)
    · refine mK_aload_n dX4_worthOf_59 rfl rfl (.head _) ?_
      refine mK_iload_n dX4_worthOf_60 rfl rfl (.tail _ (.head _)) ?_
      refine mK_invV (J := M_X4_isIn) (k := 1) (as := [.int a1]) (st := []) (c1 := 0) (s1 := 0) dX4_worthOf_61 rfl jw_X4_isIn jn_X4_isIn rfl (Nat.le_of_ble_eq_true rfl) (Nat.zero_le _) (Nat.zero_le _) rfl kw_614 kw_615 kw_616 (b := 16) (Nat.le_of_ble_eq_true rfl) (Nat.le_of_ble_eq_true rfl) rfl ?_
      refine S_X4_isIn_16 a1 ?_
      show mK Γ M_X4_worthOf (d + 3) Q 60 0 0 64 [(0, .ref 16), (1, .int a1), (2, .int 0), (3, .int (f_X0_kindOf_5 σ a1)), (4, .int (f_X0_strengthOf_5 σ a1))] [.int (f_X4_isIn_16 σ a1)] 60 mSH σ
      refine mK_if_eq (tgt := 78) dX4_worthOf_64 rfl (by decide) (fun c3 => ?_) (fun c3 => ?_)
      · refine mK_aload_n dX4_worthOf_78 rfl rfl (.head _) ?_
        refine mK_iload_n dX4_worthOf_79 rfl rfl (.tail _ (.head _)) ?_
        refine mK_invV (J := M_X4_isIn) (k := 1) (as := [.int a1]) (st := []) (c1 := 0) (s1 := 0) dX4_worthOf_80 rfl jw_X4_isIn jn_X4_isIn rfl (Nat.le_of_ble_eq_true rfl) (Nat.zero_le _) (Nat.zero_le _) rfl kw_614 kw_615 kw_616 (b := 16) (Nat.le_of_ble_eq_true rfl) (Nat.le_of_ble_eq_true rfl) rfl ?_
        refine S_X4_isIn_16 a1 ?_
        show mK Γ M_X4_worthOf (d + 3) Q 60 0 0 83 [(0, .ref 16), (1, .int a1), (2, .int 0), (3, .int (f_X0_kindOf_5 σ a1)), (4, .int (f_X0_strengthOf_5 σ a1))] [.int (f_X4_isIn_16 σ a1)] 60 mSH σ
        refine mK_if_eq (tgt := 107) dX4_worthOf_83 rfl (by decide) (fun c4 => ?_) (fun c4 => ?_)
        · refine mK_aload_n dX4_worthOf_107 rfl rfl (.head _) ?_
          refine mK_iload_n dX4_worthOf_108 rfl rfl (.tail _ (.head _)) ?_
          refine mK_invV (J := M_X4_isOut) (k := 1) (as := [.int a1]) (st := []) (c1 := 0) (s1 := 0) dX4_worthOf_109 rfl jw_X4_isOut jn_X4_isOut rfl (Nat.le_of_ble_eq_true rfl) (Nat.zero_le _) (Nat.zero_le _) rfl kw_618 kw_619 kw_620 (b := 16) (Nat.le_of_ble_eq_true rfl) (Nat.le_of_ble_eq_true rfl) rfl ?_
          refine S_X4_isOut_16 a1 ?_
          show mK Γ M_X4_worthOf (d + 3) Q 60 0 0 112 [(0, .ref 16), (1, .int a1), (2, .int 0), (3, .int (f_X0_kindOf_5 σ a1)), (4, .int (f_X0_strengthOf_5 σ a1))] [.int (f_X4_isOut_16 σ a1)] 60 mSH σ
          refine ru_if_ne (tgt := 126) dX4_worthOf_112 rfl (by decide) (fun c5 => ?_) (fun c5 => ?_)
          · refine mK_iload_n dX4_worthOf_126 rfl rfl (.tail _ (.tail _ (.head _))) ?_
            exact mK_iret dX4_worthOf_127 rfl (by rw [(show (f_X4_worthOf_16 σ a1) = 0 from by unfold f_X4_worthOf_16; exact ((if_pos c1).trans ((if_pos c2).trans ((if_neg c5).trans rfl))))] at hQ; exact hQ)
          · refine mK_iload_n dX4_worthOf_115 rfl rfl (.tail _ (.tail _ (.tail _ (.head _)))) ?_
            refine ru_if_ne (tgt := 126) dX4_worthOf_116 rfl (by decide) (fun c6 => ?_) (fun c6 => ?_)
            · refine mK_iload_n dX4_worthOf_126 rfl rfl (.tail _ (.tail _ (.head _))) ?_
              exact mK_iret dX4_worthOf_127 rfl (by rw [(show (f_X4_worthOf_16 σ a1) = 0 from by unfold f_X4_worthOf_16; exact ((if_pos c1).trans ((if_pos c2).trans ((if_pos c5).trans ((if_neg c6).trans rfl)))))] at hQ; exact hQ)
            · refine mK_iload_n dX4_worthOf_119 rfl rfl (.tail _ (.tail _ (.head _))) ?_
              refine mK_iload dX4_worthOf_120 rfl (.tail _ (.tail _ (.tail _ (.tail _ (.head _))))) ?_
              refine mK_iconst dX4_worthOf_122 rfl qic_2 ?_
              refine mK_idiv dX4_worthOf_123 rfl (by decide) ?_
              refine mK_iadd dX4_worthOf_124 rfl ?_
              refine ru_istore_n (lv1 := [(0, .ref 16), (1, .int a1), (2, .int (0 + ((f_X0_strengthOf_5 σ a1) / 2))), (3, .int (f_X0_kindOf_5 σ a1)), (4, .int (f_X0_strengthOf_5 σ a1))]) dX4_worthOf_125 rfl rfl (by decide) rfl ?_
              refine mK_iload_n dX4_worthOf_126 rfl rfl (.tail _ (.tail _ (.head _))) ?_
              exact mK_iret dX4_worthOf_127 rfl (by rw [(show (f_X4_worthOf_16 σ a1) = (0 + ((f_X0_strengthOf_5 σ a1) / 2)) from by unfold f_X4_worthOf_16; exact ((if_pos c1).trans ((if_pos c2).trans ((if_pos c5).trans ((if_pos c6).trans rfl)))))] at hQ; exact hQ)
        · exact absurd c2 c4
      · exact absurd c2 c3
    · refine mK_iload_n dX4_worthOf_47 rfl rfl (.tail _ (.tail _ (.tail _ (.head _)))) ?_
      refine ru_if_ne (tgt := 59) dX4_worthOf_48 rfl (by decide) (fun c7 => ?_) (fun c7 => ?_)
      · refine mK_aload_n dX4_worthOf_59 rfl rfl (.head _) ?_
        refine mK_iload_n dX4_worthOf_60 rfl rfl (.tail _ (.head _)) ?_
        refine mK_invV (J := M_X4_isIn) (k := 1) (as := [.int a1]) (st := []) (c1 := 0) (s1 := 0) dX4_worthOf_61 rfl jw_X4_isIn jn_X4_isIn rfl (Nat.le_of_ble_eq_true rfl) (Nat.zero_le _) (Nat.zero_le _) rfl kw_614 kw_615 kw_616 (b := 16) (Nat.le_of_ble_eq_true rfl) (Nat.le_of_ble_eq_true rfl) rfl ?_
        refine S_X4_isIn_16 a1 ?_
        show mK Γ M_X4_worthOf (d + 3) Q 60 0 0 64 [(0, .ref 16), (1, .int a1), (2, .int 0), (3, .int (f_X0_kindOf_5 σ a1)), (4, .int (f_X0_strengthOf_5 σ a1))] [.int (f_X4_isIn_16 σ a1)] 60 mSH σ
        refine mK_if_eq (tgt := 78) dX4_worthOf_64 rfl (by decide) (fun c8 => ?_) (fun c8 => ?_)
        · exact absurd c8 c2
        · refine mK_iload_n dX4_worthOf_67 rfl rfl (.tail _ (.tail _ (.tail _ (.head _)))) ?_
          refine mK_iconst dX4_worthOf_68 rfl qic_2 ?_
          refine ru_icmp_ne (tgt := 78) dX4_worthOf_69 rfl (by decide) (fun c9 => ?_) (fun c9 => ?_)
          · refine mK_aload_n dX4_worthOf_78 rfl rfl (.head _) ?_
            refine mK_iload_n dX4_worthOf_79 rfl rfl (.tail _ (.head _)) ?_
            refine mK_invV (J := M_X4_isIn) (k := 1) (as := [.int a1]) (st := []) (c1 := 0) (s1 := 0) dX4_worthOf_80 rfl jw_X4_isIn jn_X4_isIn rfl (Nat.le_of_ble_eq_true rfl) (Nat.zero_le _) (Nat.zero_le _) rfl kw_614 kw_615 kw_616 (b := 16) (Nat.le_of_ble_eq_true rfl) (Nat.le_of_ble_eq_true rfl) rfl ?_
            refine S_X4_isIn_16 a1 ?_
            show mK Γ M_X4_worthOf (d + 3) Q 60 0 0 83 [(0, .ref 16), (1, .int a1), (2, .int 0), (3, .int (f_X0_kindOf_5 σ a1)), (4, .int (f_X0_strengthOf_5 σ a1))] [.int (f_X4_isIn_16 σ a1)] 60 mSH σ
            refine mK_if_eq (tgt := 107) dX4_worthOf_83 rfl (by decide) (fun c10 => ?_) (fun c10 => ?_)
            · exact absurd c10 c2
            · refine mK_aload_n dX4_worthOf_86 rfl rfl (.head _) ?_
              refine ru_getR (k := 0) (ci := 3) (a := 5) dX4_worthOf_87 rfl rfl rfl kw_200 ?_
              refine mK_iload_n dX4_worthOf_90 rfl rfl (.tail _ (.head _)) ?_
              refine mK_invV (J := M_X0_isStrongAttack) (k := 1) (as := [.int a1]) (st := []) (c1 := 0) (s1 := 0) dX4_worthOf_91 rfl jw_X0_isStrongAttack jn_X0_isStrongAttack rfl (Nat.le_of_ble_eq_true rfl) (Nat.zero_le _) (Nat.zero_le _) rfl kw_603 kw_604 kw_605 (b := 5) (Nat.le_of_ble_eq_true rfl) (Nat.le_of_ble_eq_true rfl) rfl ?_
              refine S_X0_isStrongAttack_5 a1 ?_
              show mK Γ M_X4_worthOf (d + 3) Q 60 0 0 94 [(0, .ref 16), (1, .int a1), (2, .int 0), (3, .int (f_X0_kindOf_5 σ a1)), (4, .int (f_X0_strengthOf_5 σ a1))] [.int (f_X0_isStrongAttack_5 σ a1)] 60 mSH σ
              refine mK_if_eq (tgt := 107) dX4_worthOf_94 rfl (by decide) (fun c11 => ?_) (fun c11 => ?_)
              · refine mK_aload_n dX4_worthOf_107 rfl rfl (.head _) ?_
                refine mK_iload_n dX4_worthOf_108 rfl rfl (.tail _ (.head _)) ?_
                refine mK_invV (J := M_X4_isOut) (k := 1) (as := [.int a1]) (st := []) (c1 := 0) (s1 := 0) dX4_worthOf_109 rfl jw_X4_isOut jn_X4_isOut rfl (Nat.le_of_ble_eq_true rfl) (Nat.zero_le _) (Nat.zero_le _) rfl kw_618 kw_619 kw_620 (b := 16) (Nat.le_of_ble_eq_true rfl) (Nat.le_of_ble_eq_true rfl) rfl ?_
                refine S_X4_isOut_16 a1 ?_
                show mK Γ M_X4_worthOf (d + 3) Q 60 0 0 112 [(0, .ref 16), (1, .int a1), (2, .int 0), (3, .int (f_X0_kindOf_5 σ a1)), (4, .int (f_X0_strengthOf_5 σ a1))] [.int (f_X4_isOut_16 σ a1)] 60 mSH σ
                refine ru_if_ne (tgt := 126) dX4_worthOf_112 rfl (by decide) (fun c12 => ?_) (fun c12 => ?_)
                · refine mK_iload_n dX4_worthOf_126 rfl rfl (.tail _ (.tail _ (.head _))) ?_
                  exact mK_iret dX4_worthOf_127 rfl (by rw [(show (f_X4_worthOf_16 σ a1) = 0 from by unfold f_X4_worthOf_16; exact ((if_pos c1).trans ((if_neg c2).trans ((if_neg c7).trans ((if_neg c9).trans ((if_pos c11).trans ((if_neg c12).trans rfl)))))))] at hQ; exact hQ)
                · refine mK_iload_n dX4_worthOf_115 rfl rfl (.tail _ (.tail _ (.tail _ (.head _)))) ?_
                  refine ru_if_ne (tgt := 126) dX4_worthOf_116 rfl (by decide) (fun c13 => ?_) (fun c13 => ?_)
                  · refine mK_iload_n dX4_worthOf_126 rfl rfl (.tail _ (.tail _ (.head _))) ?_
                    exact mK_iret dX4_worthOf_127 rfl (by rw [(show (f_X4_worthOf_16 σ a1) = 0 from by unfold f_X4_worthOf_16; exact ((if_pos c1).trans ((if_neg c2).trans ((if_neg c7).trans ((if_neg c9).trans ((if_pos c11).trans ((if_pos c12).trans rfl)))))))] at hQ; exact hQ)
                  · exact absurd c13 c7
              · refine mK_iload_n dX4_worthOf_97 rfl rfl (.tail _ (.tail _ (.head _))) ?_
                refine mK_iload dX4_worthOf_98 rfl (.tail _ (.tail _ (.tail _ (.tail _ (.head _))))) ?_
                refine mK_iconst dX4_worthOf_100 rfl qic_2 ?_
                refine mK_idiv dX4_worthOf_101 rfl (by decide) ?_
                refine mK_iadd dX4_worthOf_102 rfl ?_
                refine ru_istore_n (lv1 := [(0, .ref 16), (1, .int a1), (2, .int (0 + ((f_X0_strengthOf_5 σ a1) / 2))), (3, .int (f_X0_kindOf_5 σ a1)), (4, .int (f_X0_strengthOf_5 σ a1))]) dX4_worthOf_103 rfl rfl (by decide) rfl ?_
                refine mK_goto (tgt := 126) dX4_worthOf_104 (by decide) ?_
                refine mK_iload_n dX4_worthOf_126 rfl rfl (.tail _ (.tail _ (.head _))) ?_
                exact mK_iret dX4_worthOf_127 rfl (by rw [(show (f_X4_worthOf_16 σ a1) = (0 + ((f_X0_strengthOf_5 σ a1) / 2)) from by unfold f_X4_worthOf_16; exact ((if_pos c1).trans ((if_neg c2).trans ((if_neg c7).trans ((if_neg c9).trans ((if_neg c11).trans rfl))))))] at hQ; exact hQ)
          · refine ru_iinc (lv1 := [(0, .ref 16), (1, .int a1), (2, .int (0 + 1)), (3, .int (f_X0_kindOf_5 σ a1)), (4, .int (f_X0_strengthOf_5 σ a1))]) dX4_worthOf_72 rfl (.tail _ (.tail _ (.head _))) qic_1 (by decide) rfl ?_
            refine mK_goto (tgt := 126) dX4_worthOf_75 (by decide) ?_
            refine mK_iload_n dX4_worthOf_126 rfl rfl (.tail _ (.tail _ (.head _))) ?_
            exact mK_iret dX4_worthOf_127 rfl (by rw [(show (f_X4_worthOf_16 σ a1) = (0 + 1) from by unfold f_X4_worthOf_16; exact ((if_pos c1).trans ((if_neg c2).trans ((if_neg c7).trans ((if_pos c9).trans rfl)))))] at hQ; exact hQ)
      · refine mK_iload_n dX4_worthOf_51 rfl rfl (.tail _ (.tail _ (.head _))) ?_
        refine mK_iload dX4_worthOf_52 rfl (.tail _ (.tail _ (.tail _ (.tail _ (.head _))))) ?_
        refine mK_iadd dX4_worthOf_54 rfl ?_
        refine ru_istore_n (lv1 := [(0, .ref 16), (1, .int a1), (2, .int (0 + (f_X0_strengthOf_5 σ a1))), (3, .int (f_X0_kindOf_5 σ a1)), (4, .int (f_X0_strengthOf_5 σ a1))]) dX4_worthOf_55 rfl rfl (by decide) rfl ?_
        refine mK_goto (tgt := 126) dX4_worthOf_56 (by decide) ?_
        refine mK_iload_n dX4_worthOf_126 rfl rfl (.tail _ (.tail _ (.head _))) ?_
        exact mK_iret dX4_worthOf_127 rfl (by rw [(show (f_X4_worthOf_16 σ a1) = (0 + (f_X0_strengthOf_5 σ a1)) from by unfold f_X4_worthOf_16; exact ((if_pos c1).trans ((if_neg c2).trans ((if_pos c7).trans rfl))))] at hQ; exact hQ)
  · refine mK_iconst dX4_worthOf_14 rfl qic_m1 ?_
    refine mK_goto (tgt := 19) dX4_worthOf_15 (by decide) ?_
    refine ru_istore_n (lv1 := [(0, .ref 16), (1, .int a1), (2, .int (-1))]) dX4_worthOf_19 rfl rfl (by decide) rfl ?_
    refine mK_aload_n dX4_worthOf_20 rfl rfl (.head _) ?_
    refine ru_getR (k := 0) (ci := 3) (a := 5) dX4_worthOf_21 rfl rfl rfl kw_200 ?_
    refine mK_iload_n dX4_worthOf_24 rfl rfl (.tail _ (.head _)) ?_
    refine mK_invV (J := M_X0_kindOf) (k := 1) (as := [.int a1]) (st := []) (c1 := 0) (s1 := 0) dX4_worthOf_25 rfl jw_X0_kindOf jn_X0_kindOf rfl (Nat.le_of_ble_eq_true rfl) (Nat.zero_le _) (Nat.zero_le _) rfl kw_712 kw_570 kw_571 (b := 5) (Nat.le_of_ble_eq_true rfl) (Nat.le_of_ble_eq_true rfl) rfl ?_
    refine S_X0_kindOf_5 a1 ?_
    show mK Γ M_X4_worthOf (d + 3) Q 60 0 0 28 [(0, .ref 16), (1, .int a1), (2, .int (-1))] [.int (f_X0_kindOf_5 σ a1)] 60 mSH σ
    refine ru_istore_n (lv1 := [(0, .ref 16), (1, .int a1), (2, .int (-1)), (3, .int (f_X0_kindOf_5 σ a1))]) dX4_worthOf_28 rfl rfl (by decide) rfl ?_
    refine mK_aload_n dX4_worthOf_29 rfl rfl (.head _) ?_
    refine ru_getR (k := 0) (ci := 3) (a := 5) dX4_worthOf_30 rfl rfl rfl kw_200 ?_
    refine mK_iload_n dX4_worthOf_33 rfl rfl (.tail _ (.head _)) ?_
    refine mK_invV (J := M_X0_strengthOf) (k := 1) (as := [.int a1]) (st := []) (c1 := 0) (s1 := 0) dX4_worthOf_34 rfl jw_X0_strengthOf jn_X0_strengthOf rfl (Nat.le_of_ble_eq_true rfl) (Nat.zero_le _) (Nat.zero_le _) rfl kw_713 kw_562 kw_563 (b := 5) (Nat.le_of_ble_eq_true rfl) (Nat.le_of_ble_eq_true rfl) rfl ?_
    refine S_X0_strengthOf_5 a1 ?_
    show mK Γ M_X4_worthOf (d + 3) Q 60 0 0 37 [(0, .ref 16), (1, .int a1), (2, .int (-1)), (3, .int (f_X0_kindOf_5 σ a1))] [.int (f_X0_strengthOf_5 σ a1)] 60 mSH σ
    refine ru_istore (lv1 := [(0, .ref 16), (1, .int a1), (2, .int (-1)), (3, .int (f_X0_kindOf_5 σ a1)), (4, .int (f_X0_strengthOf_5 σ a1))]) dX4_worthOf_37 rfl (by decide) rfl ?_
    refine mK_aload_n dX4_worthOf_39 rfl rfl (.head _) ?_
    refine mK_iload_n dX4_worthOf_40 rfl rfl (.tail _ (.head _)) ?_
    refine mK_invV (J := M_X4_isIn) (k := 1) (as := [.int a1]) (st := []) (c1 := 0) (s1 := 0) dX4_worthOf_41 rfl jw_X4_isIn jn_X4_isIn rfl (Nat.le_of_ble_eq_true rfl) (Nat.zero_le _) (Nat.zero_le _) rfl kw_614 kw_615 kw_616 (b := 16) (Nat.le_of_ble_eq_true rfl) (Nat.le_of_ble_eq_true rfl) rfl ?_
    refine S_X4_isIn_16 a1 ?_
    show mK Γ M_X4_worthOf (d + 3) Q 60 0 0 44 [(0, .ref 16), (1, .int a1), (2, .int (-1)), (3, .int (f_X0_kindOf_5 σ a1)), (4, .int (f_X0_strengthOf_5 σ a1))] [.int (f_X4_isIn_16 σ a1)] 60 mSH σ
    refine mK_if_eq (tgt := 59) dX4_worthOf_44 rfl (by decide) (fun c14 => ?_) (fun c14 => ?_)
    · refine mK_aload_n dX4_worthOf_59 rfl rfl (.head _) ?_
      refine mK_iload_n dX4_worthOf_60 rfl rfl (.tail _ (.head _)) ?_
      refine mK_invV (J := M_X4_isIn) (k := 1) (as := [.int a1]) (st := []) (c1 := 0) (s1 := 0) dX4_worthOf_61 rfl jw_X4_isIn jn_X4_isIn rfl (Nat.le_of_ble_eq_true rfl) (Nat.zero_le _) (Nat.zero_le _) rfl kw_614 kw_615 kw_616 (b := 16) (Nat.le_of_ble_eq_true rfl) (Nat.le_of_ble_eq_true rfl) rfl ?_
      refine S_X4_isIn_16 a1 ?_
      show mK Γ M_X4_worthOf (d + 3) Q 60 0 0 64 [(0, .ref 16), (1, .int a1), (2, .int (-1)), (3, .int (f_X0_kindOf_5 σ a1)), (4, .int (f_X0_strengthOf_5 σ a1))] [.int (f_X4_isIn_16 σ a1)] 60 mSH σ
      refine mK_if_eq (tgt := 78) dX4_worthOf_64 rfl (by decide) (fun c15 => ?_) (fun c15 => ?_)
      · refine mK_aload_n dX4_worthOf_78 rfl rfl (.head _) ?_
        refine mK_iload_n dX4_worthOf_79 rfl rfl (.tail _ (.head _)) ?_
        refine mK_invV (J := M_X4_isIn) (k := 1) (as := [.int a1]) (st := []) (c1 := 0) (s1 := 0) dX4_worthOf_80 rfl jw_X4_isIn jn_X4_isIn rfl (Nat.le_of_ble_eq_true rfl) (Nat.zero_le _) (Nat.zero_le _) rfl kw_614 kw_615 kw_616 (b := 16) (Nat.le_of_ble_eq_true rfl) (Nat.le_of_ble_eq_true rfl) rfl ?_
        refine S_X4_isIn_16 a1 ?_
        show mK Γ M_X4_worthOf (d + 3) Q 60 0 0 83 [(0, .ref 16), (1, .int a1), (2, .int (-1)), (3, .int (f_X0_kindOf_5 σ a1)), (4, .int (f_X0_strengthOf_5 σ a1))] [.int (f_X4_isIn_16 σ a1)] 60 mSH σ
        refine mK_if_eq (tgt := 107) dX4_worthOf_83 rfl (by decide) (fun c16 => ?_) (fun c16 => ?_)
        · refine mK_aload_n dX4_worthOf_107 rfl rfl (.head _) ?_
          refine mK_iload_n dX4_worthOf_108 rfl rfl (.tail _ (.head _)) ?_
          refine mK_invV (J := M_X4_isOut) (k := 1) (as := [.int a1]) (st := []) (c1 := 0) (s1 := 0) dX4_worthOf_109 rfl jw_X4_isOut jn_X4_isOut rfl (Nat.le_of_ble_eq_true rfl) (Nat.zero_le _) (Nat.zero_le _) rfl kw_618 kw_619 kw_620 (b := 16) (Nat.le_of_ble_eq_true rfl) (Nat.le_of_ble_eq_true rfl) rfl ?_
          refine S_X4_isOut_16 a1 ?_
          show mK Γ M_X4_worthOf (d + 3) Q 60 0 0 112 [(0, .ref 16), (1, .int a1), (2, .int (-1)), (3, .int (f_X0_kindOf_5 σ a1)), (4, .int (f_X0_strengthOf_5 σ a1))] [.int (f_X4_isOut_16 σ a1)] 60 mSH σ
          refine ru_if_ne (tgt := 126) dX4_worthOf_112 rfl (by decide) (fun c17 => ?_) (fun c17 => ?_)
          · refine mK_iload_n dX4_worthOf_126 rfl rfl (.tail _ (.tail _ (.head _))) ?_
            exact mK_iret dX4_worthOf_127 rfl (by rw [(show (f_X4_worthOf_16 σ a1) = (-1) from by unfold f_X4_worthOf_16; exact ((if_neg c1).trans ((if_pos c14).trans ((if_neg c17).trans rfl))))] at hQ; exact hQ)
          · refine mK_iload_n dX4_worthOf_115 rfl rfl (.tail _ (.tail _ (.tail _ (.head _)))) ?_
            refine ru_if_ne (tgt := 126) dX4_worthOf_116 rfl (by decide) (fun c18 => ?_) (fun c18 => ?_)
            · refine mK_iload_n dX4_worthOf_126 rfl rfl (.tail _ (.tail _ (.head _))) ?_
              exact mK_iret dX4_worthOf_127 rfl (by rw [(show (f_X4_worthOf_16 σ a1) = (-1) from by unfold f_X4_worthOf_16; exact ((if_neg c1).trans ((if_pos c14).trans ((if_pos c17).trans ((if_neg c18).trans rfl)))))] at hQ; exact hQ)
            · refine mK_iload_n dX4_worthOf_119 rfl rfl (.tail _ (.tail _ (.head _))) ?_
              refine mK_iload dX4_worthOf_120 rfl (.tail _ (.tail _ (.tail _ (.tail _ (.head _))))) ?_
              refine mK_iconst dX4_worthOf_122 rfl qic_2 ?_
              refine mK_idiv dX4_worthOf_123 rfl (by decide) ?_
              refine mK_iadd dX4_worthOf_124 rfl ?_
              refine ru_istore_n (lv1 := [(0, .ref 16), (1, .int a1), (2, .int ((-1) + ((f_X0_strengthOf_5 σ a1) / 2))), (3, .int (f_X0_kindOf_5 σ a1)), (4, .int (f_X0_strengthOf_5 σ a1))]) dX4_worthOf_125 rfl rfl (by decide) rfl ?_
              refine mK_iload_n dX4_worthOf_126 rfl rfl (.tail _ (.tail _ (.head _))) ?_
              exact mK_iret dX4_worthOf_127 rfl (by rw [(show (f_X4_worthOf_16 σ a1) = ((-1) + ((f_X0_strengthOf_5 σ a1) / 2)) from by unfold f_X4_worthOf_16; exact ((if_neg c1).trans ((if_pos c14).trans ((if_pos c17).trans ((if_pos c18).trans rfl)))))] at hQ; exact hQ)
        · exact absurd c14 c16
      · exact absurd c14 c15
    · refine mK_iload_n dX4_worthOf_47 rfl rfl (.tail _ (.tail _ (.tail _ (.head _)))) ?_
      refine ru_if_ne (tgt := 59) dX4_worthOf_48 rfl (by decide) (fun c19 => ?_) (fun c19 => ?_)
      · refine mK_aload_n dX4_worthOf_59 rfl rfl (.head _) ?_
        refine mK_iload_n dX4_worthOf_60 rfl rfl (.tail _ (.head _)) ?_
        refine mK_invV (J := M_X4_isIn) (k := 1) (as := [.int a1]) (st := []) (c1 := 0) (s1 := 0) dX4_worthOf_61 rfl jw_X4_isIn jn_X4_isIn rfl (Nat.le_of_ble_eq_true rfl) (Nat.zero_le _) (Nat.zero_le _) rfl kw_614 kw_615 kw_616 (b := 16) (Nat.le_of_ble_eq_true rfl) (Nat.le_of_ble_eq_true rfl) rfl ?_
        refine S_X4_isIn_16 a1 ?_
        show mK Γ M_X4_worthOf (d + 3) Q 60 0 0 64 [(0, .ref 16), (1, .int a1), (2, .int (-1)), (3, .int (f_X0_kindOf_5 σ a1)), (4, .int (f_X0_strengthOf_5 σ a1))] [.int (f_X4_isIn_16 σ a1)] 60 mSH σ
        refine mK_if_eq (tgt := 78) dX4_worthOf_64 rfl (by decide) (fun c20 => ?_) (fun c20 => ?_)
        · exact absurd c20 c14
        · refine mK_iload_n dX4_worthOf_67 rfl rfl (.tail _ (.tail _ (.tail _ (.head _)))) ?_
          refine mK_iconst dX4_worthOf_68 rfl qic_2 ?_
          refine ru_icmp_ne (tgt := 78) dX4_worthOf_69 rfl (by decide) (fun c21 => ?_) (fun c21 => ?_)
          · refine mK_aload_n dX4_worthOf_78 rfl rfl (.head _) ?_
            refine mK_iload_n dX4_worthOf_79 rfl rfl (.tail _ (.head _)) ?_
            refine mK_invV (J := M_X4_isIn) (k := 1) (as := [.int a1]) (st := []) (c1 := 0) (s1 := 0) dX4_worthOf_80 rfl jw_X4_isIn jn_X4_isIn rfl (Nat.le_of_ble_eq_true rfl) (Nat.zero_le _) (Nat.zero_le _) rfl kw_614 kw_615 kw_616 (b := 16) (Nat.le_of_ble_eq_true rfl) (Nat.le_of_ble_eq_true rfl) rfl ?_
            refine S_X4_isIn_16 a1 ?_
            show mK Γ M_X4_worthOf (d + 3) Q 60 0 0 83 [(0, .ref 16), (1, .int a1), (2, .int (-1)), (3, .int (f_X0_kindOf_5 σ a1)), (4, .int (f_X0_strengthOf_5 σ a1))] [.int (f_X4_isIn_16 σ a1)] 60 mSH σ
            refine mK_if_eq (tgt := 107) dX4_worthOf_83 rfl (by decide) (fun c22 => ?_) (fun c22 => ?_)
            · exact absurd c22 c14
            · refine mK_aload_n dX4_worthOf_86 rfl rfl (.head _) ?_
              refine ru_getR (k := 0) (ci := 3) (a := 5) dX4_worthOf_87 rfl rfl rfl kw_200 ?_
              refine mK_iload_n dX4_worthOf_90 rfl rfl (.tail _ (.head _)) ?_
              refine mK_invV (J := M_X0_isStrongAttack) (k := 1) (as := [.int a1]) (st := []) (c1 := 0) (s1 := 0) dX4_worthOf_91 rfl jw_X0_isStrongAttack jn_X0_isStrongAttack rfl (Nat.le_of_ble_eq_true rfl) (Nat.zero_le _) (Nat.zero_le _) rfl kw_603 kw_604 kw_605 (b := 5) (Nat.le_of_ble_eq_true rfl) (Nat.le_of_ble_eq_true rfl) rfl ?_
              refine S_X0_isStrongAttack_5 a1 ?_
              show mK Γ M_X4_worthOf (d + 3) Q 60 0 0 94 [(0, .ref 16), (1, .int a1), (2, .int (-1)), (3, .int (f_X0_kindOf_5 σ a1)), (4, .int (f_X0_strengthOf_5 σ a1))] [.int (f_X0_isStrongAttack_5 σ a1)] 60 mSH σ
              refine mK_if_eq (tgt := 107) dX4_worthOf_94 rfl (by decide) (fun c23 => ?_) (fun c23 => ?_)
              · refine mK_aload_n dX4_worthOf_107 rfl rfl (.head _) ?_
                refine mK_iload_n dX4_worthOf_108 rfl rfl (.tail _ (.head _)) ?_
                refine mK_invV (J := M_X4_isOut) (k := 1) (as := [.int a1]) (st := []) (c1 := 0) (s1 := 0) dX4_worthOf_109 rfl jw_X4_isOut jn_X4_isOut rfl (Nat.le_of_ble_eq_true rfl) (Nat.zero_le _) (Nat.zero_le _) rfl kw_618 kw_619 kw_620 (b := 16) (Nat.le_of_ble_eq_true rfl) (Nat.le_of_ble_eq_true rfl) rfl ?_
                refine S_X4_isOut_16 a1 ?_
                show mK Γ M_X4_worthOf (d + 3) Q 60 0 0 112 [(0, .ref 16), (1, .int a1), (2, .int (-1)), (3, .int (f_X0_kindOf_5 σ a1)), (4, .int (f_X0_strengthOf_5 σ a1))] [.int (f_X4_isOut_16 σ a1)] 60 mSH σ
                refine ru_if_ne (tgt := 126) dX4_worthOf_112 rfl (by decide) (fun c24 => ?_) (fun c24 => ?_)
                · refine mK_iload_n dX4_worthOf_126 rfl rfl (.tail _ (.tail _ (.head _))) ?_
                  exact mK_iret dX4_worthOf_127 rfl (by rw [(show (f_X4_worthOf_16 σ a1) = (-1) from by unfold f_X4_worthOf_16; exact ((if_neg c1).trans ((if_neg c14).trans ((if_neg c19).trans ((if_neg c21).trans ((if_pos c23).trans ((if_neg c24).trans rfl)))))))] at hQ; exact hQ)
                · refine mK_iload_n dX4_worthOf_115 rfl rfl (.tail _ (.tail _ (.tail _ (.head _)))) ?_
                  refine ru_if_ne (tgt := 126) dX4_worthOf_116 rfl (by decide) (fun c25 => ?_) (fun c25 => ?_)
                  · refine mK_iload_n dX4_worthOf_126 rfl rfl (.tail _ (.tail _ (.head _))) ?_
                    exact mK_iret dX4_worthOf_127 rfl (by rw [(show (f_X4_worthOf_16 σ a1) = (-1) from by unfold f_X4_worthOf_16; exact ((if_neg c1).trans ((if_neg c14).trans ((if_neg c19).trans ((if_neg c21).trans ((if_pos c23).trans ((if_pos c24).trans rfl)))))))] at hQ; exact hQ)
                  · exact absurd c25 c19
              · refine mK_iload_n dX4_worthOf_97 rfl rfl (.tail _ (.tail _ (.head _))) ?_
                refine mK_iload dX4_worthOf_98 rfl (.tail _ (.tail _ (.tail _ (.tail _ (.head _))))) ?_
                refine mK_iconst dX4_worthOf_100 rfl qic_2 ?_
                refine mK_idiv dX4_worthOf_101 rfl (by decide) ?_
                refine mK_iadd dX4_worthOf_102 rfl ?_
                refine ru_istore_n (lv1 := [(0, .ref 16), (1, .int a1), (2, .int ((-1) + ((f_X0_strengthOf_5 σ a1) / 2))), (3, .int (f_X0_kindOf_5 σ a1)), (4, .int (f_X0_strengthOf_5 σ a1))]) dX4_worthOf_103 rfl rfl (by decide) rfl ?_
                refine mK_goto (tgt := 126) dX4_worthOf_104 (by decide) ?_
                refine mK_iload_n dX4_worthOf_126 rfl rfl (.tail _ (.tail _ (.head _))) ?_
                exact mK_iret dX4_worthOf_127 rfl (by rw [(show (f_X4_worthOf_16 σ a1) = ((-1) + ((f_X0_strengthOf_5 σ a1) / 2)) from by unfold f_X4_worthOf_16; exact ((if_neg c1).trans ((if_neg c14).trans ((if_neg c19).trans ((if_neg c21).trans ((if_neg c23).trans rfl))))))] at hQ; exact hQ)
          · refine ru_iinc (lv1 := [(0, .ref 16), (1, .int a1), (2, .int ((-1) + 1)), (3, .int (f_X0_kindOf_5 σ a1)), (4, .int (f_X0_strengthOf_5 σ a1))]) dX4_worthOf_72 rfl (.tail _ (.tail _ (.head _))) qic_1 (by decide) rfl ?_
            refine mK_goto (tgt := 126) dX4_worthOf_75 (by decide) ?_
            refine mK_iload_n dX4_worthOf_126 rfl rfl (.tail _ (.tail _ (.head _))) ?_
            exact mK_iret dX4_worthOf_127 rfl (by rw [(show (f_X4_worthOf_16 σ a1) = ((-1) + 1) from by unfold f_X4_worthOf_16; exact ((if_neg c1).trans ((if_neg c14).trans ((if_neg c19).trans ((if_pos c21).trans rfl)))))] at hQ; exact hQ)
      · refine mK_iload_n dX4_worthOf_51 rfl rfl (.tail _ (.tail _ (.head _))) ?_
        refine mK_iload dX4_worthOf_52 rfl (.tail _ (.tail _ (.tail _ (.tail _ (.head _))))) ?_
        refine mK_iadd dX4_worthOf_54 rfl ?_
        refine ru_istore_n (lv1 := [(0, .ref 16), (1, .int a1), (2, .int ((-1) + (f_X0_strengthOf_5 σ a1))), (3, .int (f_X0_kindOf_5 σ a1)), (4, .int (f_X0_strengthOf_5 σ a1))]) dX4_worthOf_55 rfl rfl (by decide) rfl ?_
        refine mK_goto (tgt := 126) dX4_worthOf_56 (by decide) ?_
        refine mK_iload_n dX4_worthOf_126 rfl rfl (.tail _ (.tail _ (.head _))) ?_
        exact mK_iret dX4_worthOf_127 rfl (by rw [(show (f_X4_worthOf_16 σ a1) = ((-1) + (f_X0_strengthOf_5 σ a1)) from by unfold f_X4_worthOf_16; exact ((if_neg c1).trans ((if_neg c14).trans ((if_pos c19).trans rfl))))] at hQ; exact hQ)
def f_X4_worthOf_18 (σ : mS) (a1 : Int32) : Int32 := if ((σ.2.1 18 2) &&& (f_X7_bit σ a1)) = 0 then (if (f_X4_isIn_18 σ a1) = 0 then (if (f_X4_isOut_18 σ a1) = 0 then (if (f_X0_kindOf_5 σ a1) = 0 then (0 + ((f_X0_strengthOf_5 σ a1) / 2)) else 0) else 0) else (if (f_X0_kindOf_5 σ a1) = 0 then (0 + (f_X0_strengthOf_5 σ a1)) else (if (f_X0_kindOf_5 σ a1) = 2 then (0 + 1) else (if (f_X0_isStrongAttack_5 σ a1) = 0 then (if (f_X4_isOut_18 σ a1) = 0 then 0 else 0) else (0 + ((f_X0_strengthOf_5 σ a1) / 2)))))) else (if (f_X4_isIn_18 σ a1) = 0 then (if (f_X4_isOut_18 σ a1) = 0 then (if (f_X0_kindOf_5 σ a1) = 0 then ((-1) + ((f_X0_strengthOf_5 σ a1) / 2)) else (-1)) else (-1)) else (if (f_X0_kindOf_5 σ a1) = 0 then ((-1) + (f_X0_strengthOf_5 σ a1)) else (if (f_X0_kindOf_5 σ a1) = 2 then ((-1) + 1) else (if (f_X0_isStrongAttack_5 σ a1) = 0 then (if (f_X4_isOut_18 σ a1) = 0 then (-1) else (-1)) else ((-1) + ((f_X0_strengthOf_5 σ a1) / 2))))))
set_option maxRecDepth 20000 in
theorem S_X4_worthOf_18 {Γ : Nat × (Nat → Int32)} {d : Nat} {Q : mQ} {σ : mS} (a1 : Int32) (hQ : Q (.inl (some (.int (f_X4_worthOf_18 σ a1)))) 60 mSH σ) : mCall Γ M_X4_worthOf (d + 3) 0 0 [.ref 18, .int a1] 60 mSH σ Q := by
  refine mCall_of rfl (by decide) (Nat.le_of_ble_eq_true rfl) (mOkC (mOk_lo (Nat.le_of_ble_eq_true rfl)) (mOkC mOk_i mOkN)) ?_
  show mK Γ M_X4_worthOf (d + 3) Q 60 0 0 0 [(0, .ref 18), (1, .int a1)] [] 60 mSH σ
  refine mK_aload_n dX4_worthOf_0 rfl rfl (.head _) ?_
  refine ru_getL (k := 2) (ci := 3) dX4_worthOf_1 rfl rfl kw_202 ?_
  refine mK_iload_n dX4_worthOf_4 rfl rfl (.tail _ (.head _)) ?_
  refine mK_invSN (J := M_X7_bit) (k := 1) (as := [.int a1]) (st := [.long (σ.2.1 18 2)]) (c1 := 0) (s1 := 0) dX4_worthOf_5 rfl jw_X7_bit jn_X7_bit rfl (Nat.le_of_ble_eq_true rfl) (Nat.zero_le _) (Nat.zero_le _) rfl kn_611 kw_612 ?_
  refine S_X7_bit a1 ?_
  show mK Γ M_X4_worthOf (d + 3) Q 60 0 0 8 [(0, .ref 18), (1, .int a1)] [.long (f_X7_bit σ a1), .long (σ.2.1 18 2)] 60 mSH σ
  refine mK_land dX4_worthOf_8 rfl ?_
  refine mK_lconst dX4_worthOf_9 rfl (v := 0) rfl ?_
  refine ru_lif_eq (tgt := 18) dX4_worthOf_10 rfl dX4_worthOf_11 rfl (by decide) (fun c1 => ?_) (fun c1 => ?_)
  · refine mK_iconst dX4_worthOf_18 rfl qic_0 ?_
    refine ru_istore_n (lv1 := [(0, .ref 18), (1, .int a1), (2, .int 0)]) dX4_worthOf_19 rfl rfl (by decide) rfl ?_
    refine mK_aload_n dX4_worthOf_20 rfl rfl (.head _) ?_
    refine ru_getR (k := 0) (ci := 3) (a := 5) dX4_worthOf_21 rfl rfl rfl kw_200 ?_
    refine mK_iload_n dX4_worthOf_24 rfl rfl (.tail _ (.head _)) ?_
    refine mK_invV (J := M_X0_kindOf) (k := 1) (as := [.int a1]) (st := []) (c1 := 0) (s1 := 0) dX4_worthOf_25 rfl jw_X0_kindOf jn_X0_kindOf rfl (Nat.le_of_ble_eq_true rfl) (Nat.zero_le _) (Nat.zero_le _) rfl kw_712 kw_570 kw_571 (b := 5) (Nat.le_of_ble_eq_true rfl) (Nat.le_of_ble_eq_true rfl) rfl ?_
    refine S_X0_kindOf_5 a1 ?_
    show mK Γ M_X4_worthOf (d + 3) Q 60 0 0 28 [(0, .ref 18), (1, .int a1), (2, .int 0)] [.int (f_X0_kindOf_5 σ a1)] 60 mSH σ
    refine ru_istore_n (lv1 := [(0, .ref 18), (1, .int a1), (2, .int 0), (3, .int (f_X0_kindOf_5 σ a1))]) dX4_worthOf_28 rfl rfl (by decide) rfl ?_
    refine mK_aload_n dX4_worthOf_29 rfl rfl (.head _) ?_
    refine ru_getR (k := 0) (ci := 3) (a := 5) dX4_worthOf_30 rfl rfl rfl kw_200 ?_
    refine mK_iload_n dX4_worthOf_33 rfl rfl (.tail _ (.head _)) ?_
    refine mK_invV (J := M_X0_strengthOf) (k := 1) (as := [.int a1]) (st := []) (c1 := 0) (s1 := 0) dX4_worthOf_34 rfl jw_X0_strengthOf jn_X0_strengthOf rfl (Nat.le_of_ble_eq_true rfl) (Nat.zero_le _) (Nat.zero_le _) rfl kw_713 kw_562 kw_563 (b := 5) (Nat.le_of_ble_eq_true rfl) (Nat.le_of_ble_eq_true rfl) rfl ?_
    refine S_X0_strengthOf_5 a1 ?_
    show mK Γ M_X4_worthOf (d + 3) Q 60 0 0 37 [(0, .ref 18), (1, .int a1), (2, .int 0), (3, .int (f_X0_kindOf_5 σ a1))] [.int (f_X0_strengthOf_5 σ a1)] 60 mSH σ
    refine ru_istore (lv1 := [(0, .ref 18), (1, .int a1), (2, .int 0), (3, .int (f_X0_kindOf_5 σ a1)), (4, .int (f_X0_strengthOf_5 σ a1))]) dX4_worthOf_37 rfl (by decide) rfl ?_
    refine mK_aload_n dX4_worthOf_39 rfl rfl (.head _) ?_
    refine mK_iload_n dX4_worthOf_40 rfl rfl (.tail _ (.head _)) ?_
    refine mK_invV (J := M_X4_isIn) (k := 1) (as := [.int a1]) (st := []) (c1 := 0) (s1 := 0) dX4_worthOf_41 rfl jw_X4_isIn jn_X4_isIn rfl (Nat.le_of_ble_eq_true rfl) (Nat.zero_le _) (Nat.zero_le _) rfl kw_614 kw_615 kw_616 (b := 18) (Nat.le_of_ble_eq_true rfl) (Nat.le_of_ble_eq_true rfl) rfl ?_
    refine S_X4_isIn_18 a1 ?_
    show mK Γ M_X4_worthOf (d + 3) Q 60 0 0 44 [(0, .ref 18), (1, .int a1), (2, .int 0), (3, .int (f_X0_kindOf_5 σ a1)), (4, .int (f_X0_strengthOf_5 σ a1))] [.int (f_X4_isIn_18 σ a1)] 60 mSH σ
    refine mK_if_eq (tgt := 59) dX4_worthOf_44 rfl (by decide) (fun c2 => ?_) (fun c2 => ?_)
    · refine mK_aload_n dX4_worthOf_59 rfl rfl (.head _) ?_
      refine mK_iload_n dX4_worthOf_60 rfl rfl (.tail _ (.head _)) ?_
      refine mK_invV (J := M_X4_isIn) (k := 1) (as := [.int a1]) (st := []) (c1 := 0) (s1 := 0) dX4_worthOf_61 rfl jw_X4_isIn jn_X4_isIn rfl (Nat.le_of_ble_eq_true rfl) (Nat.zero_le _) (Nat.zero_le _) rfl kw_614 kw_615 kw_616 (b := 18) (Nat.le_of_ble_eq_true rfl) (Nat.le_of_ble_eq_true rfl) rfl ?_
      refine S_X4_isIn_18 a1 ?_
      show mK Γ M_X4_worthOf (d + 3) Q 60 0 0 64 [(0, .ref 18), (1, .int a1), (2, .int 0), (3, .int (f_X0_kindOf_5 σ a1)), (4, .int (f_X0_strengthOf_5 σ a1))] [.int (f_X4_isIn_18 σ a1)] 60 mSH σ
      refine mK_if_eq (tgt := 78) dX4_worthOf_64 rfl (by decide) (fun c3 => ?_) (fun c3 => ?_)
      · refine mK_aload_n dX4_worthOf_78 rfl rfl (.head _) ?_
        refine mK_iload_n dX4_worthOf_79 rfl rfl (.tail _ (.head _)) ?_
        refine mK_invV (J := M_X4_isIn) (k := 1) (as := [.int a1]) (st := []) (c1 := 0) (s1 := 0) dX4_worthOf_80 rfl jw_X4_isIn jn_X4_isIn rfl (Nat.le_of_ble_eq_true rfl) (Nat.zero_le _) (Nat.zero_le _) rfl kw_614 kw_615 kw_616 (b := 18) (Nat.le_of_ble_eq_true rfl) (Nat.le_of_ble_eq_true rfl) rfl ?_
        refine S_X4_isIn_18 a1 ?_
        show mK Γ M_X4_worthOf (d + 3) Q 60 0 0 83 [(0, .ref 18), (1, .int a1), (2, .int 0), (3, .int (f_X0_kindOf_5 σ a1)), (4, .int (f_X0_strengthOf_5 σ a1))] [.int (f_X4_isIn_18 σ a1)] 60 mSH σ
        refine mK_if_eq (tgt := 107) dX4_worthOf_83 rfl (by decide) (fun c4 => ?_) (fun c4 => ?_)
        · refine mK_aload_n dX4_worthOf_107 rfl rfl (.head _) ?_
          refine mK_iload_n dX4_worthOf_108 rfl rfl (.tail _ (.head _)) ?_
          refine mK_invV (J := M_X4_isOut) (k := 1) (as := [.int a1]) (st := []) (c1 := 0) (s1 := 0) dX4_worthOf_109 rfl jw_X4_isOut jn_X4_isOut rfl (Nat.le_of_ble_eq_true rfl) (Nat.zero_le _) (Nat.zero_le _) rfl kw_618 kw_619 kw_620 (b := 18) (Nat.le_of_ble_eq_true rfl) (Nat.le_of_ble_eq_true rfl) rfl ?_
          refine S_X4_isOut_18 a1 ?_
          show mK Γ M_X4_worthOf (d + 3) Q 60 0 0 112 [(0, .ref 18), (1, .int a1), (2, .int 0), (3, .int (f_X0_kindOf_5 σ a1)), (4, .int (f_X0_strengthOf_5 σ a1))] [.int (f_X4_isOut_18 σ a1)] 60 mSH σ
          refine ru_if_ne (tgt := 126) dX4_worthOf_112 rfl (by decide) (fun c5 => ?_) (fun c5 => ?_)
          · refine mK_iload_n dX4_worthOf_126 rfl rfl (.tail _ (.tail _ (.head _))) ?_
            exact mK_iret dX4_worthOf_127 rfl (by rw [(show (f_X4_worthOf_18 σ a1) = 0 from by unfold f_X4_worthOf_18; exact ((if_pos c1).trans ((if_pos c2).trans ((if_neg c5).trans rfl))))] at hQ; exact hQ)
          · refine mK_iload_n dX4_worthOf_115 rfl rfl (.tail _ (.tail _ (.tail _ (.head _)))) ?_
            refine ru_if_ne (tgt := 126) dX4_worthOf_116 rfl (by decide) (fun c6 => ?_) (fun c6 => ?_)
            · refine mK_iload_n dX4_worthOf_126 rfl rfl (.tail _ (.tail _ (.head _))) ?_
              exact mK_iret dX4_worthOf_127 rfl (by rw [(show (f_X4_worthOf_18 σ a1) = 0 from by unfold f_X4_worthOf_18; exact ((if_pos c1).trans ((if_pos c2).trans ((if_pos c5).trans ((if_neg c6).trans rfl)))))] at hQ; exact hQ)
            · refine mK_iload_n dX4_worthOf_119 rfl rfl (.tail _ (.tail _ (.head _))) ?_
              refine mK_iload dX4_worthOf_120 rfl (.tail _ (.tail _ (.tail _ (.tail _ (.head _))))) ?_
              refine mK_iconst dX4_worthOf_122 rfl qic_2 ?_
              refine mK_idiv dX4_worthOf_123 rfl (by decide) ?_
              refine mK_iadd dX4_worthOf_124 rfl ?_
              refine ru_istore_n (lv1 := [(0, .ref 18), (1, .int a1), (2, .int (0 + ((f_X0_strengthOf_5 σ a1) / 2))), (3, .int (f_X0_kindOf_5 σ a1)), (4, .int (f_X0_strengthOf_5 σ a1))]) dX4_worthOf_125 rfl rfl (by decide) rfl ?_
              refine mK_iload_n dX4_worthOf_126 rfl rfl (.tail _ (.tail _ (.head _))) ?_
              exact mK_iret dX4_worthOf_127 rfl (by rw [(show (f_X4_worthOf_18 σ a1) = (0 + ((f_X0_strengthOf_5 σ a1) / 2)) from by unfold f_X4_worthOf_18; exact ((if_pos c1).trans ((if_pos c2).trans ((if_pos c5).trans ((if_pos c6).trans rfl)))))] at hQ; exact hQ)
        · exact absurd c2 c4
      · exact absurd c2 c3
    · refine mK_iload_n dX4_worthOf_47 rfl rfl (.tail _ (.tail _ (.tail _ (.head _)))) ?_
      refine ru_if_ne (tgt := 59) dX4_worthOf_48 rfl (by decide) (fun c7 => ?_) (fun c7 => ?_)
      · refine mK_aload_n dX4_worthOf_59 rfl rfl (.head _) ?_
        refine mK_iload_n dX4_worthOf_60 rfl rfl (.tail _ (.head _)) ?_
        refine mK_invV (J := M_X4_isIn) (k := 1) (as := [.int a1]) (st := []) (c1 := 0) (s1 := 0) dX4_worthOf_61 rfl jw_X4_isIn jn_X4_isIn rfl (Nat.le_of_ble_eq_true rfl) (Nat.zero_le _) (Nat.zero_le _) rfl kw_614 kw_615 kw_616 (b := 18) (Nat.le_of_ble_eq_true rfl) (Nat.le_of_ble_eq_true rfl) rfl ?_
        refine S_X4_isIn_18 a1 ?_
        show mK Γ M_X4_worthOf (d + 3) Q 60 0 0 64 [(0, .ref 18), (1, .int a1), (2, .int 0), (3, .int (f_X0_kindOf_5 σ a1)), (4, .int (f_X0_strengthOf_5 σ a1))] [.int (f_X4_isIn_18 σ a1)] 60 mSH σ
        refine mK_if_eq (tgt := 78) dX4_worthOf_64 rfl (by decide) (fun c8 => ?_) (fun c8 => ?_)
        · exact absurd c8 c2
        · refine mK_iload_n dX4_worthOf_67 rfl rfl (.tail _ (.tail _ (.tail _ (.head _)))) ?_
          refine mK_iconst dX4_worthOf_68 rfl qic_2 ?_
          refine ru_icmp_ne (tgt := 78) dX4_worthOf_69 rfl (by decide) (fun c9 => ?_) (fun c9 => ?_)
          · refine mK_aload_n dX4_worthOf_78 rfl rfl (.head _) ?_
            refine mK_iload_n dX4_worthOf_79 rfl rfl (.tail _ (.head _)) ?_
            refine mK_invV (J := M_X4_isIn) (k := 1) (as := [.int a1]) (st := []) (c1 := 0) (s1 := 0) dX4_worthOf_80 rfl jw_X4_isIn jn_X4_isIn rfl (Nat.le_of_ble_eq_true rfl) (Nat.zero_le _) (Nat.zero_le _) rfl kw_614 kw_615 kw_616 (b := 18) (Nat.le_of_ble_eq_true rfl) (Nat.le_of_ble_eq_true rfl) rfl ?_
            refine S_X4_isIn_18 a1 ?_
            show mK Γ M_X4_worthOf (d + 3) Q 60 0 0 83 [(0, .ref 18), (1, .int a1), (2, .int 0), (3, .int (f_X0_kindOf_5 σ a1)), (4, .int (f_X0_strengthOf_5 σ a1))] [.int (f_X4_isIn_18 σ a1)] 60 mSH σ
            refine mK_if_eq (tgt := 107) dX4_worthOf_83 rfl (by decide) (fun c10 => ?_) (fun c10 => ?_)
            · exact absurd c10 c2
            · refine mK_aload_n dX4_worthOf_86 rfl rfl (.head _) ?_
              refine ru_getR (k := 0) (ci := 3) (a := 5) dX4_worthOf_87 rfl rfl rfl kw_200 ?_
              refine mK_iload_n dX4_worthOf_90 rfl rfl (.tail _ (.head _)) ?_
              refine mK_invV (J := M_X0_isStrongAttack) (k := 1) (as := [.int a1]) (st := []) (c1 := 0) (s1 := 0) dX4_worthOf_91 rfl jw_X0_isStrongAttack jn_X0_isStrongAttack rfl (Nat.le_of_ble_eq_true rfl) (Nat.zero_le _) (Nat.zero_le _) rfl kw_603 kw_604 kw_605 (b := 5) (Nat.le_of_ble_eq_true rfl) (Nat.le_of_ble_eq_true rfl) rfl ?_
              refine S_X0_isStrongAttack_5 a1 ?_
              show mK Γ M_X4_worthOf (d + 3) Q 60 0 0 94 [(0, .ref 18), (1, .int a1), (2, .int 0), (3, .int (f_X0_kindOf_5 σ a1)), (4, .int (f_X0_strengthOf_5 σ a1))] [.int (f_X0_isStrongAttack_5 σ a1)] 60 mSH σ
              refine mK_if_eq (tgt := 107) dX4_worthOf_94 rfl (by decide) (fun c11 => ?_) (fun c11 => ?_)
              · refine mK_aload_n dX4_worthOf_107 rfl rfl (.head _) ?_
                refine mK_iload_n dX4_worthOf_108 rfl rfl (.tail _ (.head _)) ?_
                refine mK_invV (J := M_X4_isOut) (k := 1) (as := [.int a1]) (st := []) (c1 := 0) (s1 := 0) dX4_worthOf_109 rfl jw_X4_isOut jn_X4_isOut rfl (Nat.le_of_ble_eq_true rfl) (Nat.zero_le _) (Nat.zero_le _) rfl kw_618 kw_619 kw_620 (b := 18) (Nat.le_of_ble_eq_true rfl) (Nat.le_of_ble_eq_true rfl) rfl ?_
                refine S_X4_isOut_18 a1 ?_
                show mK Γ M_X4_worthOf (d + 3) Q 60 0 0 112 [(0, .ref 18), (1, .int a1), (2, .int 0), (3, .int (f_X0_kindOf_5 σ a1)), (4, .int (f_X0_strengthOf_5 σ a1))] [.int (f_X4_isOut_18 σ a1)] 60 mSH σ
                refine ru_if_ne (tgt := 126) dX4_worthOf_112 rfl (by decide) (fun c12 => ?_) (fun c12 => ?_)
                · refine mK_iload_n dX4_worthOf_126 rfl rfl (.tail _ (.tail _ (.head _))) ?_
                  exact mK_iret dX4_worthOf_127 rfl (by rw [(show (f_X4_worthOf_18 σ a1) = 0 from by unfold f_X4_worthOf_18; exact ((if_pos c1).trans ((if_neg c2).trans ((if_neg c7).trans ((if_neg c9).trans ((if_pos c11).trans ((if_neg c12).trans rfl)))))))] at hQ; exact hQ)
                · refine mK_iload_n dX4_worthOf_115 rfl rfl (.tail _ (.tail _ (.tail _ (.head _)))) ?_
                  refine ru_if_ne (tgt := 126) dX4_worthOf_116 rfl (by decide) (fun c13 => ?_) (fun c13 => ?_)
                  · refine mK_iload_n dX4_worthOf_126 rfl rfl (.tail _ (.tail _ (.head _))) ?_
                    exact mK_iret dX4_worthOf_127 rfl (by rw [(show (f_X4_worthOf_18 σ a1) = 0 from by unfold f_X4_worthOf_18; exact ((if_pos c1).trans ((if_neg c2).trans ((if_neg c7).trans ((if_neg c9).trans ((if_pos c11).trans ((if_pos c12).trans rfl)))))))] at hQ; exact hQ)
                  · exact absurd c13 c7
              · refine mK_iload_n dX4_worthOf_97 rfl rfl (.tail _ (.tail _ (.head _))) ?_
                refine mK_iload dX4_worthOf_98 rfl (.tail _ (.tail _ (.tail _ (.tail _ (.head _))))) ?_
                refine mK_iconst dX4_worthOf_100 rfl qic_2 ?_
                refine mK_idiv dX4_worthOf_101 rfl (by decide) ?_
                refine mK_iadd dX4_worthOf_102 rfl ?_
                refine ru_istore_n (lv1 := [(0, .ref 18), (1, .int a1), (2, .int (0 + ((f_X0_strengthOf_5 σ a1) / 2))), (3, .int (f_X0_kindOf_5 σ a1)), (4, .int (f_X0_strengthOf_5 σ a1))]) dX4_worthOf_103 rfl rfl (by decide) rfl ?_
                refine mK_goto (tgt := 126) dX4_worthOf_104 (by decide) ?_
                refine mK_iload_n dX4_worthOf_126 rfl rfl (.tail _ (.tail _ (.head _))) ?_
                exact mK_iret dX4_worthOf_127 rfl (by rw [(show (f_X4_worthOf_18 σ a1) = (0 + ((f_X0_strengthOf_5 σ a1) / 2)) from by unfold f_X4_worthOf_18; exact ((if_pos c1).trans ((if_neg c2).trans ((if_neg c7).trans ((if_neg c9).trans ((if_neg c11).trans rfl))))))] at hQ; exact hQ)
          · refine ru_iinc (lv1 := [(0, .ref 18), (1, .int a1), (2, .int (0 + 1)), (3, .int (f_X0_kindOf_5 σ a1)), (4, .int (f_X0_strengthOf_5 σ a1))]) dX4_worthOf_72 rfl (.tail _ (.tail _ (.head _))) qic_1 (by decide) rfl ?_
            refine mK_goto (tgt := 126) dX4_worthOf_75 (by decide) ?_
            refine mK_iload_n dX4_worthOf_126 rfl rfl (.tail _ (.tail _ (.head _))) ?_
            exact mK_iret dX4_worthOf_127 rfl (by rw [(show (f_X4_worthOf_18 σ a1) = (0 + 1) from by unfold f_X4_worthOf_18; exact ((if_pos c1).trans ((if_neg c2).trans ((if_neg c7).trans ((if_pos c9).trans rfl)))))] at hQ; exact hQ)
      · refine mK_iload_n dX4_worthOf_51 rfl rfl (.tail _ (.tail _ (.head _))) ?_
        refine mK_iload dX4_worthOf_52 rfl (.tail _ (.tail _ (.tail _ (.tail _ (.head _))))) ?_
        refine mK_iadd dX4_worthOf_54 rfl ?_
        refine ru_istore_n (lv1 := [(0, .ref 18), (1, .int a1), (2, .int (0 + (f_X0_strengthOf_5 σ a1))), (3, .int (f_X0_kindOf_5 σ a1)), (4, .int (f_X0_strengthOf_5 σ a1))]) dX4_worthOf_55 rfl rfl (by decide) rfl ?_
        refine mK_goto (tgt := 126) dX4_worthOf_56 (by decide) ?_
        refine mK_iload_n dX4_worthOf_126 rfl rfl (.tail _ (.tail _ (.head _))) ?_
        exact mK_iret dX4_worthOf_127 rfl (by rw [(show (f_X4_worthOf_18 σ a1) = (0 + (f_X0_strengthOf_5 σ a1)) from by unfold f_X4_worthOf_18; exact ((if_pos c1).trans ((if_neg c2).trans ((if_pos c7).trans rfl))))] at hQ; exact hQ)
  · refine mK_iconst dX4_worthOf_14 rfl qic_m1 ?_
    refine mK_goto (tgt := 19) dX4_worthOf_15 (by decide) ?_
    refine ru_istore_n (lv1 := [(0, .ref 18), (1, .int a1), (2, .int (-1))]) dX4_worthOf_19 rfl rfl (by decide) rfl ?_
    refine mK_aload_n dX4_worthOf_20 rfl rfl (.head _) ?_
    refine ru_getR (k := 0) (ci := 3) (a := 5) dX4_worthOf_21 rfl rfl rfl kw_200 ?_
    refine mK_iload_n dX4_worthOf_24 rfl rfl (.tail _ (.head _)) ?_
    refine mK_invV (J := M_X0_kindOf) (k := 1) (as := [.int a1]) (st := []) (c1 := 0) (s1 := 0) dX4_worthOf_25 rfl jw_X0_kindOf jn_X0_kindOf rfl (Nat.le_of_ble_eq_true rfl) (Nat.zero_le _) (Nat.zero_le _) rfl kw_712 kw_570 kw_571 (b := 5) (Nat.le_of_ble_eq_true rfl) (Nat.le_of_ble_eq_true rfl) rfl ?_
    refine S_X0_kindOf_5 a1 ?_
    show mK Γ M_X4_worthOf (d + 3) Q 60 0 0 28 [(0, .ref 18), (1, .int a1), (2, .int (-1))] [.int (f_X0_kindOf_5 σ a1)] 60 mSH σ
    refine ru_istore_n (lv1 := [(0, .ref 18), (1, .int a1), (2, .int (-1)), (3, .int (f_X0_kindOf_5 σ a1))]) dX4_worthOf_28 rfl rfl (by decide) rfl ?_
    refine mK_aload_n dX4_worthOf_29 rfl rfl (.head _) ?_
    refine ru_getR (k := 0) (ci := 3) (a := 5) dX4_worthOf_30 rfl rfl rfl kw_200 ?_
    refine mK_iload_n dX4_worthOf_33 rfl rfl (.tail _ (.head _)) ?_
    refine mK_invV (J := M_X0_strengthOf) (k := 1) (as := [.int a1]) (st := []) (c1 := 0) (s1 := 0) dX4_worthOf_34 rfl jw_X0_strengthOf jn_X0_strengthOf rfl (Nat.le_of_ble_eq_true rfl) (Nat.zero_le _) (Nat.zero_le _) rfl kw_713 kw_562 kw_563 (b := 5) (Nat.le_of_ble_eq_true rfl) (Nat.le_of_ble_eq_true rfl) rfl ?_
    refine S_X0_strengthOf_5 a1 ?_
    show mK Γ M_X4_worthOf (d + 3) Q 60 0 0 37 [(0, .ref 18), (1, .int a1), (2, .int (-1)), (3, .int (f_X0_kindOf_5 σ a1))] [.int (f_X0_strengthOf_5 σ a1)] 60 mSH σ
    refine ru_istore (lv1 := [(0, .ref 18), (1, .int a1), (2, .int (-1)), (3, .int (f_X0_kindOf_5 σ a1)), (4, .int (f_X0_strengthOf_5 σ a1))]) dX4_worthOf_37 rfl (by decide) rfl ?_
    refine mK_aload_n dX4_worthOf_39 rfl rfl (.head _) ?_
    refine mK_iload_n dX4_worthOf_40 rfl rfl (.tail _ (.head _)) ?_
    refine mK_invV (J := M_X4_isIn) (k := 1) (as := [.int a1]) (st := []) (c1 := 0) (s1 := 0) dX4_worthOf_41 rfl jw_X4_isIn jn_X4_isIn rfl (Nat.le_of_ble_eq_true rfl) (Nat.zero_le _) (Nat.zero_le _) rfl kw_614 kw_615 kw_616 (b := 18) (Nat.le_of_ble_eq_true rfl) (Nat.le_of_ble_eq_true rfl) rfl ?_
    refine S_X4_isIn_18 a1 ?_
    show mK Γ M_X4_worthOf (d + 3) Q 60 0 0 44 [(0, .ref 18), (1, .int a1), (2, .int (-1)), (3, .int (f_X0_kindOf_5 σ a1)), (4, .int (f_X0_strengthOf_5 σ a1))] [.int (f_X4_isIn_18 σ a1)] 60 mSH σ
    refine mK_if_eq (tgt := 59) dX4_worthOf_44 rfl (by decide) (fun c14 => ?_) (fun c14 => ?_)
    · refine mK_aload_n dX4_worthOf_59 rfl rfl (.head _) ?_
      refine mK_iload_n dX4_worthOf_60 rfl rfl (.tail _ (.head _)) ?_
      refine mK_invV (J := M_X4_isIn) (k := 1) (as := [.int a1]) (st := []) (c1 := 0) (s1 := 0) dX4_worthOf_61 rfl jw_X4_isIn jn_X4_isIn rfl (Nat.le_of_ble_eq_true rfl) (Nat.zero_le _) (Nat.zero_le _) rfl kw_614 kw_615 kw_616 (b := 18) (Nat.le_of_ble_eq_true rfl) (Nat.le_of_ble_eq_true rfl) rfl ?_
      refine S_X4_isIn_18 a1 ?_
      show mK Γ M_X4_worthOf (d + 3) Q 60 0 0 64 [(0, .ref 18), (1, .int a1), (2, .int (-1)), (3, .int (f_X0_kindOf_5 σ a1)), (4, .int (f_X0_strengthOf_5 σ a1))] [.int (f_X4_isIn_18 σ a1)] 60 mSH σ
      refine mK_if_eq (tgt := 78) dX4_worthOf_64 rfl (by decide) (fun c15 => ?_) (fun c15 => ?_)
      · refine mK_aload_n dX4_worthOf_78 rfl rfl (.head _) ?_
        refine mK_iload_n dX4_worthOf_79 rfl rfl (.tail _ (.head _)) ?_
        refine mK_invV (J := M_X4_isIn) (k := 1) (as := [.int a1]) (st := []) (c1 := 0) (s1 := 0) dX4_worthOf_80 rfl jw_X4_isIn jn_X4_isIn rfl (Nat.le_of_ble_eq_true rfl) (Nat.zero_le _) (Nat.zero_le _) rfl kw_614 kw_615 kw_616 (b := 18) (Nat.le_of_ble_eq_true rfl) (Nat.le_of_ble_eq_true rfl) rfl ?_
        refine S_X4_isIn_18 a1 ?_
        show mK Γ M_X4_worthOf (d + 3) Q 60 0 0 83 [(0, .ref 18), (1, .int a1), (2, .int (-1)), (3, .int (f_X0_kindOf_5 σ a1)), (4, .int (f_X0_strengthOf_5 σ a1))] [.int (f_X4_isIn_18 σ a1)] 60 mSH σ
        refine mK_if_eq (tgt := 107) dX4_worthOf_83 rfl (by decide) (fun c16 => ?_) (fun c16 => ?_)
        · refine mK_aload_n dX4_worthOf_107 rfl rfl (.head _) ?_
          refine mK_iload_n dX4_worthOf_108 rfl rfl (.tail _ (.head _)) ?_
          refine mK_invV (J := M_X4_isOut) (k := 1) (as := [.int a1]) (st := []) (c1 := 0) (s1 := 0) dX4_worthOf_109 rfl jw_X4_isOut jn_X4_isOut rfl (Nat.le_of_ble_eq_true rfl) (Nat.zero_le _) (Nat.zero_le _) rfl kw_618 kw_619 kw_620 (b := 18) (Nat.le_of_ble_eq_true rfl) (Nat.le_of_ble_eq_true rfl) rfl ?_
          refine S_X4_isOut_18 a1 ?_
          show mK Γ M_X4_worthOf (d + 3) Q 60 0 0 112 [(0, .ref 18), (1, .int a1), (2, .int (-1)), (3, .int (f_X0_kindOf_5 σ a1)), (4, .int (f_X0_strengthOf_5 σ a1))] [.int (f_X4_isOut_18 σ a1)] 60 mSH σ
          refine ru_if_ne (tgt := 126) dX4_worthOf_112 rfl (by decide) (fun c17 => ?_) (fun c17 => ?_)
          · refine mK_iload_n dX4_worthOf_126 rfl rfl (.tail _ (.tail _ (.head _))) ?_
            exact mK_iret dX4_worthOf_127 rfl (by rw [(show (f_X4_worthOf_18 σ a1) = (-1) from by unfold f_X4_worthOf_18; exact ((if_neg c1).trans ((if_pos c14).trans ((if_neg c17).trans rfl))))] at hQ; exact hQ)
          · refine mK_iload_n dX4_worthOf_115 rfl rfl (.tail _ (.tail _ (.tail _ (.head _)))) ?_
            refine ru_if_ne (tgt := 126) dX4_worthOf_116 rfl (by decide) (fun c18 => ?_) (fun c18 => ?_)
            · refine mK_iload_n dX4_worthOf_126 rfl rfl (.tail _ (.tail _ (.head _))) ?_
              exact mK_iret dX4_worthOf_127 rfl (by rw [(show (f_X4_worthOf_18 σ a1) = (-1) from by unfold f_X4_worthOf_18; exact ((if_neg c1).trans ((if_pos c14).trans ((if_pos c17).trans ((if_neg c18).trans rfl)))))] at hQ; exact hQ)
            · refine mK_iload_n dX4_worthOf_119 rfl rfl (.tail _ (.tail _ (.head _))) ?_
              refine mK_iload dX4_worthOf_120 rfl (.tail _ (.tail _ (.tail _ (.tail _ (.head _))))) ?_
              refine mK_iconst dX4_worthOf_122 rfl qic_2 ?_
              refine mK_idiv dX4_worthOf_123 rfl (by decide) ?_
              refine mK_iadd dX4_worthOf_124 rfl ?_
              refine ru_istore_n (lv1 := [(0, .ref 18), (1, .int a1), (2, .int ((-1) + ((f_X0_strengthOf_5 σ a1) / 2))), (3, .int (f_X0_kindOf_5 σ a1)), (4, .int (f_X0_strengthOf_5 σ a1))]) dX4_worthOf_125 rfl rfl (by decide) rfl ?_
              refine mK_iload_n dX4_worthOf_126 rfl rfl (.tail _ (.tail _ (.head _))) ?_
              exact mK_iret dX4_worthOf_127 rfl (by rw [(show (f_X4_worthOf_18 σ a1) = ((-1) + ((f_X0_strengthOf_5 σ a1) / 2)) from by unfold f_X4_worthOf_18; exact ((if_neg c1).trans ((if_pos c14).trans ((if_pos c17).trans ((if_pos c18).trans rfl)))))] at hQ; exact hQ)
        · exact absurd c14 c16
      · exact absurd c14 c15
    · refine mK_iload_n dX4_worthOf_47 rfl rfl (.tail _ (.tail _ (.tail _ (.head _)))) ?_
      refine ru_if_ne (tgt := 59) dX4_worthOf_48 rfl (by decide) (fun c19 => ?_) (fun c19 => ?_)
      · refine mK_aload_n dX4_worthOf_59 rfl rfl (.head _) ?_
        refine mK_iload_n dX4_worthOf_60 rfl rfl (.tail _ (.head _)) ?_
        refine mK_invV (J := M_X4_isIn) (k := 1) (as := [.int a1]) (st := []) (c1 := 0) (s1 := 0) dX4_worthOf_61 rfl jw_X4_isIn jn_X4_isIn rfl (Nat.le_of_ble_eq_true rfl) (Nat.zero_le _) (Nat.zero_le _) rfl kw_614 kw_615 kw_616 (b := 18) (Nat.le_of_ble_eq_true rfl) (Nat.le_of_ble_eq_true rfl) rfl ?_
        refine S_X4_isIn_18 a1 ?_
        show mK Γ M_X4_worthOf (d + 3) Q 60 0 0 64 [(0, .ref 18), (1, .int a1), (2, .int (-1)), (3, .int (f_X0_kindOf_5 σ a1)), (4, .int (f_X0_strengthOf_5 σ a1))] [.int (f_X4_isIn_18 σ a1)] 60 mSH σ
        refine mK_if_eq (tgt := 78) dX4_worthOf_64 rfl (by decide) (fun c20 => ?_) (fun c20 => ?_)
        · exact absurd c20 c14
        · refine mK_iload_n dX4_worthOf_67 rfl rfl (.tail _ (.tail _ (.tail _ (.head _)))) ?_
          refine mK_iconst dX4_worthOf_68 rfl qic_2 ?_
          refine ru_icmp_ne (tgt := 78) dX4_worthOf_69 rfl (by decide) (fun c21 => ?_) (fun c21 => ?_)
          · refine mK_aload_n dX4_worthOf_78 rfl rfl (.head _) ?_
            refine mK_iload_n dX4_worthOf_79 rfl rfl (.tail _ (.head _)) ?_
            refine mK_invV (J := M_X4_isIn) (k := 1) (as := [.int a1]) (st := []) (c1 := 0) (s1 := 0) dX4_worthOf_80 rfl jw_X4_isIn jn_X4_isIn rfl (Nat.le_of_ble_eq_true rfl) (Nat.zero_le _) (Nat.zero_le _) rfl kw_614 kw_615 kw_616 (b := 18) (Nat.le_of_ble_eq_true rfl) (Nat.le_of_ble_eq_true rfl) rfl ?_
            refine S_X4_isIn_18 a1 ?_
            show mK Γ M_X4_worthOf (d + 3) Q 60 0 0 83 [(0, .ref 18), (1, .int a1), (2, .int (-1)), (3, .int (f_X0_kindOf_5 σ a1)), (4, .int (f_X0_strengthOf_5 σ a1))] [.int (f_X4_isIn_18 σ a1)] 60 mSH σ
            refine mK_if_eq (tgt := 107) dX4_worthOf_83 rfl (by decide) (fun c22 => ?_) (fun c22 => ?_)
            · exact absurd c22 c14
            · refine mK_aload_n dX4_worthOf_86 rfl rfl (.head _) ?_
              refine ru_getR (k := 0) (ci := 3) (a := 5) dX4_worthOf_87 rfl rfl rfl kw_200 ?_
              refine mK_iload_n dX4_worthOf_90 rfl rfl (.tail _ (.head _)) ?_
              refine mK_invV (J := M_X0_isStrongAttack) (k := 1) (as := [.int a1]) (st := []) (c1 := 0) (s1 := 0) dX4_worthOf_91 rfl jw_X0_isStrongAttack jn_X0_isStrongAttack rfl (Nat.le_of_ble_eq_true rfl) (Nat.zero_le _) (Nat.zero_le _) rfl kw_603 kw_604 kw_605 (b := 5) (Nat.le_of_ble_eq_true rfl) (Nat.le_of_ble_eq_true rfl) rfl ?_
              refine S_X0_isStrongAttack_5 a1 ?_
              show mK Γ M_X4_worthOf (d + 3) Q 60 0 0 94 [(0, .ref 18), (1, .int a1), (2, .int (-1)), (3, .int (f_X0_kindOf_5 σ a1)), (4, .int (f_X0_strengthOf_5 σ a1))] [.int (f_X0_isStrongAttack_5 σ a1)] 60 mSH σ
              refine mK_if_eq (tgt := 107) dX4_worthOf_94 rfl (by decide) (fun c23 => ?_) (fun c23 => ?_)
              · refine mK_aload_n dX4_worthOf_107 rfl rfl (.head _) ?_
                refine mK_iload_n dX4_worthOf_108 rfl rfl (.tail _ (.head _)) ?_
                refine mK_invV (J := M_X4_isOut) (k := 1) (as := [.int a1]) (st := []) (c1 := 0) (s1 := 0) dX4_worthOf_109 rfl jw_X4_isOut jn_X4_isOut rfl (Nat.le_of_ble_eq_true rfl) (Nat.zero_le _) (Nat.zero_le _) rfl kw_618 kw_619 kw_620 (b := 18) (Nat.le_of_ble_eq_true rfl) (Nat.le_of_ble_eq_true rfl) rfl ?_
                refine S_X4_isOut_18 a1 ?_
                show mK Γ M_X4_worthOf (d + 3) Q 60 0 0 112 [(0, .ref 18), (1, .int a1), (2, .int (-1)), (3, .int (f_X0_kindOf_5 σ a1)), (4, .int (f_X0_strengthOf_5 σ a1))] [.int (f_X4_isOut_18 σ a1)] 60 mSH σ
                refine ru_if_ne (tgt := 126) dX4_worthOf_112 rfl (by decide) (fun c24 => ?_) (fun c24 => ?_)
                · refine mK_iload_n dX4_worthOf_126 rfl rfl (.tail _ (.tail _ (.head _))) ?_
                  exact mK_iret dX4_worthOf_127 rfl (by rw [(show (f_X4_worthOf_18 σ a1) = (-1) from by unfold f_X4_worthOf_18; exact ((if_neg c1).trans ((if_neg c14).trans ((if_neg c19).trans ((if_neg c21).trans ((if_pos c23).trans ((if_neg c24).trans rfl)))))))] at hQ; exact hQ)
                · refine mK_iload_n dX4_worthOf_115 rfl rfl (.tail _ (.tail _ (.tail _ (.head _)))) ?_
                  refine ru_if_ne (tgt := 126) dX4_worthOf_116 rfl (by decide) (fun c25 => ?_) (fun c25 => ?_)
                  · refine mK_iload_n dX4_worthOf_126 rfl rfl (.tail _ (.tail _ (.head _))) ?_
                    exact mK_iret dX4_worthOf_127 rfl (by rw [(show (f_X4_worthOf_18 σ a1) = (-1) from by unfold f_X4_worthOf_18; exact ((if_neg c1).trans ((if_neg c14).trans ((if_neg c19).trans ((if_neg c21).trans ((if_pos c23).trans ((if_pos c24).trans rfl)))))))] at hQ; exact hQ)
                  · exact absurd c25 c19
              · refine mK_iload_n dX4_worthOf_97 rfl rfl (.tail _ (.tail _ (.head _))) ?_
                refine mK_iload dX4_worthOf_98 rfl (.tail _ (.tail _ (.tail _ (.tail _ (.head _))))) ?_
                refine mK_iconst dX4_worthOf_100 rfl qic_2 ?_
                refine mK_idiv dX4_worthOf_101 rfl (by decide) ?_
                refine mK_iadd dX4_worthOf_102 rfl ?_
                refine ru_istore_n (lv1 := [(0, .ref 18), (1, .int a1), (2, .int ((-1) + ((f_X0_strengthOf_5 σ a1) / 2))), (3, .int (f_X0_kindOf_5 σ a1)), (4, .int (f_X0_strengthOf_5 σ a1))]) dX4_worthOf_103 rfl rfl (by decide) rfl ?_
                refine mK_goto (tgt := 126) dX4_worthOf_104 (by decide) ?_
                refine mK_iload_n dX4_worthOf_126 rfl rfl (.tail _ (.tail _ (.head _))) ?_
                exact mK_iret dX4_worthOf_127 rfl (by rw [(show (f_X4_worthOf_18 σ a1) = ((-1) + ((f_X0_strengthOf_5 σ a1) / 2)) from by unfold f_X4_worthOf_18; exact ((if_neg c1).trans ((if_neg c14).trans ((if_neg c19).trans ((if_neg c21).trans ((if_neg c23).trans rfl))))))] at hQ; exact hQ)
          · refine ru_iinc (lv1 := [(0, .ref 18), (1, .int a1), (2, .int ((-1) + 1)), (3, .int (f_X0_kindOf_5 σ a1)), (4, .int (f_X0_strengthOf_5 σ a1))]) dX4_worthOf_72 rfl (.tail _ (.tail _ (.head _))) qic_1 (by decide) rfl ?_
            refine mK_goto (tgt := 126) dX4_worthOf_75 (by decide) ?_
            refine mK_iload_n dX4_worthOf_126 rfl rfl (.tail _ (.tail _ (.head _))) ?_
            exact mK_iret dX4_worthOf_127 rfl (by rw [(show (f_X4_worthOf_18 σ a1) = ((-1) + 1) from by unfold f_X4_worthOf_18; exact ((if_neg c1).trans ((if_neg c14).trans ((if_neg c19).trans ((if_pos c21).trans rfl)))))] at hQ; exact hQ)
      · refine mK_iload_n dX4_worthOf_51 rfl rfl (.tail _ (.tail _ (.head _))) ?_
        refine mK_iload dX4_worthOf_52 rfl (.tail _ (.tail _ (.tail _ (.tail _ (.head _))))) ?_
        refine mK_iadd dX4_worthOf_54 rfl ?_
        refine ru_istore_n (lv1 := [(0, .ref 18), (1, .int a1), (2, .int ((-1) + (f_X0_strengthOf_5 σ a1))), (3, .int (f_X0_kindOf_5 σ a1)), (4, .int (f_X0_strengthOf_5 σ a1))]) dX4_worthOf_55 rfl rfl (by decide) rfl ?_
        refine mK_goto (tgt := 126) dX4_worthOf_56 (by decide) ?_
        refine mK_iload_n dX4_worthOf_126 rfl rfl (.tail _ (.tail _ (.head _))) ?_
        exact mK_iret dX4_worthOf_127 rfl (by rw [(show (f_X4_worthOf_18 σ a1) = ((-1) + (f_X0_strengthOf_5 σ a1)) from by unfold f_X4_worthOf_18; exact ((if_neg c1).trans ((if_neg c14).trans ((if_pos c19).trans rfl))))] at hQ; exact hQ)
def f_X4_roundOf_16 (σ : mS) (a1 : Int32) : Int32 := if a1 < 0 then 0 else (if 40 ≤ a1 then 0 else (σ.1 17 (a1).toNatClampNeg))
set_option maxRecDepth 20000 in
theorem S_X4_roundOf_16 {Γ : Nat × (Nat → Int32)} {d : Nat} {Q : mQ} {σ : mS} (a1 : Int32) (hQ : Q (.inl (some (.int (f_X4_roundOf_16 σ a1)))) 60 mSH σ) : mCall Γ M_X4_roundOf (d + 1) 0 0 [.ref 16, .int a1] 60 mSH σ Q := by
  refine mCall_of rfl (by decide) (Nat.le_of_ble_eq_true rfl) (mOkC (mOk_lo (Nat.le_of_ble_eq_true rfl)) (mOkC mOk_i mOkN)) ?_
  show mK Γ M_X4_roundOf (d + 1) Q 60 0 0 0 [(0, .ref 16), (1, .int a1)] [] 60 mSH σ
  refine mK_iload_n dX4_roundOf_0 rfl rfl (.tail _ (.head _)) ?_
  refine mK_if_lt (tgt := 19) dX4_roundOf_1 rfl (by decide) (fun c1 => ?_) (fun c1 => ?_)
  · refine mK_iconst dX4_roundOf_19 rfl qic_0 ?_
    exact mK_iret dX4_roundOf_20 rfl (by rw [(show (f_X4_roundOf_16 σ a1) = 0 from by unfold f_X4_roundOf_16; exact ((if_pos c1).trans rfl))] at hQ; exact hQ)
  · refine mK_iload_n dX4_roundOf_4 rfl rfl (.tail _ (.head _)) ?_
    refine mK_bipush dX4_roundOf_5 rfl qbi_40 ?_
    refine mK_icmp_ge (tgt := 19) dX4_roundOf_7 rfl (by decide) (fun c2 => ?_) (fun c2 => ?_)
    · refine mK_iconst dX4_roundOf_19 rfl qic_0 ?_
      exact mK_iret dX4_roundOf_20 rfl (by rw [(show (f_X4_roundOf_16 σ a1) = 0 from by unfold f_X4_roundOf_16; exact ((if_neg c1).trans ((if_pos c2).trans rfl)))] at hQ; exact hQ)
    · refine mK_aload_n dX4_roundOf_10 rfl rfl (.head _) ?_
      refine ru_getR (k := 1) (ci := 3) (a := 17) dX4_roundOf_11 rfl rfl rfl kw_201 ?_
      refine mK_iload_n dX4_roundOf_14 rfl rfl (.tail _ (.head _)) ?_
      refine ru_iald (n := 40) dX4_roundOf_15 rfl rfl (vin_of (Int32.not_lt.mp c1) (Int32.not_le.mp c2) (by decide)) ?_
      refine mK_goto (tgt := 20) dX4_roundOf_16 (by decide) ?_
      exact mK_iret dX4_roundOf_20 rfl (by rw [(show (f_X4_roundOf_16 σ a1) = (σ.1 17 (a1).toNatClampNeg) from by unfold f_X4_roundOf_16; exact ((if_neg c1).trans ((if_neg c2).trans rfl)))] at hQ; exact hQ)
def f_X4_rounds_16 (σ : mS) : Int32 := (σ.1 16 5)
set_option maxRecDepth 20000 in
theorem S_X4_rounds_16 {Γ : Nat × (Nat → Int32)} {d : Nat} {Q : mQ} {σ : mS} (hQ : Q (.inl (some (.int (f_X4_rounds_16 σ)))) 60 mSH σ) : mCall Γ M_X4_rounds (d + 1) 0 0 [.ref 16] 60 mSH σ Q := by
  refine mCall_of rfl (by decide) (Nat.le_of_ble_eq_true rfl) (mOkC (mOk_lo (Nat.le_of_ble_eq_true rfl)) mOkN) ?_
  show mK Γ M_X4_rounds (d + 1) Q 60 0 0 0 [(0, .ref 16)] [] 60 mSH σ
  refine mK_aload_n dX4_rounds_0 rfl rfl (.head _) ?_
  refine ru_getI (k := 5) (ci := 3) dX4_rounds_1 rfl rfl kw_205 ?_
  exact mK_iret dX4_rounds_4 rfl (by rw [(show (f_X4_rounds_16 σ) = (σ.1 16 5) from rfl)] at hQ; exact hQ)
def f_X4_wordFor_16 (σ : mS) (a1 : Int32) : Nat := if (f_X4_isIn_16 σ a1) = 0 then (if (f_X4_isOut_16 σ a1) = 0 then 1016 else 1015) else 1014
set_option maxRecDepth 20000 in
theorem S_X4_wordFor_16 {Γ : Nat × (Nat → Int32)} {d : Nat} {Q : mQ} {σ : mS} (a1 : Int32) (hQ : Q (.inl (some (.ref (f_X4_wordFor_16 σ a1)))) 60 mSH σ) : mCall Γ M_X4_wordFor (d + 2) 0 0 [.ref 16, .int a1] 60 mSH σ Q := by
  refine mCall_of rfl (by decide) (Nat.le_of_ble_eq_true rfl) (mOkC (mOk_lo (Nat.le_of_ble_eq_true rfl)) (mOkC mOk_i mOkN)) ?_
  show mK Γ M_X4_wordFor (d + 2) Q 60 0 0 0 [(0, .ref 16), (1, .int a1)] [] 60 mSH σ
  refine mK_aload_n dX4_wordFor_0 rfl rfl (.head _) ?_
  refine mK_iload_n dX4_wordFor_1 rfl rfl (.tail _ (.head _)) ?_
  refine mK_invV (J := M_X4_isIn) (k := 1) (as := [.int a1]) (st := []) (c1 := 0) (s1 := 0) dX4_wordFor_2 rfl jw_X4_isIn jn_X4_isIn rfl (Nat.le_of_ble_eq_true rfl) (Nat.zero_le _) (Nat.zero_le _) rfl kw_614 kw_615 kw_616 (b := 16) (Nat.le_of_ble_eq_true rfl) (Nat.le_of_ble_eq_true rfl) rfl ?_
  refine S_X4_isIn_16 a1 ?_
  show mK Γ M_X4_wordFor (d + 2) Q 60 0 0 5 [(0, .ref 16), (1, .int a1)] [.int (f_X4_isIn_16 σ a1)] 60 mSH σ
  refine mK_if_eq (tgt := 14) dX4_wordFor_5 rfl (by decide) (fun c1 => ?_) (fun c1 => ?_)
  · refine mK_aload_n dX4_wordFor_14 rfl rfl (.head _) ?_
    refine mK_iload_n dX4_wordFor_15 rfl rfl (.tail _ (.head _)) ?_
    refine mK_invV (J := M_X4_isOut) (k := 1) (as := [.int a1]) (st := []) (c1 := 0) (s1 := 0) dX4_wordFor_16 rfl jw_X4_isOut jn_X4_isOut rfl (Nat.le_of_ble_eq_true rfl) (Nat.zero_le _) (Nat.zero_le _) rfl kw_618 kw_619 kw_620 (b := 16) (Nat.le_of_ble_eq_true rfl) (Nat.le_of_ble_eq_true rfl) rfl ?_
    refine S_X4_isOut_16 a1 ?_
    show mK Γ M_X4_wordFor (d + 2) Q 60 0 0 19 [(0, .ref 16), (1, .int a1)] [.int (f_X4_isOut_16 σ a1)] 60 mSH σ
    refine mK_if_eq (tgt := 28) dX4_wordFor_19 rfl (by decide) (fun c2 => ?_) (fun c2 => ?_)
    · refine mK_getE (i := 16) dX4_wordFor_28 rfl (by decide) kw_665 ?_
      exact mK_aret dX4_wordFor_31 (ty := .object "DebateHall$Kind") rfl (Or.inl ⟨_, rfl⟩) (by rw [(show (f_X4_wordFor_16 σ a1) = 1016 from by unfold f_X4_wordFor_16; exact ((if_pos c1).trans ((if_pos c2).trans rfl)))] at hQ; exact hQ)
    · refine mK_getE (i := 15) dX4_wordFor_22 rfl (by decide) kw_664 ?_
      refine mK_goto (tgt := 31) dX4_wordFor_25 (by decide) ?_
      exact mK_aret dX4_wordFor_31 (ty := .object "DebateHall$Kind") rfl (Or.inl ⟨_, rfl⟩) (by rw [(show (f_X4_wordFor_16 σ a1) = 1015 from by unfold f_X4_wordFor_16; exact ((if_pos c1).trans ((if_neg c2).trans rfl)))] at hQ; exact hQ)
  · refine mK_getE (i := 14) dX4_wordFor_8 rfl (by decide) kw_663 ?_
    refine mK_goto (tgt := 31) dX4_wordFor_11 (by decide) ?_
    exact mK_aret dX4_wordFor_31 (ty := .object "DebateHall$Kind") rfl (Or.inl ⟨_, rfl⟩) (by rw [(show (f_X4_wordFor_16 σ a1) = 1014 from by unfold f_X4_wordFor_16; exact ((if_neg c1).trans rfl))] at hQ; exact hQ)
def f_X5_sees_25 (σ : mS) (a1 : Nat) : Int32 := if (f_X6_kindAt_20 σ (σ.1 25 3)) = a1 then 1 else 0
set_option maxRecDepth 20000 in
theorem S_X5_sees_25 {Γ : Nat × (Nat → Int32)} {d : Nat} {Q : mQ} {σ : mS} (a1 : Nat) (ha_a1 : 1000 ≤ a1 ∧ a1 < 1028) (hs1 : ¬ ((σ.1 25 3) < 0) → ¬ ((σ.1 20 3) ≤ (σ.1 25 3)) → ¬ (400 < (σ.1 25 3)) → vp_in (σ.1 25 3) 401) (hs2 : ¬ ((σ.1 25 3) < 0) → ¬ ((σ.1 20 3) ≤ (σ.1 25 3)) → ¬ (400 < (σ.1 25 3)) → kRok σ 21 ((σ.1 25 3)).toNatClampNeg) (hs3 : 1000 ≤ (f_X6_kindAt_20 σ (σ.1 25 3)) ∧ (f_X6_kindAt_20 σ (σ.1 25 3)) < 1028) (hQ : Q (.inl (some (.int (f_X5_sees_25 σ a1)))) 60 mSH σ) : mCall Γ M_X5_sees (d + 2) 0 0 [.ref 25, .ref a1] 60 mSH σ Q := by
  refine mCall_of rfl (by decide) (Nat.le_of_ble_eq_true rfl) (mOkC (mOk_lo (Nat.le_of_ble_eq_true rfl)) (mOkC (mOk_hi ha_a1.1) mOkN)) ?_
  show mK Γ M_X5_sees (d + 2) Q 60 0 0 0 [(0, .ref 25), (1, .ref a1)] [] 60 mSH σ
  refine mK_aload_n dX5_sees_0 rfl rfl (.head _) ?_
  refine ru_getR (k := 0) (ci := 4) (a := 20) dX5_sees_1 rfl rfl rfl kw_262 ?_
  refine mK_aload_n dX5_sees_4 rfl rfl (.head _) ?_
  refine ru_getI (k := 3) (ci := 4) dX5_sees_5 rfl rfl kw_265 ?_
  refine mK_invV (J := M_X6_kindAt) (k := 1) (as := [.int (σ.1 25 3)]) (st := []) (c1 := 0) (s1 := 0) dX5_sees_8 rfl jw_X6_kindAt jn_X6_kindAt rfl (Nat.le_of_ble_eq_true rfl) (Nat.zero_le _) (Nat.zero_le _) rfl kw_484 kw_379 kw_380 (b := 20) (Nat.le_of_ble_eq_true rfl) (Nat.le_of_ble_eq_true rfl) rfl ?_
  refine S_X6_kindAt_20 (σ.1 25 3) hs1 hs2 ?_
  show mK Γ M_X5_sees (d + 2) Q 60 0 0 11 [(0, .ref 25), (1, .ref a1)] [.ref (f_X6_kindAt_20 σ (σ.1 25 3))] 60 mSH σ
  refine mK_aload_n dX5_sees_11 rfl rfl (.tail _ (.head _)) ?_
  refine ru_acmp_ne (tgt := 19) dX5_sees_12 rfl (by decide) hs3 ha_a1 (fun c1 => ?_) (fun c1 => ?_)
  · refine mK_iconst dX5_sees_15 rfl qic_1 ?_
    refine mK_goto (tgt := 20) dX5_sees_16 (by decide) ?_
    exact mK_zret dX5_sees_20 rfl (by decide) (by rw [(show (f_X5_sees_25 σ a1) = 1 from by unfold f_X5_sees_25; exact ((if_pos c1).trans rfl))] at hQ; exact hQ)
  · refine mK_iconst dX5_sees_19 rfl qic_0 ?_
    exact mK_zret dX5_sees_20 rfl (by decide) (by rw [(show (f_X5_sees_25 σ a1) = 0 from by unfold f_X5_sees_25; exact ((if_neg c1).trans rfl))] at hQ; exact hQ)
def g_X5_failIf_25 (σ : mS) (a1 : Int32) (a2 : Int32) : mS := if a1 = 0 then σ else (if (σ.1 25 4) = 0 then (mPI (mPI σ 25 4 a2) 25 5 (σ.1 25 3)) else σ)
set_option maxRecDepth 20000 in
theorem S_X5_failIf_25 {Γ : Nat × (Nat → Int32)} {d : Nat} {Q : mQ} {σ : mS} (a1 : Int32) (a2 : Int32) (hQ : Q (.inl none) 60 mSH (g_X5_failIf_25 σ a1 a2)) : mCall Γ M_X5_failIf (d + 1) 0 0 [.ref 25, .int a1, .int a2] 60 mSH σ Q := by
  refine mCall_of rfl (by decide) (Nat.le_of_ble_eq_true rfl) (mOkC (mOk_lo (Nat.le_of_ble_eq_true rfl)) (mOkC mOk_i (mOkC mOk_i mOkN))) ?_
  show mK Γ M_X5_failIf (d + 1) Q 60 0 0 0 [(0, .ref 25), (1, .int a1), (2, .int a2)] [] 60 mSH σ
  refine mK_iload_n dX5_failIf_0 rfl rfl (.tail _ (.head _)) ?_
  refine mK_if_eq (tgt := 24) dX5_failIf_1 rfl (by decide) (fun c1 => ?_) (fun c1 => ?_)
  · exact mK_vret dX5_failIf_24 rfl (by rw [(show (g_X5_failIf_25 σ a1 a2) = σ from by unfold g_X5_failIf_25; exact ((if_pos c1).trans rfl))] at hQ; exact hQ)
  · refine mK_aload_n dX5_failIf_4 rfl rfl (.head _) ?_
    refine ru_getI (k := 4) (ci := 4) dX5_failIf_5 rfl rfl kw_266 ?_
    refine ru_if_ne (tgt := 24) dX5_failIf_8 rfl (by decide) (fun c2 => ?_) (fun c2 => ?_)
    · exact mK_vret dX5_failIf_24 rfl (by rw [(show (g_X5_failIf_25 σ a1 a2) = σ from by unfold g_X5_failIf_25; exact ((if_neg c1).trans ((if_neg c2).trans rfl)))] at hQ; exact hQ)
    · refine mK_aload_n dX5_failIf_11 rfl rfl (.head _) ?_
      refine mK_iload_n dX5_failIf_12 rfl rfl (.tail _ (.tail _ (.head _))) ?_
      refine ru_putI (k := 4) (ci := 4) dX5_failIf_13 rfl rfl rfl kw_266 ?_
      refine mK_aload_n dX5_failIf_16 rfl rfl (.head _) ?_
      refine mK_aload_n dX5_failIf_17 rfl rfl (.head _) ?_
      refine ru_getI (k := 3) (ci := 4) dX5_failIf_18 rfl rfl kw_265 ?_
      refine ru_putI (k := 5) (ci := 4) dX5_failIf_21 rfl rfl rfl kw_267 ?_
      exact mK_vret dX5_failIf_24 rfl (by rw [(show (g_X5_failIf_25 σ a1 a2) = (mPI (mPI σ 25 4 a2) 25 5 (σ.1 25 3)) from by unfold g_X5_failIf_25; exact ((if_neg c1).trans ((if_pos c2).trans rfl)))] at hQ; exact hQ)
def f_X6_valueAt_20 (σ : mS) (a1 : Int32) : Int64 := if a1 < 0 then 0 else (if (σ.1 20 3) ≤ a1 then 0 else (if 400 < a1 then 0 else (σ.2.1 23 (a1).toNatClampNeg)))
set_option maxRecDepth 20000 in
theorem S_X6_valueAt_20 {Γ : Nat × (Nat → Int32)} {d : Nat} {Q : mQ} {σ : mS} (a1 : Int32) (hs1 : ¬ (a1 < 0) → ¬ ((σ.1 20 3) ≤ a1) → ¬ (400 < a1) → vp_in a1 401) (hQ : Q (.inl (some (.long (f_X6_valueAt_20 σ a1)))) 60 mSH σ) : mCall Γ M_X6_valueAt (d + 1) 0 0 [.ref 20, .int a1] 60 mSH σ Q := by
  refine mCall_of rfl (by decide) (Nat.le_of_ble_eq_true rfl) (mOkC (mOk_lo (Nat.le_of_ble_eq_true rfl)) (mOkC mOk_i mOkN)) ?_
  show mK Γ M_X6_valueAt (d + 1) Q 60 0 0 0 [(0, .ref 20), (1, .int a1)] [] 60 mSH σ
  refine mK_iload_n dX6_valueAt_0 rfl rfl (.tail _ (.head _)) ?_
  refine mK_if_lt (tgt := 28) dX6_valueAt_1 rfl (by decide) (fun c1 => ?_) (fun c1 => ?_)
  · refine mK_lconst dX6_valueAt_28 rfl (v := 0) rfl ?_
    exact mK_lret dX6_valueAt_29 rfl (by rw [(show (f_X6_valueAt_20 σ a1) = 0 from by unfold f_X6_valueAt_20; exact ((if_pos c1).trans rfl))] at hQ; exact hQ)
  · refine mK_iload_n dX6_valueAt_4 rfl rfl (.tail _ (.head _)) ?_
    refine mK_aload_n dX6_valueAt_5 rfl rfl (.head _) ?_
    refine ru_getI (k := 3) (ci := 5) dX6_valueAt_6 rfl rfl kw_230 ?_
    refine mK_icmp_ge (tgt := 28) dX6_valueAt_9 rfl (by decide) (fun c2 => ?_) (fun c2 => ?_)
    · refine mK_lconst dX6_valueAt_28 rfl (v := 0) rfl ?_
      exact mK_lret dX6_valueAt_29 rfl (by rw [(show (f_X6_valueAt_20 σ a1) = 0 from by unfold f_X6_valueAt_20; exact ((if_neg c1).trans ((if_pos c2).trans rfl)))] at hQ; exact hQ)
    · refine mK_iload_n dX6_valueAt_12 rfl rfl (.tail _ (.head _)) ?_
      refine mK_sipush dX6_valueAt_13 rfl qsi_400 ?_
      refine mK_icmp_gt (tgt := 28) dX6_valueAt_16 rfl (by decide) (fun c3 => ?_) (fun c3 => ?_)
      · refine mK_lconst dX6_valueAt_28 rfl (v := 0) rfl ?_
        exact mK_lret dX6_valueAt_29 rfl (by rw [(show (f_X6_valueAt_20 σ a1) = 0 from by unfold f_X6_valueAt_20; exact ((if_neg c1).trans ((if_neg c2).trans ((if_pos c3).trans rfl))))] at hQ; exact hQ)
      · refine mK_aload_n dX6_valueAt_19 rfl rfl (.head _) ?_
        refine ru_getR (k := 2) (ci := 5) (a := 23) dX6_valueAt_20 rfl rfl rfl kw_229 ?_
        refine mK_iload_n dX6_valueAt_23 rfl rfl (.tail _ (.head _)) ?_
        refine ru_lald (n := 401) dX6_valueAt_24 rfl rfl (hs1 c1 c2 c3) ?_
        refine mK_goto (tgt := 29) dX6_valueAt_25 (by decide) ?_
        exact mK_lret dX6_valueAt_29 rfl (by rw [(show (f_X6_valueAt_20 σ a1) = (σ.2.1 23 (a1).toNatClampNeg) from by unfold f_X6_valueAt_20; exact ((if_neg c1).trans ((if_neg c2).trans ((if_neg c3).trans rfl))))] at hQ; exact hQ)
def h_X5_takeNumberBehind_25 (σ : mS) (a1 : Nat) (a2 : Int32) (a3 : Int32) (a4 : Int32) : Int32 × mS := if (f_X5_sees_25 σ a1) = 0 then (a2, σ) else (if (f_X6_valueAt_20 (mPI σ 25 3 ((σ.1 25 3) + 1)) ((σ.1 25 3) + 1)) < (Int32.toInt64 a3) then ((Int64.toInt32 (f_X6_valueAt_20 (mPI σ 25 3 ((σ.1 25 3) + 1)) ((σ.1 25 3) + 1))), (mPI (g_X5_failIf_25 (mPI σ 25 3 ((σ.1 25 3) + 1)) 1 5) 25 3 (((g_X5_failIf_25 (mPI σ 25 3 ((σ.1 25 3) + 1)) 1 5).1 25 3) + 1))) else (if (f_X6_valueAt_20 (mPI σ 25 3 ((σ.1 25 3) + 1)) ((σ.1 25 3) + 1)) ≤ (Int32.toInt64 a4) then ((Int64.toInt32 (f_X6_valueAt_20 (mPI σ 25 3 ((σ.1 25 3) + 1)) ((σ.1 25 3) + 1))), (mPI (g_X5_failIf_25 (mPI σ 25 3 ((σ.1 25 3) + 1)) 0 5) 25 3 (((g_X5_failIf_25 (mPI σ 25 3 ((σ.1 25 3) + 1)) 0 5).1 25 3) + 1))) else ((Int64.toInt32 (f_X6_valueAt_20 (mPI σ 25 3 ((σ.1 25 3) + 1)) ((σ.1 25 3) + 1))), (mPI (g_X5_failIf_25 (mPI σ 25 3 ((σ.1 25 3) + 1)) 1 5) 25 3 (((g_X5_failIf_25 (mPI σ 25 3 ((σ.1 25 3) + 1)) 1 5).1 25 3) + 1)))))
set_option maxRecDepth 20000 in
theorem S_X5_takeNumberBehind_25 {Γ : Nat × (Nat → Int32)} {d : Nat} {Q : mQ} {σ : mS} (a1 : Nat) (a2 : Int32) (a3 : Int32) (a4 : Int32) (ha_a1 : 1000 ≤ a1 ∧ a1 < 1028) (hs1 : ¬ ((σ.1 25 3) < 0) → ¬ ((σ.1 20 3) ≤ (σ.1 25 3)) → ¬ (400 < (σ.1 25 3)) → vp_in (σ.1 25 3) 401) (hs2 : ¬ ((σ.1 25 3) < 0) → ¬ ((σ.1 20 3) ≤ (σ.1 25 3)) → ¬ (400 < (σ.1 25 3)) → kRok σ 21 ((σ.1 25 3)).toNatClampNeg) (hs3 : 1000 ≤ (f_X6_kindAt_20 σ (σ.1 25 3)) ∧ (f_X6_kindAt_20 σ (σ.1 25 3)) < 1028) (hs4 : ¬ ((f_X5_sees_25 σ a1) = 0) → ¬ (((σ.1 25 3) + 1) < 0) → ¬ (((mPI σ 25 3 ((σ.1 25 3) + 1)).1 20 3) ≤ ((σ.1 25 3) + 1)) → ¬ (400 < ((σ.1 25 3) + 1)) → vp_in ((σ.1 25 3) + 1) 401) (hQ : Q (.inl (some (.int (h_X5_takeNumberBehind_25 σ a1 a2 a3 a4).1))) 60 mSH (h_X5_takeNumberBehind_25 σ a1 a2 a3 a4).2) : mCall Γ M_X5_takeNumberBehind (d + 3) 0 0 [.ref 25, .ref a1, .int a2, .int a3, .int a4] 60 mSH σ Q := by
  refine mCall_of rfl (by decide) (Nat.le_of_ble_eq_true rfl) (mOkC (mOk_lo (Nat.le_of_ble_eq_true rfl)) (mOkC (mOk_hi ha_a1.1) (mOkC mOk_i (mOkC mOk_i (mOkC mOk_i mOkN))))) ?_
  show mK Γ M_X5_takeNumberBehind (d + 3) Q 60 0 0 0 [(0, .ref 25), (1, .ref a1), (2, .int a2), (3, .int a3), (4, .int a4)] [] 60 mSH σ
  refine mK_aload_n dX5_takeNumberBehind_0 rfl rfl (.head _) ?_
  refine mK_aload_n dX5_takeNumberBehind_1 rfl rfl (.tail _ (.head _)) ?_
  refine mK_invV (J := M_X5_sees) (k := 1) (as := [.ref a1]) (st := []) (c1 := 0) (s1 := 0) dX5_takeNumberBehind_2 rfl jw_X5_sees jn_X5_sees rfl (Nat.le_of_ble_eq_true rfl) (Nat.zero_le _) (Nat.zero_le _) rfl kw_480 kw_482 kw_13 (b := 25) (Nat.le_of_ble_eq_true rfl) (Nat.le_of_ble_eq_true rfl) rfl ?_
  refine S_X5_sees_25 a1 ha_a1 hs1 hs2 hs3 ?_
  show mK Γ M_X5_takeNumberBehind (d + 3) Q 60 0 0 5 [(0, .ref 25), (1, .ref a1), (2, .int a2), (3, .int a3), (4, .int a4)] [.int (f_X5_sees_25 σ a1)] 60 mSH σ
  refine ru_if_ne (tgt := 10) dX5_takeNumberBehind_5 rfl (by decide) (fun c1 => ?_) (fun c1 => ?_)
  · refine mK_aload_n dX5_takeNumberBehind_10 rfl rfl (.head _) ?_
    refine mK_dup dX5_takeNumberBehind_11 rfl rfl ?_
    refine ru_getI (k := 3) (ci := 4) dX5_takeNumberBehind_12 rfl rfl kw_265 ?_
    refine mK_iconst dX5_takeNumberBehind_15 rfl qic_1 ?_
    refine mK_iadd dX5_takeNumberBehind_16 rfl ?_
    refine ru_putI (k := 3) (ci := 4) dX5_takeNumberBehind_17 rfl rfl rfl kw_265 ?_
    refine mK_aload_n dX5_takeNumberBehind_20 rfl rfl (.head _) ?_
    refine ru_getR (k := 0) (ci := 4) (a := 20) dX5_takeNumberBehind_21 rfl rfl rfl kw_262 ?_
    refine mK_aload_n dX5_takeNumberBehind_24 rfl rfl (.head _) ?_
    refine ru_getI (k := 3) (ci := 4) dX5_takeNumberBehind_25 rfl rfl kw_265 ?_
    refine mK_invV (J := M_X6_valueAt) (k := 1) (as := [.int ((σ.1 25 3) + 1)]) (st := []) (c1 := 0) (s1 := 0) dX5_takeNumberBehind_28 rfl jw_X6_valueAt jn_X6_valueAt rfl (Nat.le_of_ble_eq_true rfl) (Nat.zero_le _) (Nat.zero_le _) rfl kw_490 kw_491 kw_492 (b := 20) (Nat.le_of_ble_eq_true rfl) (Nat.le_of_ble_eq_true rfl) rfl ?_
    refine S_X6_valueAt_20 ((σ.1 25 3) + 1) (hs4 c1) ?_
    show mK Γ M_X5_takeNumberBehind (d + 3) Q 60 0 0 31 [(0, .ref 25), (1, .ref a1), (2, .int a2), (3, .int a3), (4, .int a4)] [.long (f_X6_valueAt_20 (mPI σ 25 3 ((σ.1 25 3) + 1)) ((σ.1 25 3) + 1))] 60 mSH (mPI σ 25 3 ((σ.1 25 3) + 1))
    refine ru_lstore (lv1 := [(0, .ref 25), (1, .ref a1), (2, .int a2), (3, .int a3), (4, .int a4), (5, .long (f_X6_valueAt_20 (mPI σ 25 3 ((σ.1 25 3) + 1)) ((σ.1 25 3) + 1)))]) dX5_takeNumberBehind_31 rfl (by decide) rfl ?_
    refine mK_aload_n dX5_takeNumberBehind_33 rfl rfl (.head _) ?_
    refine mK_lload dX5_takeNumberBehind_34 rfl (.tail _ (.tail _ (.tail _ (.tail _ (.tail _ (.head _)))))) ?_
    refine mK_iload_n dX5_takeNumberBehind_36 rfl rfl (.tail _ (.tail _ (.tail _ (.head _)))) ?_
    refine mK_i2l dX5_takeNumberBehind_37 rfl ?_
    refine ru_lif_lt (tgt := 51) dX5_takeNumberBehind_38 rfl dX5_takeNumberBehind_39 rfl (by decide) (fun c2 => ?_) (fun c2 => ?_)
    · refine mK_iconst dX5_takeNumberBehind_51 rfl qic_1 ?_
      refine mK_goto (tgt := 56) dX5_takeNumberBehind_52 (by decide) ?_
      refine mK_iconst dX5_takeNumberBehind_56 rfl qic_5 ?_
      refine mK_invV (J := M_X5_failIf) (k := 2) (as := [.int 1, .int 5]) (st := []) (c1 := 0) (s1 := 0) dX5_takeNumberBehind_57 rfl jw_X5_failIf jn_X5_failIf rfl (Nat.le_of_ble_eq_true rfl) (Nat.zero_le _) (Nat.zero_le _) rfl kw_498 kw_500 kw_15 (b := 25) (Nat.le_of_ble_eq_true rfl) (Nat.le_of_ble_eq_true rfl) rfl ?_
      refine S_X5_failIf_25 1 5 ?_
      show mK Γ M_X5_takeNumberBehind (d + 3) Q 60 0 0 60 [(0, .ref 25), (1, .ref a1), (2, .int a2), (3, .int a3), (4, .int a4), (5, .long (f_X6_valueAt_20 (mPI σ 25 3 ((σ.1 25 3) + 1)) ((σ.1 25 3) + 1)))] [] 60 mSH (g_X5_failIf_25 (mPI σ 25 3 ((σ.1 25 3) + 1)) 1 5)
      refine mK_aload_n dX5_takeNumberBehind_60 rfl rfl (.head _) ?_
      refine mK_dup dX5_takeNumberBehind_61 rfl rfl ?_
      refine ru_getI (k := 3) (ci := 4) dX5_takeNumberBehind_62 rfl rfl kw_265 ?_
      refine mK_iconst dX5_takeNumberBehind_65 rfl qic_1 ?_
      refine mK_iadd dX5_takeNumberBehind_66 rfl ?_
      refine ru_putI (k := 3) (ci := 4) dX5_takeNumberBehind_67 rfl rfl rfl kw_265 ?_
      refine mK_lload dX5_takeNumberBehind_70 rfl (.tail _ (.tail _ (.tail _ (.tail _ (.tail _ (.head _)))))) ?_
      refine mK_l2i dX5_takeNumberBehind_72 rfl ?_
      exact mK_iret dX5_takeNumberBehind_73 rfl (by rw [(show (h_X5_takeNumberBehind_25 σ a1 a2 a3 a4) = ((Int64.toInt32 (f_X6_valueAt_20 (mPI σ 25 3 ((σ.1 25 3) + 1)) ((σ.1 25 3) + 1))), (mPI (g_X5_failIf_25 (mPI σ 25 3 ((σ.1 25 3) + 1)) 1 5) 25 3 (((g_X5_failIf_25 (mPI σ 25 3 ((σ.1 25 3) + 1)) 1 5).1 25 3) + 1))) from by unfold h_X5_takeNumberBehind_25; exact ((if_neg c1).trans ((if_pos c2).trans rfl)))] at hQ; exact hQ)
    · refine mK_lload dX5_takeNumberBehind_42 rfl (.tail _ (.tail _ (.tail _ (.tail _ (.tail _ (.head _)))))) ?_
      refine mK_iload dX5_takeNumberBehind_44 rfl (.tail _ (.tail _ (.tail _ (.tail _ (.head _))))) ?_
      refine mK_i2l dX5_takeNumberBehind_46 rfl ?_
      refine ru_lif_le (tgt := 55) dX5_takeNumberBehind_47 rfl dX5_takeNumberBehind_48 rfl (by decide) (fun c3 => ?_) (fun c3 => ?_)
      · refine mK_iconst dX5_takeNumberBehind_55 rfl qic_0 ?_
        refine mK_iconst dX5_takeNumberBehind_56 rfl qic_5 ?_
        refine mK_invV (J := M_X5_failIf) (k := 2) (as := [.int 0, .int 5]) (st := []) (c1 := 0) (s1 := 0) dX5_takeNumberBehind_57 rfl jw_X5_failIf jn_X5_failIf rfl (Nat.le_of_ble_eq_true rfl) (Nat.zero_le _) (Nat.zero_le _) rfl kw_498 kw_500 kw_15 (b := 25) (Nat.le_of_ble_eq_true rfl) (Nat.le_of_ble_eq_true rfl) rfl ?_
        refine S_X5_failIf_25 0 5 ?_
        show mK Γ M_X5_takeNumberBehind (d + 3) Q 60 0 0 60 [(0, .ref 25), (1, .ref a1), (2, .int a2), (3, .int a3), (4, .int a4), (5, .long (f_X6_valueAt_20 (mPI σ 25 3 ((σ.1 25 3) + 1)) ((σ.1 25 3) + 1)))] [] 60 mSH (g_X5_failIf_25 (mPI σ 25 3 ((σ.1 25 3) + 1)) 0 5)
        refine mK_aload_n dX5_takeNumberBehind_60 rfl rfl (.head _) ?_
        refine mK_dup dX5_takeNumberBehind_61 rfl rfl ?_
        refine ru_getI (k := 3) (ci := 4) dX5_takeNumberBehind_62 rfl rfl kw_265 ?_
        refine mK_iconst dX5_takeNumberBehind_65 rfl qic_1 ?_
        refine mK_iadd dX5_takeNumberBehind_66 rfl ?_
        refine ru_putI (k := 3) (ci := 4) dX5_takeNumberBehind_67 rfl rfl rfl kw_265 ?_
        refine mK_lload dX5_takeNumberBehind_70 rfl (.tail _ (.tail _ (.tail _ (.tail _ (.tail _ (.head _)))))) ?_
        refine mK_l2i dX5_takeNumberBehind_72 rfl ?_
        exact mK_iret dX5_takeNumberBehind_73 rfl (by rw [(show (h_X5_takeNumberBehind_25 σ a1 a2 a3 a4) = ((Int64.toInt32 (f_X6_valueAt_20 (mPI σ 25 3 ((σ.1 25 3) + 1)) ((σ.1 25 3) + 1))), (mPI (g_X5_failIf_25 (mPI σ 25 3 ((σ.1 25 3) + 1)) 0 5) 25 3 (((g_X5_failIf_25 (mPI σ 25 3 ((σ.1 25 3) + 1)) 0 5).1 25 3) + 1))) from by unfold h_X5_takeNumberBehind_25; exact ((if_neg c1).trans ((if_neg c2).trans ((if_pos c3).trans rfl))))] at hQ; exact hQ)
      · refine mK_iconst dX5_takeNumberBehind_51 rfl qic_1 ?_
        refine mK_goto (tgt := 56) dX5_takeNumberBehind_52 (by decide) ?_
        refine mK_iconst dX5_takeNumberBehind_56 rfl qic_5 ?_
        refine mK_invV (J := M_X5_failIf) (k := 2) (as := [.int 1, .int 5]) (st := []) (c1 := 0) (s1 := 0) dX5_takeNumberBehind_57 rfl jw_X5_failIf jn_X5_failIf rfl (Nat.le_of_ble_eq_true rfl) (Nat.zero_le _) (Nat.zero_le _) rfl kw_498 kw_500 kw_15 (b := 25) (Nat.le_of_ble_eq_true rfl) (Nat.le_of_ble_eq_true rfl) rfl ?_
        refine S_X5_failIf_25 1 5 ?_
        show mK Γ M_X5_takeNumberBehind (d + 3) Q 60 0 0 60 [(0, .ref 25), (1, .ref a1), (2, .int a2), (3, .int a3), (4, .int a4), (5, .long (f_X6_valueAt_20 (mPI σ 25 3 ((σ.1 25 3) + 1)) ((σ.1 25 3) + 1)))] [] 60 mSH (g_X5_failIf_25 (mPI σ 25 3 ((σ.1 25 3) + 1)) 1 5)
        refine mK_aload_n dX5_takeNumberBehind_60 rfl rfl (.head _) ?_
        refine mK_dup dX5_takeNumberBehind_61 rfl rfl ?_
        refine ru_getI (k := 3) (ci := 4) dX5_takeNumberBehind_62 rfl rfl kw_265 ?_
        refine mK_iconst dX5_takeNumberBehind_65 rfl qic_1 ?_
        refine mK_iadd dX5_takeNumberBehind_66 rfl ?_
        refine ru_putI (k := 3) (ci := 4) dX5_takeNumberBehind_67 rfl rfl rfl kw_265 ?_
        refine mK_lload dX5_takeNumberBehind_70 rfl (.tail _ (.tail _ (.tail _ (.tail _ (.tail _ (.head _)))))) ?_
        refine mK_l2i dX5_takeNumberBehind_72 rfl ?_
        exact mK_iret dX5_takeNumberBehind_73 rfl (by rw [(show (h_X5_takeNumberBehind_25 σ a1 a2 a3 a4) = ((Int64.toInt32 (f_X6_valueAt_20 (mPI σ 25 3 ((σ.1 25 3) + 1)) ((σ.1 25 3) + 1))), (mPI (g_X5_failIf_25 (mPI σ 25 3 ((σ.1 25 3) + 1)) 1 5) 25 3 (((g_X5_failIf_25 (mPI σ 25 3 ((σ.1 25 3) + 1)) 1 5).1 25 3) + 1))) from by unfold h_X5_takeNumberBehind_25; exact ((if_neg c1).trans ((if_neg c2).trans ((if_neg c3).trans rfl))))] at hQ; exact hQ)
  · refine mK_iload_n dX5_takeNumberBehind_8 rfl rfl (.tail _ (.tail _ (.head _))) ?_
    exact mK_iret dX5_takeNumberBehind_9 rfl (by rw [(show (h_X5_takeNumberBehind_25 σ a1 a2 a3 a4) = (a2, σ) from by unfold h_X5_takeNumberBehind_25; exact ((if_pos c1).trans rfl))] at hQ; exact hQ)
def g_X5_takeTime_25 (σ : mS) (a1 : Int32) (a2 : Int32) : mS := if a2 ≤ (f_X0_timeOf_5 σ a1) then (if ((g_X5_failIf_25 σ 0 7).1 25 4) = 0 then (g_X0_addTime_5 (g_X5_failIf_25 σ 0 7) a1 (-a2)) else (g_X5_failIf_25 σ 0 7)) else (if ((g_X5_failIf_25 σ 1 7).1 25 4) = 0 then (g_X0_addTime_5 (g_X5_failIf_25 σ 1 7) a1 (-a2)) else (g_X5_failIf_25 σ 1 7))
set_option maxRecDepth 20000 in
theorem S_X5_takeTime_25 {Γ : Nat × (Nat → Int32)} {d : Nat} {Q : mQ} {σ : mS} (a1 : Int32) (a2 : Int32) (hQ : Q (.inl none) 60 mSH (g_X5_takeTime_25 σ a1 a2)) : mCall Γ M_X5_takeTime (d + 3) 0 0 [.ref 25, .int a1, .int a2] 60 mSH σ Q := by
  refine mCall_of rfl (by decide) (Nat.le_of_ble_eq_true rfl) (mOkC (mOk_lo (Nat.le_of_ble_eq_true rfl)) (mOkC mOk_i (mOkC mOk_i mOkN))) ?_
  show mK Γ M_X5_takeTime (d + 3) Q 60 0 0 0 [(0, .ref 25), (1, .int a1), (2, .int a2)] [] 60 mSH σ
  refine mK_aload_n dX5_takeTime_0 rfl rfl (.head _) ?_
  refine mK_aload_n dX5_takeTime_1 rfl rfl (.head _) ?_
  refine ru_getR (k := 1) (ci := 4) (a := 5) dX5_takeTime_2 rfl rfl rfl kw_263 ?_
  refine mK_iload_n dX5_takeTime_5 rfl rfl (.tail _ (.head _)) ?_
  refine mK_invV (J := M_X0_timeOf) (k := 1) (as := [.int a1]) (st := [.ref 25]) (c1 := 0) (s1 := 0) dX5_takeTime_6 rfl jw_X0_timeOf jn_X0_timeOf rfl (Nat.le_of_ble_eq_true rfl) (Nat.zero_le _) (Nat.zero_le _) rfl kw_537 kw_538 kw_539 (b := 5) (Nat.le_of_ble_eq_true rfl) (Nat.le_of_ble_eq_true rfl) rfl ?_
  refine S_X0_timeOf_5 a1 ?_
  show mK Γ M_X5_takeTime (d + 3) Q 60 0 0 9 [(0, .ref 25), (1, .int a1), (2, .int a2)] [.int (f_X0_timeOf_5 σ a1), .ref 25] 60 mSH σ
  refine mK_iload_n dX5_takeTime_9 rfl rfl (.tail _ (.tail _ (.head _))) ?_
  refine mK_icmp_ge (tgt := 17) dX5_takeTime_10 rfl (by decide) (fun c1 => ?_) (fun c1 => ?_)
  · refine mK_iconst dX5_takeTime_17 rfl qic_0 ?_
    refine mK_bipush dX5_takeTime_18 rfl qbi_7 ?_
    refine mK_invV (J := M_X5_failIf) (k := 2) (as := [.int 0, .int 7]) (st := []) (c1 := 0) (s1 := 0) dX5_takeTime_20 rfl jw_X5_failIf jn_X5_failIf rfl (Nat.le_of_ble_eq_true rfl) (Nat.zero_le _) (Nat.zero_le _) rfl kw_498 kw_500 kw_15 (b := 25) (Nat.le_of_ble_eq_true rfl) (Nat.le_of_ble_eq_true rfl) rfl ?_
    refine S_X5_failIf_25 0 7 ?_
    show mK Γ M_X5_takeTime (d + 3) Q 60 0 0 23 [(0, .ref 25), (1, .int a1), (2, .int a2)] [] 60 mSH (g_X5_failIf_25 σ 0 7)
    refine mK_aload_n dX5_takeTime_23 rfl rfl (.head _) ?_
    refine ru_getI (k := 4) (ci := 4) dX5_takeTime_24 rfl rfl kw_266 ?_
    refine ru_if_ne (tgt := 40) dX5_takeTime_27 rfl (by decide) (fun c2 => ?_) (fun c2 => ?_)
    · exact mK_vret dX5_takeTime_40 rfl (by rw [(show (g_X5_takeTime_25 σ a1 a2) = (g_X5_failIf_25 σ 0 7) from by unfold g_X5_takeTime_25; exact ((if_pos c1).trans ((if_neg c2).trans rfl)))] at hQ; exact hQ)
    · refine mK_aload_n dX5_takeTime_30 rfl rfl (.head _) ?_
      refine ru_getR (k := 1) (ci := 4) (a := 5) dX5_takeTime_31 rfl rfl rfl kw_263 ?_
      refine mK_iload_n dX5_takeTime_34 rfl rfl (.tail _ (.head _)) ?_
      refine mK_iload_n dX5_takeTime_35 rfl rfl (.tail _ (.tail _ (.head _))) ?_
      refine mK_ineg dX5_takeTime_36 rfl ?_
      refine mK_invV (J := M_X0_addTime) (k := 2) (as := [.int a1, .int (-a2)]) (st := []) (c1 := 0) (s1 := 0) dX5_takeTime_37 rfl jw_X0_addTime jn_X0_addTime rfl (Nat.le_of_ble_eq_true rfl) (Nat.zero_le _) (Nat.zero_le _) rfl kw_545 kw_546 kw_547 (b := 5) (Nat.le_of_ble_eq_true rfl) (Nat.le_of_ble_eq_true rfl) rfl ?_
      refine S_X0_addTime_5 a1 (-a2) ?_
      show mK Γ M_X5_takeTime (d + 3) Q 60 0 0 40 [(0, .ref 25), (1, .int a1), (2, .int a2)] [] 60 mSH (g_X0_addTime_5 (g_X5_failIf_25 σ 0 7) a1 (-a2))
      exact mK_vret dX5_takeTime_40 rfl (by rw [(show (g_X5_takeTime_25 σ a1 a2) = (g_X0_addTime_5 (g_X5_failIf_25 σ 0 7) a1 (-a2)) from by unfold g_X5_takeTime_25; exact ((if_pos c1).trans ((if_pos c2).trans rfl)))] at hQ; exact hQ)
  · refine mK_iconst dX5_takeTime_13 rfl qic_1 ?_
    refine mK_goto (tgt := 18) dX5_takeTime_14 (by decide) ?_
    refine mK_bipush dX5_takeTime_18 rfl qbi_7 ?_
    refine mK_invV (J := M_X5_failIf) (k := 2) (as := [.int 1, .int 7]) (st := []) (c1 := 0) (s1 := 0) dX5_takeTime_20 rfl jw_X5_failIf jn_X5_failIf rfl (Nat.le_of_ble_eq_true rfl) (Nat.zero_le _) (Nat.zero_le _) rfl kw_498 kw_500 kw_15 (b := 25) (Nat.le_of_ble_eq_true rfl) (Nat.le_of_ble_eq_true rfl) rfl ?_
    refine S_X5_failIf_25 1 7 ?_
    show mK Γ M_X5_takeTime (d + 3) Q 60 0 0 23 [(0, .ref 25), (1, .int a1), (2, .int a2)] [] 60 mSH (g_X5_failIf_25 σ 1 7)
    refine mK_aload_n dX5_takeTime_23 rfl rfl (.head _) ?_
    refine ru_getI (k := 4) (ci := 4) dX5_takeTime_24 rfl rfl kw_266 ?_
    refine ru_if_ne (tgt := 40) dX5_takeTime_27 rfl (by decide) (fun c3 => ?_) (fun c3 => ?_)
    · exact mK_vret dX5_takeTime_40 rfl (by rw [(show (g_X5_takeTime_25 σ a1 a2) = (g_X5_failIf_25 σ 1 7) from by unfold g_X5_takeTime_25; exact ((if_neg c1).trans ((if_neg c3).trans rfl)))] at hQ; exact hQ)
    · refine mK_aload_n dX5_takeTime_30 rfl rfl (.head _) ?_
      refine ru_getR (k := 1) (ci := 4) (a := 5) dX5_takeTime_31 rfl rfl rfl kw_263 ?_
      refine mK_iload_n dX5_takeTime_34 rfl rfl (.tail _ (.head _)) ?_
      refine mK_iload_n dX5_takeTime_35 rfl rfl (.tail _ (.tail _ (.head _))) ?_
      refine mK_ineg dX5_takeTime_36 rfl ?_
      refine mK_invV (J := M_X0_addTime) (k := 2) (as := [.int a1, .int (-a2)]) (st := []) (c1 := 0) (s1 := 0) dX5_takeTime_37 rfl jw_X0_addTime jn_X0_addTime rfl (Nat.le_of_ble_eq_true rfl) (Nat.zero_le _) (Nat.zero_le _) rfl kw_545 kw_546 kw_547 (b := 5) (Nat.le_of_ble_eq_true rfl) (Nat.le_of_ble_eq_true rfl) rfl ?_
      refine S_X0_addTime_5 a1 (-a2) ?_
      show mK Γ M_X5_takeTime (d + 3) Q 60 0 0 40 [(0, .ref 25), (1, .int a1), (2, .int a2)] [] 60 mSH (g_X0_addTime_5 (g_X5_failIf_25 σ 1 7) a1 (-a2))
      exact mK_vret dX5_takeTime_40 rfl (by rw [(show (g_X5_takeTime_25 σ a1 a2) = (g_X0_addTime_5 (g_X5_failIf_25 σ 1 7) a1 (-a2)) from by unfold g_X5_takeTime_25; exact ((if_neg c1).trans ((if_pos c3).trans rfl)))] at hQ; exact hQ)
def f_X5_errorPlace_25 (σ : mS) : Int32 := (f_X6_placeOf_20 σ (σ.1 25 5))
set_option maxRecDepth 20000 in
theorem S_X5_errorPlace_25 {Γ : Nat × (Nat → Int32)} {d : Nat} {Q : mQ} {σ : mS} (hs1 : ¬ ((σ.1 25 5) < 0) → ¬ ((σ.1 20 3) ≤ (σ.1 25 5)) → ¬ (400 < (σ.1 25 5)) → vp_in (σ.1 25 5) 401) (hQ : Q (.inl (some (.int (f_X5_errorPlace_25 σ)))) 60 mSH σ) : mCall Γ M_X5_errorPlace (d + 2) 0 0 [.ref 25] 60 mSH σ Q := by
  refine mCall_of rfl (by decide) (Nat.le_of_ble_eq_true rfl) (mOkC (mOk_lo (Nat.le_of_ble_eq_true rfl)) mOkN) ?_
  show mK Γ M_X5_errorPlace (d + 2) Q 60 0 0 0 [(0, .ref 25)] [] 60 mSH σ
  refine mK_aload_n dX5_errorPlace_0 rfl rfl (.head _) ?_
  refine ru_getR (k := 0) (ci := 4) (a := 20) dX5_errorPlace_1 rfl rfl rfl kw_262 ?_
  refine mK_aload_n dX5_errorPlace_4 rfl rfl (.head _) ?_
  refine ru_getI (k := 5) (ci := 4) dX5_errorPlace_5 rfl rfl kw_267 ?_
  refine mK_invV (J := M_X6_placeOf) (k := 1) (as := [.int (σ.1 25 5)]) (st := []) (c1 := 0) (s1 := 0) dX5_errorPlace_8 rfl jw_X6_placeOf jn_X6_placeOf rfl (Nat.le_of_ble_eq_true rfl) (Nat.zero_le _) (Nat.zero_le _) rfl kw_687 kw_465 kw_466 (b := 20) (Nat.le_of_ble_eq_true rfl) (Nat.le_of_ble_eq_true rfl) rfl ?_
  refine S_X6_placeOf_20 (σ.1 25 5) hs1 ?_
  show mK Γ M_X5_errorPlace (d + 2) Q 60 0 0 11 [(0, .ref 25)] [.int (f_X6_placeOf_20 σ (σ.1 25 5))] 60 mSH σ
  exact mK_iret dX5_errorPlace_11 rfl (by rw [(show (f_X5_errorPlace_25 σ) = (f_X6_placeOf_20 σ (σ.1 25 5)) from rfl)] at hQ; exact hQ)
def f_X6_isDigit (σ : mS) (a1 : Int32) : Int32 := if a1 < 48 then 0 else (if 57 < a1 then 0 else 1)
set_option maxRecDepth 20000 in
theorem S_X6_isDigit {Γ : Nat × (Nat → Int32)} {d : Nat} {Q : mQ} {σ : mS} (a1 : Int32) (hQ : Q (.inl (some (.int (f_X6_isDigit σ a1)))) 60 mSH σ) : mCall Γ M_X6_isDigit (d + 1) 0 0 [.int a1] 60 mSH σ Q := by
  refine mCall_of rfl (by decide) (Nat.le_of_ble_eq_true rfl) (mOkC mOk_i mOkN) ?_
  show mK Γ M_X6_isDigit (d + 1) Q 60 0 0 0 [(0, .int a1)] [] 60 mSH σ
  refine mK_iload_n dX6_isDigit_0 rfl rfl (.head _) ?_
  refine mK_bipush dX6_isDigit_1 rfl qbi_48 ?_
  refine mK_icmp_lt (tgt := 16) dX6_isDigit_3 rfl (by decide) (fun c1 => ?_) (fun c1 => ?_)
  · refine mK_iconst dX6_isDigit_16 rfl qic_0 ?_
    exact mK_zret dX6_isDigit_17 rfl (by decide) (by rw [(show (f_X6_isDigit σ a1) = 0 from by unfold f_X6_isDigit; exact ((if_pos c1).trans rfl))] at hQ; exact hQ)
  · refine mK_iload_n dX6_isDigit_6 rfl rfl (.head _) ?_
    refine mK_bipush dX6_isDigit_7 rfl qbi_57 ?_
    refine mK_icmp_gt (tgt := 16) dX6_isDigit_9 rfl (by decide) (fun c2 => ?_) (fun c2 => ?_)
    · refine mK_iconst dX6_isDigit_16 rfl qic_0 ?_
      exact mK_zret dX6_isDigit_17 rfl (by decide) (by rw [(show (f_X6_isDigit σ a1) = 0 from by unfold f_X6_isDigit; exact ((if_neg c1).trans ((if_pos c2).trans rfl)))] at hQ; exact hQ)
    · refine mK_iconst dX6_isDigit_12 rfl qic_1 ?_
      refine mK_goto (tgt := 17) dX6_isDigit_13 (by decide) ?_
      exact mK_zret dX6_isDigit_17 rfl (by decide) (by rw [(show (f_X6_isDigit σ a1) = 1 from by unfold f_X6_isDigit; exact ((if_neg c1).trans ((if_neg c2).trans rfl)))] at hQ; exact hQ)
def f_X6_isLetter (σ : mS) (a1 : Int32) : Int32 := if a1 < 97 then 0 else (if 122 < a1 then 0 else 1)
set_option maxRecDepth 20000 in
theorem S_X6_isLetter {Γ : Nat × (Nat → Int32)} {d : Nat} {Q : mQ} {σ : mS} (a1 : Int32) (hQ : Q (.inl (some (.int (f_X6_isLetter σ a1)))) 60 mSH σ) : mCall Γ M_X6_isLetter (d + 1) 0 0 [.int a1] 60 mSH σ Q := by
  refine mCall_of rfl (by decide) (Nat.le_of_ble_eq_true rfl) (mOkC mOk_i mOkN) ?_
  show mK Γ M_X6_isLetter (d + 1) Q 60 0 0 0 [(0, .int a1)] [] 60 mSH σ
  refine mK_iload_n dX6_isLetter_0 rfl rfl (.head _) ?_
  refine mK_bipush dX6_isLetter_1 rfl qbi_97 ?_
  refine mK_icmp_lt (tgt := 16) dX6_isLetter_3 rfl (by decide) (fun c1 => ?_) (fun c1 => ?_)
  · refine mK_iconst dX6_isLetter_16 rfl qic_0 ?_
    exact mK_zret dX6_isLetter_17 rfl (by decide) (by rw [(show (f_X6_isLetter σ a1) = 0 from by unfold f_X6_isLetter; exact ((if_pos c1).trans rfl))] at hQ; exact hQ)
  · refine mK_iload_n dX6_isLetter_6 rfl rfl (.head _) ?_
    refine mK_bipush dX6_isLetter_7 rfl qbi_122 ?_
    refine mK_icmp_gt (tgt := 16) dX6_isLetter_9 rfl (by decide) (fun c2 => ?_) (fun c2 => ?_)
    · refine mK_iconst dX6_isLetter_16 rfl qic_0 ?_
      exact mK_zret dX6_isLetter_17 rfl (by decide) (by rw [(show (f_X6_isLetter σ a1) = 0 from by unfold f_X6_isLetter; exact ((if_neg c1).trans ((if_pos c2).trans rfl)))] at hQ; exact hQ)
    · refine mK_iconst dX6_isLetter_12 rfl qic_1 ?_
      refine mK_goto (tgt := 17) dX6_isLetter_13 (by decide) ?_
      exact mK_zret dX6_isLetter_17 rfl (by decide) (by rw [(show (f_X6_isLetter σ a1) = 1 from by unfold f_X6_isLetter; exact ((if_neg c1).trans ((if_neg c2).trans rfl)))] at hQ; exact hQ)
def g_X6_put_20 (σ : mS) (a1 : Nat) (a2 : Int32) (a3 : Int64) : mS := if (σ.1 20 3) < 0 then σ else (if 400 < (σ.1 20 3) then σ else (mPI (mPL (mPI (mPR σ 21 (σ.1 20 3).toNatClampNeg (some a1)) 22 (σ.1 20 3).toNatClampNeg a2) 23 (σ.1 20 3).toNatClampNeg a3) 20 3 ((σ.1 20 3) + 1)))
set_option maxRecDepth 20000 in
theorem S_X6_put_20 {Γ : Nat × (Nat → Int32)} {d : Nat} {Q : mQ} {σ : mS} (a1 : Nat) (a2 : Int32) (a3 : Int64) (ha_a1 : 1000 ≤ a1 ∧ a1 < 1028) (hs1 : ¬ ((σ.1 20 3) < 0) → ¬ (400 < (σ.1 20 3)) → vp_in (σ.1 20 3) 401) (hQ : Q (.inl none) 60 mSH (g_X6_put_20 σ a1 a2 a3)) : mCall Γ M_X6_put (d + 1) 0 0 [.ref 20, .ref a1, .int a2, .long a3] 60 mSH σ Q := by
  refine mCall_of rfl (by decide) (Nat.le_of_ble_eq_true rfl) (mOkC (mOk_lo (Nat.le_of_ble_eq_true rfl)) (mOkC (mOk_hi ha_a1.1) (mOkC mOk_i (mOkC mOk_l mOkN)))) ?_
  show mK Γ M_X6_put (d + 1) Q 60 0 0 0 [(0, .ref 20), (1, .ref a1), (2, .int a2), (3, .long a3)] [] 60 mSH σ
  refine mK_aload_n dX6_put_0 rfl rfl (.head _) ?_
  refine ru_getI (k := 3) (ci := 5) dX6_put_1 rfl rfl kw_230 ?_
  refine mK_if_lt (tgt := 57) dX6_put_4 rfl (by decide) (fun c1 => ?_) (fun c1 => ?_)
  · exact mK_vret dX6_put_57 rfl (by rw [(show (g_X6_put_20 σ a1 a2 a3) = σ from by unfold g_X6_put_20; exact ((if_pos c1).trans rfl))] at hQ; exact hQ)
  · refine mK_aload_n dX6_put_7 rfl rfl (.head _) ?_
    refine ru_getI (k := 3) (ci := 5) dX6_put_8 rfl rfl kw_230 ?_
    refine mK_sipush dX6_put_11 rfl qsi_400 ?_
    refine mK_icmp_gt (tgt := 57) dX6_put_14 rfl (by decide) (fun c2 => ?_) (fun c2 => ?_)
    · exact mK_vret dX6_put_57 rfl (by rw [(show (g_X6_put_20 σ a1 a2 a3) = σ from by unfold g_X6_put_20; exact ((if_neg c1).trans ((if_pos c2).trans rfl)))] at hQ; exact hQ)
    · refine mK_aload_n dX6_put_17 rfl rfl (.head _) ?_
      refine ru_getR (k := 0) (ci := 5) (a := 21) dX6_put_18 rfl rfl rfl kw_227 ?_
      refine mK_aload_n dX6_put_21 rfl rfl (.head _) ?_
      refine ru_getI (k := 3) (ci := 5) dX6_put_22 rfl rfl kw_230 ?_
      refine mK_aload_n dX6_put_25 rfl rfl (.tail _ (.head _)) ?_
      refine ru_aast (n := 401) dX6_put_26 rfl rfl (hs1 c1 c2) ha_a1 kw_745 ?_
      refine mK_aload_n dX6_put_27 rfl rfl (.head _) ?_
      refine ru_getR (k := 1) (ci := 5) (a := 22) dX6_put_28 rfl rfl rfl kw_228 ?_
      refine mK_aload_n dX6_put_31 rfl rfl (.head _) ?_
      refine ru_getI (k := 3) (ci := 5) dX6_put_32 rfl rfl kw_230 ?_
      refine mK_iload_n dX6_put_35 rfl rfl (.tail _ (.tail _ (.head _))) ?_
      refine ru_iast (n := 401) dX6_put_36 rfl rfl (hs1 c1 c2) ?_
      refine mK_aload_n dX6_put_37 rfl rfl (.head _) ?_
      refine ru_getR (k := 2) (ci := 5) (a := 23) dX6_put_38 rfl rfl rfl kw_229 ?_
      refine mK_aload_n dX6_put_41 rfl rfl (.head _) ?_
      refine ru_getI (k := 3) (ci := 5) dX6_put_42 rfl rfl kw_230 ?_
      refine mK_lload_n dX6_put_45 rfl rfl (.tail _ (.tail _ (.tail _ (.head _)))) ?_
      refine ru_last (n := 401) dX6_put_46 rfl rfl (hs1 c1 c2) ?_
      refine mK_aload_n dX6_put_47 rfl rfl (.head _) ?_
      refine mK_dup dX6_put_48 rfl rfl ?_
      refine ru_getI (k := 3) (ci := 5) dX6_put_49 rfl rfl kw_230 ?_
      refine mK_iconst dX6_put_52 rfl qic_1 ?_
      refine mK_iadd dX6_put_53 rfl ?_
      refine ru_putI (k := 3) (ci := 5) dX6_put_54 rfl rfl rfl kw_230 ?_
      exact mK_vret dX6_put_57 rfl (by rw [(show (g_X6_put_20 σ a1 a2 a3) = (mPI (mPL (mPI (mPR σ 21 (σ.1 20 3).toNatClampNeg (some a1)) 22 (σ.1 20 3).toNatClampNeg a2) 23 (σ.1 20 3).toNatClampNeg a3) 20 3 ((σ.1 20 3) + 1)) from by unfold g_X6_put_20; exact ((if_neg c1).trans ((if_neg c2).trans rfl)))] at hQ; exact hQ)
set_option maxRecDepth 20000 in
theorem C_X7_needSpeaker_0 {Γ : Nat × (Nat → Int32)} {d : Nat} {Q : mQ} {σ : mS} (a1 : Int32) (h : (((f_X0_hasSpeaker_5 σ a1) = 0 → Q (.inr "java/lang/IndexOutOfBoundsException") 60 mSH σ) ∧ (¬ ((f_X0_hasSpeaker_5 σ a1) = 0) → Q (.inl none) 60 mSH σ))) : mCall Γ M_X7_needSpeaker (d + 2) 1 6 [.ref 0, .int a1] 60 mSH σ Q := by
  refine mCall_of rfl (by decide) (Nat.le_of_ble_eq_true rfl) (mOkC (mOk_lo (Nat.le_of_ble_eq_true rfl)) (mOkC mOk_i mOkN)) ?_
  show mK Γ M_X7_needSpeaker (d + 2) Q 60 1 6 0 [(0, .ref 0), (1, .int a1)] [] 60 mSH σ
  refine mK_aload_n dX7_needSpeaker_0 rfl rfl (.head _) ?_
  refine ru_getR (k := 2) (ci := 6) (a := 5) dX7_needSpeaker_1 rfl rfl rfl kw_283 ?_
  refine mK_iload_n dX7_needSpeaker_4 rfl rfl (.tail _ (.head _)) ?_
  refine mK_invV (J := M_X0_hasSpeaker) (k := 1) (as := [.int a1]) (st := []) (c1 := 0) (s1 := 0) dX7_needSpeaker_5 rfl jw_X0_hasSpeaker jn_X0_hasSpeaker rfl (Nat.le_of_ble_eq_true rfl) (Nat.zero_le _) (Nat.zero_le _) rfl kw_864 kw_542 kw_543 (b := 5) (Nat.le_of_ble_eq_true rfl) (Nat.le_of_ble_eq_true rfl) rfl ?_
  refine S_X0_hasSpeaker_5 a1 ?_
  show mK Γ M_X7_needSpeaker (d + 2) Q 60 1 6 8 [(0, .ref 0), (1, .int a1)] [.int (f_X0_hasSpeaker_5 σ a1)] 60 mSH σ
  refine ru_if_ne (tgt := 22) dX7_needSpeaker_8 rfl (by decide) (fun c1 => ?_) (fun c1 => ?_)
  · exact mK_vret dX7_needSpeaker_22 rfl (h.2 c1)
  · exact mK_throwW (text := "no such speaker") dX7_needSpeaker_11 dX7_needSpeaker_14 dX7_needSpeaker_15 dX7_needSpeaker_18 dX7_needSpeaker_21 rfl rfl (by decide) (Nat.le_of_ble_eq_true rfl) (Nat.le_of_ble_eq_true rfl) (Nat.le_of_ble_eq_true rfl) (by decide +kernel) kw_789 kw_110 mTh_2 (h.1 c1)
set_option maxRecDepth 20000 in
theorem C_X7_byteAt_0 {Γ : Nat × (Nat → Int32)} {d : Nat} {Q : mQ} {σ : mS} (a1 : Int32) (h : ((a1 < 0 → Q (.inr "java/lang/IndexOutOfBoundsException") 60 mSH σ) ∧ (¬ (a1 < 0) → ((a1 < (f_X3_length_3 σ) → Q (.inl (some (.int (f_X3_at_3 σ a1)))) 60 mSH σ) ∧ (¬ (a1 < (f_X3_length_3 σ)) → Q (.inr "java/lang/IndexOutOfBoundsException") 60 mSH σ))))) : mCall Γ M_X7_byteAt (d + 2) 1 6 [.ref 0, .int a1] 60 mSH σ Q := by
  refine mCall_of rfl (by decide) (Nat.le_of_ble_eq_true rfl) (mOkC (mOk_lo (Nat.le_of_ble_eq_true rfl)) (mOkC mOk_i mOkN)) ?_
  show mK Γ M_X7_byteAt (d + 2) Q 60 1 6 0 [(0, .ref 0), (1, .int a1)] [] 60 mSH σ
  refine mK_iload_n dX7_byteAt_0 rfl rfl (.tail _ (.head _)) ?_
  refine mK_if_lt (tgt := 15) dX7_byteAt_1 rfl (by decide) (fun c1 => ?_) (fun c1 => ?_)
  · exact mK_throwW (text := "no such place on the paper") dX7_byteAt_15 dX7_byteAt_18 dX7_byteAt_19 dX7_byteAt_22 dX7_byteAt_25 rfl rfl (by decide) (Nat.le_of_ble_eq_true rfl) (Nat.le_of_ble_eq_true rfl) (Nat.le_of_ble_eq_true rfl) (by decide +kernel) kw_789 kw_110 mTh_2 (h.1 c1)
  · refine mK_iload_n dX7_byteAt_4 rfl rfl (.tail _ (.head _)) ?_
    refine mK_aload_n dX7_byteAt_5 rfl rfl (.head _) ?_
    refine ru_getR (k := 1) (ci := 6) (a := 3) dX7_byteAt_6 rfl rfl rfl kw_282 ?_
    refine mK_invV (J := M_X3_length) (k := 0) (as := []) (st := [.int a1]) (c1 := 0) (s1 := 0) dX7_byteAt_9 rfl jw_X3_length jn_X3_length rfl (Nat.le_of_ble_eq_true rfl) (Nat.zero_le _) (Nat.zero_le _) rfl kw_746 kw_321 kw_322 (b := 3) (Nat.le_of_ble_eq_true rfl) (Nat.le_of_ble_eq_true rfl) rfl ?_
    refine S_X3_length_3  ?_
    show mK Γ M_X7_byteAt (d + 2) Q 60 1 6 12 [(0, .ref 0), (1, .int a1)] [.int (f_X3_length_3 σ), .int a1] 60 mSH σ
    refine mK_icmp_lt (tgt := 26) dX7_byteAt_12 rfl (by decide) (fun c2 => ?_) (fun c2 => ?_)
    · refine mK_aload_n dX7_byteAt_26 rfl rfl (.head _) ?_
      refine ru_getR (k := 1) (ci := 6) (a := 3) dX7_byteAt_27 rfl rfl rfl kw_282 ?_
      refine mK_iload_n dX7_byteAt_30 rfl rfl (.tail _ (.head _)) ?_
      refine mK_invV (J := M_X3_at) (k := 1) (as := [.int a1]) (st := []) (c1 := 0) (s1 := 0) dX7_byteAt_31 rfl jw_X3_at jn_X3_at rfl (Nat.le_of_ble_eq_true rfl) (Nat.zero_le _) (Nat.zero_le _) rfl kw_913 kw_325 kw_326 (b := 3) (Nat.le_of_ble_eq_true rfl) (Nat.le_of_ble_eq_true rfl) rfl ?_
      refine S_X3_at_3 a1 ?_
      show mK Γ M_X7_byteAt (d + 2) Q 60 1 6 34 [(0, .ref 0), (1, .int a1)] [.int (f_X3_at_3 σ a1)] 60 mSH σ
      exact mK_iret dX7_byteAt_34 rfl ((h.2 c1).1 c2)
    · exact mK_throwW (text := "no such place on the paper") dX7_byteAt_15 dX7_byteAt_18 dX7_byteAt_19 dX7_byteAt_22 dX7_byteAt_25 rfl rfl (by decide) (Nat.le_of_ble_eq_true rfl) (Nat.le_of_ble_eq_true rfl) (Nat.le_of_ble_eq_true rfl) (by decide +kernel) kw_789 kw_110 mTh_2 ((h.2 c1).2 c2)
set_option maxRecDepth 20000 in
theorem C_X7_needItem_0 {Γ : Nat × (Nat → Int32)} {d : Nat} {Q : mQ} {σ : mS} (a1 : Int32) (h : (((f_X0_hasItem_5 σ a1) = 0 → Q (.inr "java/lang/IndexOutOfBoundsException") 60 mSH σ) ∧ (¬ ((f_X0_hasItem_5 σ a1) = 0) → Q (.inl none) 60 mSH σ))) : mCall Γ M_X7_needItem (d + 2) 1 6 [.ref 0, .int a1] 60 mSH σ Q := by
  refine mCall_of rfl (by decide) (Nat.le_of_ble_eq_true rfl) (mOkC (mOk_lo (Nat.le_of_ble_eq_true rfl)) (mOkC mOk_i mOkN)) ?_
  show mK Γ M_X7_needItem (d + 2) Q 60 1 6 0 [(0, .ref 0), (1, .int a1)] [] 60 mSH σ
  refine mK_aload_n dX7_needItem_0 rfl rfl (.head _) ?_
  refine ru_getR (k := 2) (ci := 6) (a := 5) dX7_needItem_1 rfl rfl rfl kw_283 ?_
  refine mK_iload_n dX7_needItem_4 rfl rfl (.tail _ (.head _)) ?_
  refine mK_invV (J := M_X0_hasItem) (k := 1) (as := [.int a1]) (st := []) (c1 := 0) (s1 := 0) dX7_needItem_5 rfl jw_X0_hasItem jn_X0_hasItem rfl (Nat.le_of_ble_eq_true rfl) (Nat.zero_le _) (Nat.zero_le _) rfl kw_886 kw_566 kw_567 (b := 5) (Nat.le_of_ble_eq_true rfl) (Nat.le_of_ble_eq_true rfl) rfl ?_
  refine S_X0_hasItem_5 a1 ?_
  show mK Γ M_X7_needItem (d + 2) Q 60 1 6 8 [(0, .ref 0), (1, .int a1)] [.int (f_X0_hasItem_5 σ a1)] 60 mSH σ
  refine ru_if_ne (tgt := 22) dX7_needItem_8 rfl (by decide) (fun c1 => ?_) (fun c1 => ?_)
  · exact mK_vret dX7_needItem_22 rfl (h.2 c1)
  · exact mK_throwW (text := "no such item") dX7_needItem_11 dX7_needItem_14 dX7_needItem_15 dX7_needItem_18 dX7_needItem_21 rfl rfl (by decide) (Nat.le_of_ble_eq_true rfl) (Nat.le_of_ble_eq_true rfl) (Nat.le_of_ble_eq_true rfl) (by decide +kernel) kw_789 kw_110 mTh_2 (h.1 c1)
def f_X7_errorAt_0 (σ : mS) : Int32 := (σ.1 0 8)
set_option maxRecDepth 20000 in
theorem S_X7_errorAt_0 {Γ : Nat × (Nat → Int32)} {d : Nat} {Q : mQ} {σ : mS} (hQ : Q (.inl (some (.int (f_X7_errorAt_0 σ)))) 60 mSH σ) : mCall Γ M_X7_errorAt (d + 1) 0 0 [.ref 0] 60 mSH σ Q := by
  refine mCall_of rfl (by decide) (Nat.le_of_ble_eq_true rfl) (mOkC (mOk_lo (Nat.le_of_ble_eq_true rfl)) mOkN) ?_
  show mK Γ M_X7_errorAt (d + 1) Q 60 0 0 0 [(0, .ref 0)] [] 60 mSH σ
  refine mK_aload_n dX7_errorAt_0 rfl rfl (.head _) ?_
  refine ru_getI (k := 8) (ci := 6) dX7_errorAt_1 rfl rfl kw_289 ?_
  exact mK_iret dX7_errorAt_4 rfl (by rw [(show (f_X7_errorAt_0 σ) = (σ.1 0 8) from rfl)] at hQ; exact hQ)
set_option maxRecDepth 20000 in
theorem C_X7_feed_0 {Γ : Nat × (Nat → Int32)} {d : Nat} {Q : mQ} {σ : mS} (a1 : Int32) (a2 : Int32) (a3 : Int32) (a4 : Int32) (a5 : Int32) (h : ((((f_X3_length_1 σ) + 20) ≤ 2000 → Q (.inl (some (.int (f_X3_length_1 (g_X3_appendFour_1 (g_X3_appendFour_1 (g_X3_appendFour_1 (g_X3_appendFour_1 (g_X3_appendFour_1 σ a1) a2) a3) a4) a5))))) 60 mSH (g_X3_appendFour_1 (g_X3_appendFour_1 (g_X3_appendFour_1 (g_X3_appendFour_1 (g_X3_appendFour_1 σ a1) a2) a3) a4) a5)) ∧ (¬ (((f_X3_length_1 σ) + 20) ≤ 2000) → Q (.inr "java/lang/IllegalStateException") 60 mSH σ))) : mCall Γ M_X7_feed (d + 3) 1 6 [.ref 0, .int a1, .int a2, .int a3, .int a4, .int a5] 60 mSH σ Q := by
  refine mCall_of rfl (by decide) (Nat.le_of_ble_eq_true rfl) (mOkC (mOk_lo (Nat.le_of_ble_eq_true rfl)) (mOkC mOk_i (mOkC mOk_i (mOkC mOk_i (mOkC mOk_i (mOkC mOk_i mOkN)))))) ?_
  show mK Γ M_X7_feed (d + 3) Q 60 1 6 0 [(0, .ref 0), (1, .int a1), (2, .int a2), (3, .int a3), (4, .int a4), (5, .int a5)] [] 60 mSH σ
  refine mK_aload_n dX7_feed_0 rfl rfl (.head _) ?_
  refine ru_getR (k := 0) (ci := 6) (a := 1) dX7_feed_1 rfl rfl rfl kw_281 ?_
  refine mK_invV (J := M_X3_length) (k := 0) (as := []) (st := []) (c1 := 0) (s1 := 0) dX7_feed_4 rfl jw_X3_length jn_X3_length rfl (Nat.le_of_ble_eq_true rfl) (Nat.zero_le _) (Nat.zero_le _) rfl kw_746 kw_321 kw_322 (b := 1) (Nat.le_of_ble_eq_true rfl) (Nat.le_of_ble_eq_true rfl) rfl ?_
  refine S_X3_length_1  ?_
  show mK Γ M_X7_feed (d + 3) Q 60 1 6 7 [(0, .ref 0), (1, .int a1), (2, .int a2), (3, .int a3), (4, .int a4), (5, .int a5)] [.int (f_X3_length_1 σ)] 60 mSH σ
  refine mK_bipush dX7_feed_7 rfl qbi_20 ?_
  refine mK_iadd dX7_feed_9 rfl ?_
  refine mK_sipush dX7_feed_10 rfl qsi_2000 ?_
  refine mK_icmp_le (tgt := 26) dX7_feed_13 rfl (by decide) (fun c1 => ?_) (fun c1 => ?_)
  · refine mK_aload_n dX7_feed_26 rfl rfl (.head _) ?_
    refine ru_getR (k := 0) (ci := 6) (a := 1) dX7_feed_27 rfl rfl rfl kw_281 ?_
    refine mK_iload_n dX7_feed_30 rfl rfl (.tail _ (.head _)) ?_
    refine mK_invV (J := M_X3_appendFour) (k := 1) (as := [.int a1]) (st := []) (c1 := 0) (s1 := 0) dX7_feed_31 rfl jw_X3_appendFour jn_X3_appendFour rfl (Nat.le_of_ble_eq_true rfl) (Nat.zero_le _) (Nat.zero_le _) rfl kw_938 kw_939 kw_940 (b := 1) (Nat.le_of_ble_eq_true rfl) (Nat.le_of_ble_eq_true rfl) rfl ?_
    refine S_X3_appendFour_1 a1 ?_
    show mK Γ M_X7_feed (d + 3) Q 60 1 6 34 [(0, .ref 0), (1, .int a1), (2, .int a2), (3, .int a3), (4, .int a4), (5, .int a5)] [] 60 mSH (g_X3_appendFour_1 σ a1)
    refine mK_aload_n dX7_feed_34 rfl rfl (.head _) ?_
    refine ru_getR (k := 0) (ci := 6) (a := 1) dX7_feed_35 rfl rfl rfl kw_281 ?_
    refine mK_iload_n dX7_feed_38 rfl rfl (.tail _ (.tail _ (.head _))) ?_
    refine mK_invV (J := M_X3_appendFour) (k := 1) (as := [.int a2]) (st := []) (c1 := 0) (s1 := 0) dX7_feed_39 rfl jw_X3_appendFour jn_X3_appendFour rfl (Nat.le_of_ble_eq_true rfl) (Nat.zero_le _) (Nat.zero_le _) rfl kw_938 kw_939 kw_940 (b := 1) (Nat.le_of_ble_eq_true rfl) (Nat.le_of_ble_eq_true rfl) rfl ?_
    refine S_X3_appendFour_1 a2 ?_
    show mK Γ M_X7_feed (d + 3) Q 60 1 6 42 [(0, .ref 0), (1, .int a1), (2, .int a2), (3, .int a3), (4, .int a4), (5, .int a5)] [] 60 mSH (g_X3_appendFour_1 (g_X3_appendFour_1 σ a1) a2)
    refine mK_aload_n dX7_feed_42 rfl rfl (.head _) ?_
    refine ru_getR (k := 0) (ci := 6) (a := 1) dX7_feed_43 rfl rfl rfl kw_281 ?_
    refine mK_iload_n dX7_feed_46 rfl rfl (.tail _ (.tail _ (.tail _ (.head _)))) ?_
    refine mK_invV (J := M_X3_appendFour) (k := 1) (as := [.int a3]) (st := []) (c1 := 0) (s1 := 0) dX7_feed_47 rfl jw_X3_appendFour jn_X3_appendFour rfl (Nat.le_of_ble_eq_true rfl) (Nat.zero_le _) (Nat.zero_le _) rfl kw_938 kw_939 kw_940 (b := 1) (Nat.le_of_ble_eq_true rfl) (Nat.le_of_ble_eq_true rfl) rfl ?_
    refine S_X3_appendFour_1 a3 ?_
    show mK Γ M_X7_feed (d + 3) Q 60 1 6 50 [(0, .ref 0), (1, .int a1), (2, .int a2), (3, .int a3), (4, .int a4), (5, .int a5)] [] 60 mSH (g_X3_appendFour_1 (g_X3_appendFour_1 (g_X3_appendFour_1 σ a1) a2) a3)
    refine mK_aload_n dX7_feed_50 rfl rfl (.head _) ?_
    refine ru_getR (k := 0) (ci := 6) (a := 1) dX7_feed_51 rfl rfl rfl kw_281 ?_
    refine mK_iload dX7_feed_54 rfl (.tail _ (.tail _ (.tail _ (.tail _ (.head _))))) ?_
    refine mK_invV (J := M_X3_appendFour) (k := 1) (as := [.int a4]) (st := []) (c1 := 0) (s1 := 0) dX7_feed_56 rfl jw_X3_appendFour jn_X3_appendFour rfl (Nat.le_of_ble_eq_true rfl) (Nat.zero_le _) (Nat.zero_le _) rfl kw_938 kw_939 kw_940 (b := 1) (Nat.le_of_ble_eq_true rfl) (Nat.le_of_ble_eq_true rfl) rfl ?_
    refine S_X3_appendFour_1 a4 ?_
    show mK Γ M_X7_feed (d + 3) Q 60 1 6 59 [(0, .ref 0), (1, .int a1), (2, .int a2), (3, .int a3), (4, .int a4), (5, .int a5)] [] 60 mSH (g_X3_appendFour_1 (g_X3_appendFour_1 (g_X3_appendFour_1 (g_X3_appendFour_1 σ a1) a2) a3) a4)
    refine mK_aload_n dX7_feed_59 rfl rfl (.head _) ?_
    refine ru_getR (k := 0) (ci := 6) (a := 1) dX7_feed_60 rfl rfl rfl kw_281 ?_
    refine mK_iload dX7_feed_63 rfl (.tail _ (.tail _ (.tail _ (.tail _ (.tail _ (.head _)))))) ?_
    refine mK_invV (J := M_X3_appendFour) (k := 1) (as := [.int a5]) (st := []) (c1 := 0) (s1 := 0) dX7_feed_65 rfl jw_X3_appendFour jn_X3_appendFour rfl (Nat.le_of_ble_eq_true rfl) (Nat.zero_le _) (Nat.zero_le _) rfl kw_938 kw_939 kw_940 (b := 1) (Nat.le_of_ble_eq_true rfl) (Nat.le_of_ble_eq_true rfl) rfl ?_
    refine S_X3_appendFour_1 a5 ?_
    show mK Γ M_X7_feed (d + 3) Q 60 1 6 68 [(0, .ref 0), (1, .int a1), (2, .int a2), (3, .int a3), (4, .int a4), (5, .int a5)] [] 60 mSH (g_X3_appendFour_1 (g_X3_appendFour_1 (g_X3_appendFour_1 (g_X3_appendFour_1 (g_X3_appendFour_1 σ a1) a2) a3) a4) a5)
    refine mK_aload_n dX7_feed_68 rfl rfl (.head _) ?_
    refine ru_getR (k := 0) (ci := 6) (a := 1) dX7_feed_69 rfl rfl rfl kw_281 ?_
    refine mK_invV (J := M_X3_length) (k := 0) (as := []) (st := []) (c1 := 0) (s1 := 0) dX7_feed_72 rfl jw_X3_length jn_X3_length rfl (Nat.le_of_ble_eq_true rfl) (Nat.zero_le _) (Nat.zero_le _) rfl kw_746 kw_321 kw_322 (b := 1) (Nat.le_of_ble_eq_true rfl) (Nat.le_of_ble_eq_true rfl) rfl ?_
    refine S_X3_length_1  ?_
    show mK Γ M_X7_feed (d + 3) Q 60 1 6 75 [(0, .ref 0), (1, .int a1), (2, .int a2), (3, .int a3), (4, .int a4), (5, .int a5)] [.int (f_X3_length_1 (g_X3_appendFour_1 (g_X3_appendFour_1 (g_X3_appendFour_1 (g_X3_appendFour_1 (g_X3_appendFour_1 σ a1) a2) a3) a4) a5))] 60 mSH (g_X3_appendFour_1 (g_X3_appendFour_1 (g_X3_appendFour_1 (g_X3_appendFour_1 (g_X3_appendFour_1 σ a1) a2) a3) a4) a5)
    exact mK_iret dX7_feed_75 rfl (h.1 c1)
  · exact mK_throw (text := "the tape is too short for this") dX7_feed_16 dX7_feed_19 dX7_feed_20 dX7_feed_22 dX7_feed_25 rfl rfl (by decide) (Nat.le_of_ble_eq_true rfl) (Nat.le_of_ble_eq_true rfl) (Nat.le_of_ble_eq_true rfl) (by decide +kernel) kw_922 kw_100 mTh_0 (h.2 c1)
set_option maxRecDepth 20000 in
theorem C_X7_give_0 {Γ : Nat × (Nat → Int32)} {d : Nat} {Q : mQ} {σ : mS} (a1 : Int32) (a2 : Int32) (h : (((f_X0_hasSpeaker_5 σ a1) = 0 → Q (.inr "java/lang/IndexOutOfBoundsException") 60 mSH σ) ∧ (¬ ((f_X0_hasSpeaker_5 σ a1) = 0) → ((a2 < 1 → Q (.inr "java/lang/IllegalArgumentException") 60 mSH σ) ∧ (¬ (a2 < 1) → ((a2 ≤ 3600 → Q (.inl (some (.int (f_X0_timeOf_5 (g_X0_addTime_5 σ a1 a2) a1)))) 60 mSH (g_X0_addTime_5 σ a1 a2)) ∧ (¬ (a2 ≤ 3600) → Q (.inr "java/lang/IllegalArgumentException") 60 mSH σ))))))) : mCall Γ M_X7_give (d + 3) 2 12 [.ref 0, .int a1, .int a2] 60 mSH σ Q := by
  refine mCall_of rfl (by decide) (Nat.le_of_ble_eq_true rfl) (mOkC (mOk_lo (Nat.le_of_ble_eq_true rfl)) (mOkC mOk_i (mOkC mOk_i mOkN))) ?_
  show mK Γ M_X7_give (d + 3) Q 60 2 12 0 [(0, .ref 0), (1, .int a1), (2, .int a2)] [] 60 mSH σ
  refine mK_aload_n dX7_give_0 rfl rfl (.head _) ?_
  refine mK_iload_n dX7_give_1 rfl rfl (.tail _ (.head _)) ?_
  refine mK_invV (J := M_X7_needSpeaker) (k := 1) (as := [.int a1]) (st := []) (c1 := 1) (s1 := 6) dX7_give_2 rfl jw_X7_needSpeaker jn_X7_needSpeaker rfl (Nat.le_of_ble_eq_true rfl) (Nat.le_of_ble_eq_true rfl) (Nat.le_of_ble_eq_true rfl) rfl kw_860 kw_862 kw_33 (b := 0) (Nat.le_of_ble_eq_true rfl) (Nat.le_of_ble_eq_true rfl) rfl ?_
  refine C_X7_needSpeaker_0 a1 ?_
  refine ⟨fun c1 => ?_, fun c1 => ?_⟩
  · exact (h.1 c1)
  · show mK Γ M_X7_give (d + 3) Q 60 1 6 5 [(0, .ref 0), (1, .int a1), (2, .int a2)] [] 60 mSH σ
    refine mK_iload_n dX7_give_5 rfl rfl (.tail _ (.tail _ (.head _))) ?_
    refine mK_iconst dX7_give_6 rfl qic_1 ?_
    refine mK_icmp_lt (tgt := 17) dX7_give_7 rfl (by decide) (fun c2 => ?_) (fun c2 => ?_)
    · exact mK_throw (text := "so much time can't be given") dX7_give_17 dX7_give_20 dX7_give_21 dX7_give_23 dX7_give_26 rfl rfl (by decide) (Nat.le_of_ble_eq_true rfl) (Nat.le_of_ble_eq_true rfl) (Nat.le_of_ble_eq_true rfl) (by decide +kernel) kw_950 kw_101 mTh_1 ((h.2 c1).1 c2)
    · refine mK_iload_n dX7_give_10 rfl rfl (.tail _ (.tail _ (.head _))) ?_
      refine mK_sipush dX7_give_11 rfl qsi_3600 ?_
      refine mK_icmp_le (tgt := 27) dX7_give_14 rfl (by decide) (fun c3 => ?_) (fun c3 => ?_)
      · refine mK_aload_n dX7_give_27 rfl rfl (.head _) ?_
        refine ru_getR (k := 2) (ci := 6) (a := 5) dX7_give_28 rfl rfl rfl kw_283 ?_
        refine mK_iload_n dX7_give_31 rfl rfl (.tail _ (.head _)) ?_
        refine mK_iload_n dX7_give_32 rfl rfl (.tail _ (.tail _ (.head _))) ?_
        refine mK_invV (J := M_X0_addTime) (k := 2) (as := [.int a1, .int a2]) (st := []) (c1 := 0) (s1 := 0) dX7_give_33 rfl jw_X0_addTime jn_X0_addTime rfl (Nat.le_of_ble_eq_true rfl) (Nat.zero_le _) (Nat.zero_le _) rfl kw_987 kw_546 kw_547 (b := 5) (Nat.le_of_ble_eq_true rfl) (Nat.le_of_ble_eq_true rfl) rfl ?_
        refine S_X0_addTime_5 a1 a2 ?_
        show mK Γ M_X7_give (d + 3) Q 60 1 6 36 [(0, .ref 0), (1, .int a1), (2, .int a2)] [] 60 mSH (g_X0_addTime_5 σ a1 a2)
        refine mK_aload_n dX7_give_36 rfl rfl (.head _) ?_
        refine ru_getR (k := 2) (ci := 6) (a := 5) dX7_give_37 rfl rfl rfl kw_283 ?_
        refine mK_iload_n dX7_give_40 rfl rfl (.tail _ (.head _)) ?_
        refine mK_invV (J := M_X0_timeOf) (k := 1) (as := [.int a1]) (st := []) (c1 := 0) (s1 := 0) dX7_give_41 rfl jw_X0_timeOf jn_X0_timeOf rfl (Nat.le_of_ble_eq_true rfl) (Nat.zero_le _) (Nat.zero_le _) rfl kw_870 kw_538 kw_539 (b := 5) (Nat.le_of_ble_eq_true rfl) (Nat.le_of_ble_eq_true rfl) rfl ?_
        refine S_X0_timeOf_5 a1 ?_
        show mK Γ M_X7_give (d + 3) Q 60 1 6 44 [(0, .ref 0), (1, .int a1), (2, .int a2)] [.int (f_X0_timeOf_5 (g_X0_addTime_5 σ a1 a2) a1)] 60 mSH (g_X0_addTime_5 σ a1 a2)
        exact mK_iret dX7_give_44 rfl (((h.2 c1).2 c2).1 c3)
      · exact mK_throw (text := "so much time can't be given") dX7_give_17 dX7_give_20 dX7_give_21 dX7_give_23 dX7_give_26 rfl rfl (by decide) (Nat.le_of_ble_eq_true rfl) (Nat.le_of_ble_eq_true rfl) (Nat.le_of_ble_eq_true rfl) (by decide +kernel) kw_950 kw_101 mTh_1 (((h.2 c1).2 c2).2 c3)
set_option maxRecDepth 20000 in
theorem C_X7_trim_0 {Γ : Nat × (Nat → Int32)} {d : Nat} {Q : mQ} {σ : mS} (a1 : Int32) (h : ((a1 < 0 → Q (.inr "java/lang/IllegalArgumentException") 60 mSH σ) ∧ (¬ (a1 < 0) → ((a1 ≤ (f_X3_length_1 σ) → Q (.inl (some (.int a1))) 60 mSH (g_X3_shortenTo_1 σ a1)) ∧ (¬ (a1 ≤ (f_X3_length_1 σ)) → Q (.inr "java/lang/IllegalArgumentException") 60 mSH σ))))) : mCall Γ M_X7_trim (d + 2) 1 6 [.ref 0, .int a1] 60 mSH σ Q := by
  refine mCall_of rfl (by decide) (Nat.le_of_ble_eq_true rfl) (mOkC (mOk_lo (Nat.le_of_ble_eq_true rfl)) (mOkC mOk_i mOkN)) ?_
  show mK Γ M_X7_trim (d + 2) Q 60 1 6 0 [(0, .ref 0), (1, .int a1)] [] 60 mSH σ
  refine mK_iload_n dX7_trim_0 rfl rfl (.tail _ (.head _)) ?_
  refine mK_if_lt (tgt := 15) dX7_trim_1 rfl (by decide) (fun c1 => ?_) (fun c1 => ?_)
  · exact mK_throw (text := "the tape has not so many bytes") dX7_trim_15 dX7_trim_18 dX7_trim_19 dX7_trim_21 dX7_trim_24 rfl rfl (by decide) (Nat.le_of_ble_eq_true rfl) (Nat.le_of_ble_eq_true rfl) (Nat.le_of_ble_eq_true rfl) (by decide +kernel) kw_950 kw_101 mTh_1 (h.1 c1)
  · refine mK_iload_n dX7_trim_4 rfl rfl (.tail _ (.head _)) ?_
    refine mK_aload_n dX7_trim_5 rfl rfl (.head _) ?_
    refine ru_getR (k := 0) (ci := 6) (a := 1) dX7_trim_6 rfl rfl rfl kw_281 ?_
    refine mK_invV (J := M_X3_length) (k := 0) (as := []) (st := [.int a1]) (c1 := 0) (s1 := 0) dX7_trim_9 rfl jw_X3_length jn_X3_length rfl (Nat.le_of_ble_eq_true rfl) (Nat.zero_le _) (Nat.zero_le _) rfl kw_746 kw_321 kw_322 (b := 1) (Nat.le_of_ble_eq_true rfl) (Nat.le_of_ble_eq_true rfl) rfl ?_
    refine S_X3_length_1  ?_
    show mK Γ M_X7_trim (d + 2) Q 60 1 6 12 [(0, .ref 0), (1, .int a1)] [.int (f_X3_length_1 σ), .int a1] 60 mSH σ
    refine mK_icmp_le (tgt := 25) dX7_trim_12 rfl (by decide) (fun c2 => ?_) (fun c2 => ?_)
    · refine mK_aload_n dX7_trim_25 rfl rfl (.head _) ?_
      refine ru_getR (k := 0) (ci := 6) (a := 1) dX7_trim_26 rfl rfl rfl kw_281 ?_
      refine mK_iload_n dX7_trim_29 rfl rfl (.tail _ (.head _)) ?_
      refine mK_invV (J := M_X3_shortenTo) (k := 1) (as := [.int a1]) (st := []) (c1 := 0) (s1 := 0) dX7_trim_30 rfl jw_X3_shortenTo jn_X3_shortenTo rfl (Nat.le_of_ble_eq_true rfl) (Nat.zero_le _) (Nat.zero_le _) rfl kw_365 kw_366 kw_367 (b := 1) (Nat.le_of_ble_eq_true rfl) (Nat.le_of_ble_eq_true rfl) rfl ?_
      refine S_X3_shortenTo_1 a1 ?_
      show mK Γ M_X7_trim (d + 2) Q 60 1 6 33 [(0, .ref 0), (1, .int a1)] [] 60 mSH (g_X3_shortenTo_1 σ a1)
      refine mK_iload_n dX7_trim_33 rfl rfl (.tail _ (.head _)) ?_
      exact mK_iret dX7_trim_34 rfl ((h.2 c1).1 c2)
    · exact mK_throw (text := "the tape has not so many bytes") dX7_trim_15 dX7_trim_18 dX7_trim_19 dX7_trim_21 dX7_trim_24 rfl rfl (by decide) (Nat.le_of_ble_eq_true rfl) (Nat.le_of_ble_eq_true rfl) (Nat.le_of_ble_eq_true rfl) (by decide +kernel) kw_950 kw_101 mTh_1 ((h.2 c1).2 c2)
def g_X8_add_32 (σ : mS) (a1 : Int64) (a2 : Int32) (a3 : Int32) (a4 : Int32) (a5 : Int32) (a6 : Int32) : mS := (mPI (mPI (mPI (mPI (mPI (mPI (mPI (mPL σ 35 (σ.1 32 3).toNatClampNeg a1) 36 (σ.1 32 3).toNatClampNeg a2) 37 (σ.1 32 3).toNatClampNeg a3) 38 (σ.1 32 3).toNatClampNeg a4) 39 (σ.1 32 3).toNatClampNeg a5) 40 (σ.1 32 3).toNatClampNeg a6) 41 (σ.1 32 3).toNatClampNeg 0) 32 3 ((σ.1 32 3) + 1))
set_option maxRecDepth 20000 in
theorem S_X8_add_32 {Γ : Nat × (Nat → Int32)} {d : Nat} {Q : mQ} {σ : mS} (a1 : Int64) (a2 : Int32) (a3 : Int32) (a4 : Int32) (a5 : Int32) (a6 : Int32) (hs1 : vp_in (σ.1 32 3) 40) (hQ : Q (.inl none) 60 mSH (g_X8_add_32 σ a1 a2 a3 a4 a5 a6)) : mCall Γ M_X8_add (d + 1) 0 0 [.ref 32, .long a1, .int a2, .int a3, .int a4, .int a5, .int a6] 60 mSH σ Q := by
  refine mCall_of rfl (by decide) (Nat.le_of_ble_eq_true rfl) (mOkC (mOk_lo (Nat.le_of_ble_eq_true rfl)) (mOkC mOk_l (mOkC mOk_i (mOkC mOk_i (mOkC mOk_i (mOkC mOk_i (mOkC mOk_i mOkN))))))) ?_
  show mK Γ M_X8_add (d + 1) Q 60 0 0 0 [(0, .ref 32), (1, .long a1), (3, .int a2), (4, .int a3), (5, .int a4), (6, .int a5), (7, .int a6)] [] 60 mSH σ
  refine mK_aload_n dX8_add_0 rfl rfl (.head _) ?_
  refine ru_getR (k := 4) (ci := 7) (a := 35) dX8_add_1 rfl rfl rfl kw_1087 ?_
  refine mK_aload_n dX8_add_4 rfl rfl (.head _) ?_
  refine ru_getI (k := 3) (ci := 7) dX8_add_5 rfl rfl kw_1085 ?_
  refine mK_lload_n dX8_add_8 rfl rfl (.tail _ (.head _)) ?_
  refine ru_last (n := 40) dX8_add_9 rfl rfl hs1 ?_
  refine mK_aload_n dX8_add_10 rfl rfl (.head _) ?_
  refine ru_getR (k := 5) (ci := 7) (a := 36) dX8_add_11 rfl rfl rfl kw_1089 ?_
  refine mK_aload_n dX8_add_14 rfl rfl (.head _) ?_
  refine ru_getI (k := 3) (ci := 7) dX8_add_15 rfl rfl kw_1085 ?_
  refine mK_iload_n dX8_add_18 rfl rfl (.tail _ (.tail _ (.head _))) ?_
  refine ru_iast (n := 40) dX8_add_19 rfl rfl hs1 ?_
  refine mK_aload_n dX8_add_20 rfl rfl (.head _) ?_
  refine ru_getR (k := 6) (ci := 7) (a := 37) dX8_add_21 rfl rfl rfl kw_1091 ?_
  refine mK_aload_n dX8_add_24 rfl rfl (.head _) ?_
  refine ru_getI (k := 3) (ci := 7) dX8_add_25 rfl rfl kw_1085 ?_
  refine mK_iload dX8_add_28 rfl (.tail _ (.tail _ (.tail _ (.head _)))) ?_
  refine ru_iast (n := 40) dX8_add_30 rfl rfl hs1 ?_
  refine mK_aload_n dX8_add_31 rfl rfl (.head _) ?_
  refine ru_getR (k := 7) (ci := 7) (a := 38) dX8_add_32 rfl rfl rfl kw_1093 ?_
  refine mK_aload_n dX8_add_35 rfl rfl (.head _) ?_
  refine ru_getI (k := 3) (ci := 7) dX8_add_36 rfl rfl kw_1085 ?_
  refine mK_iload dX8_add_39 rfl (.tail _ (.tail _ (.tail _ (.tail _ (.head _))))) ?_
  refine ru_iast (n := 40) dX8_add_41 rfl rfl hs1 ?_
  refine mK_aload_n dX8_add_42 rfl rfl (.head _) ?_
  refine ru_getR (k := 8) (ci := 7) (a := 39) dX8_add_43 rfl rfl rfl kw_1095 ?_
  refine mK_aload_n dX8_add_46 rfl rfl (.head _) ?_
  refine ru_getI (k := 3) (ci := 7) dX8_add_47 rfl rfl kw_1085 ?_
  refine mK_iload dX8_add_50 rfl (.tail _ (.tail _ (.tail _ (.tail _ (.tail _ (.head _)))))) ?_
  refine ru_iast (n := 40) dX8_add_52 rfl rfl hs1 ?_
  refine mK_aload_n dX8_add_53 rfl rfl (.head _) ?_
  refine ru_getR (k := 9) (ci := 7) (a := 40) dX8_add_54 rfl rfl rfl kw_1097 ?_
  refine mK_aload_n dX8_add_57 rfl rfl (.head _) ?_
  refine ru_getI (k := 3) (ci := 7) dX8_add_58 rfl rfl kw_1085 ?_
  refine mK_iload dX8_add_61 rfl (.tail _ (.tail _ (.tail _ (.tail _ (.tail _ (.tail _ (.head _))))))) ?_
  refine ru_iast (n := 40) dX8_add_63 rfl rfl hs1 ?_
  refine mK_aload_n dX8_add_64 rfl rfl (.head _) ?_
  refine ru_getR (k := 10) (ci := 7) (a := 41) dX8_add_65 rfl rfl rfl kw_1099 ?_
  refine mK_aload_n dX8_add_68 rfl rfl (.head _) ?_
  refine ru_getI (k := 3) (ci := 7) dX8_add_69 rfl rfl kw_1085 ?_
  refine mK_iconst dX8_add_72 rfl qic_0 ?_
  refine ru_iast (n := 40) dX8_add_73 rfl rfl hs1 ?_
  refine mK_aload_n dX8_add_74 rfl rfl (.head _) ?_
  refine mK_dup dX8_add_75 rfl rfl ?_
  refine ru_getI (k := 3) (ci := 7) dX8_add_76 rfl rfl kw_1085 ?_
  refine mK_iconst dX8_add_79 rfl qic_1 ?_
  refine mK_iadd dX8_add_80 rfl ?_
  refine ru_putI (k := 3) (ci := 7) dX8_add_81 rfl rfl rfl kw_1085 ?_
  exact mK_vret dX8_add_84 rfl (by rw [(show (g_X8_add_32 σ a1 a2 a3 a4 a5 a6) = (mPI (mPI (mPI (mPI (mPI (mPI (mPI (mPL σ 35 (σ.1 32 3).toNatClampNeg a1) 36 (σ.1 32 3).toNatClampNeg a2) 37 (σ.1 32 3).toNatClampNeg a3) 38 (σ.1 32 3).toNatClampNeg a4) 39 (σ.1 32 3).toNatClampNeg a5) 40 (σ.1 32 3).toNatClampNeg a6) 41 (σ.1 32 3).toNatClampNeg 0) 32 3 ((σ.1 32 3) + 1)) from rfl)] at hQ; exact hQ)
def g_X8_copy_32_44_34 (σ : mS) : mS := (mRowI σ 34 (va_cpy (σ.1 44) (σ.1 34) 0 0 6))
set_option maxRecDepth 20000 in
theorem S_X8_copy_32_44_34 {Γ : Nat × (Nat → Int32)} {d : Nat} {Q : mQ} {σ : mS} (hQ : Q (.inl none) 60 mSH (g_X8_copy_32_44_34 σ)) : mCall Γ M_X8_copy (d + 1) 0 0 [.ref 32, .ref 44, .ref 34] 60 mSH σ Q := by
  refine mCall_of rfl (by decide) (Nat.le_of_ble_eq_true rfl) (mOkC (mOk_lo (Nat.le_of_ble_eq_true rfl)) (mOkC (mOk_lo (Nat.le_of_ble_eq_true rfl)) (mOkC (mOk_lo (Nat.le_of_ble_eq_true rfl)) mOkN))) ?_
  show mK Γ M_X8_copy (d + 1) Q 60 0 0 0 [(0, .ref 32), (1, .ref 44), (2, .ref 34)] [] 60 mSH σ
  refine mK_aload_n dX8_copy_0 rfl rfl (.tail _ (.head _)) ?_
  refine mK_iconst dX8_copy_1 rfl qic_0 ?_
  refine mK_aload_n dX8_copy_2 rfl rfl (.tail _ (.tail _ (.head _))) ?_
  refine mK_iconst dX8_copy_3 rfl qic_0 ?_
  refine mK_aload_n dX8_copy_4 rfl rfl (.tail _ (.head _)) ?_
  refine ru_alen (n := 6) (t := 0) dX8_copy_5 rfl rfl ?_
  refine mK_copyI (j1 := 44) (j2 := 34) dX8_copy_6 rfl (by decide) (by decide) rfl rfl (by decide) (by decide) (by decide) (by decide) (by decide) (Nat.le_of_ble_eq_true rfl) kw_1375 kw_474 kw_473 kw_104 ?_
  exact mK_vret dX8_copy_9 rfl (by rw [(show (g_X8_copy_32_44_34 σ) = (mRowI σ 34 (va_cpy (σ.1 44) (σ.1 34) 0 0 6)) from rfl)] at hQ; exact hQ)
def g_X8_copy_32_46_36 (σ : mS) : mS := (mRowI σ 36 (va_cpy (σ.1 46) (σ.1 36) 0 0 40))
set_option maxRecDepth 20000 in
theorem S_X8_copy_32_46_36 {Γ : Nat × (Nat → Int32)} {d : Nat} {Q : mQ} {σ : mS} (hQ : Q (.inl none) 60 mSH (g_X8_copy_32_46_36 σ)) : mCall Γ M_X8_copy (d + 1) 0 0 [.ref 32, .ref 46, .ref 36] 60 mSH σ Q := by
  refine mCall_of rfl (by decide) (Nat.le_of_ble_eq_true rfl) (mOkC (mOk_lo (Nat.le_of_ble_eq_true rfl)) (mOkC (mOk_lo (Nat.le_of_ble_eq_true rfl)) (mOkC (mOk_lo (Nat.le_of_ble_eq_true rfl)) mOkN))) ?_
  show mK Γ M_X8_copy (d + 1) Q 60 0 0 0 [(0, .ref 32), (1, .ref 46), (2, .ref 36)] [] 60 mSH σ
  refine mK_aload_n dX8_copy_0 rfl rfl (.tail _ (.head _)) ?_
  refine mK_iconst dX8_copy_1 rfl qic_0 ?_
  refine mK_aload_n dX8_copy_2 rfl rfl (.tail _ (.tail _ (.head _))) ?_
  refine mK_iconst dX8_copy_3 rfl qic_0 ?_
  refine mK_aload_n dX8_copy_4 rfl rfl (.tail _ (.head _)) ?_
  refine ru_alen (n := 40) (t := 0) dX8_copy_5 rfl rfl ?_
  refine mK_copyI (j1 := 46) (j2 := 36) dX8_copy_6 rfl (by decide) (by decide) rfl rfl (by decide) (by decide) (by decide) (by decide) (by decide) (Nat.le_of_ble_eq_true rfl) kw_1375 kw_474 kw_473 kw_104 ?_
  exact mK_vret dX8_copy_9 rfl (by rw [(show (g_X8_copy_32_46_36 σ) = (mRowI σ 36 (va_cpy (σ.1 46) (σ.1 36) 0 0 40)) from rfl)] at hQ; exact hQ)
def g_X8_copy_32_47_37 (σ : mS) : mS := (mRowI σ 37 (va_cpy (σ.1 47) (σ.1 37) 0 0 40))
set_option maxRecDepth 20000 in
theorem S_X8_copy_32_47_37 {Γ : Nat × (Nat → Int32)} {d : Nat} {Q : mQ} {σ : mS} (hQ : Q (.inl none) 60 mSH (g_X8_copy_32_47_37 σ)) : mCall Γ M_X8_copy (d + 1) 0 0 [.ref 32, .ref 47, .ref 37] 60 mSH σ Q := by
  refine mCall_of rfl (by decide) (Nat.le_of_ble_eq_true rfl) (mOkC (mOk_lo (Nat.le_of_ble_eq_true rfl)) (mOkC (mOk_lo (Nat.le_of_ble_eq_true rfl)) (mOkC (mOk_lo (Nat.le_of_ble_eq_true rfl)) mOkN))) ?_
  show mK Γ M_X8_copy (d + 1) Q 60 0 0 0 [(0, .ref 32), (1, .ref 47), (2, .ref 37)] [] 60 mSH σ
  refine mK_aload_n dX8_copy_0 rfl rfl (.tail _ (.head _)) ?_
  refine mK_iconst dX8_copy_1 rfl qic_0 ?_
  refine mK_aload_n dX8_copy_2 rfl rfl (.tail _ (.tail _ (.head _))) ?_
  refine mK_iconst dX8_copy_3 rfl qic_0 ?_
  refine mK_aload_n dX8_copy_4 rfl rfl (.tail _ (.head _)) ?_
  refine ru_alen (n := 40) (t := 0) dX8_copy_5 rfl rfl ?_
  refine mK_copyI (j1 := 47) (j2 := 37) dX8_copy_6 rfl (by decide) (by decide) rfl rfl (by decide) (by decide) (by decide) (by decide) (by decide) (Nat.le_of_ble_eq_true rfl) kw_1375 kw_474 kw_473 kw_104 ?_
  exact mK_vret dX8_copy_9 rfl (by rw [(show (g_X8_copy_32_47_37 σ) = (mRowI σ 37 (va_cpy (σ.1 47) (σ.1 37) 0 0 40)) from rfl)] at hQ; exact hQ)
def g_X8_copy_32_48_38 (σ : mS) : mS := (mRowI σ 38 (va_cpy (σ.1 48) (σ.1 38) 0 0 40))
set_option maxRecDepth 20000 in
theorem S_X8_copy_32_48_38 {Γ : Nat × (Nat → Int32)} {d : Nat} {Q : mQ} {σ : mS} (hQ : Q (.inl none) 60 mSH (g_X8_copy_32_48_38 σ)) : mCall Γ M_X8_copy (d + 1) 0 0 [.ref 32, .ref 48, .ref 38] 60 mSH σ Q := by
  refine mCall_of rfl (by decide) (Nat.le_of_ble_eq_true rfl) (mOkC (mOk_lo (Nat.le_of_ble_eq_true rfl)) (mOkC (mOk_lo (Nat.le_of_ble_eq_true rfl)) (mOkC (mOk_lo (Nat.le_of_ble_eq_true rfl)) mOkN))) ?_
  show mK Γ M_X8_copy (d + 1) Q 60 0 0 0 [(0, .ref 32), (1, .ref 48), (2, .ref 38)] [] 60 mSH σ
  refine mK_aload_n dX8_copy_0 rfl rfl (.tail _ (.head _)) ?_
  refine mK_iconst dX8_copy_1 rfl qic_0 ?_
  refine mK_aload_n dX8_copy_2 rfl rfl (.tail _ (.tail _ (.head _))) ?_
  refine mK_iconst dX8_copy_3 rfl qic_0 ?_
  refine mK_aload_n dX8_copy_4 rfl rfl (.tail _ (.head _)) ?_
  refine ru_alen (n := 40) (t := 0) dX8_copy_5 rfl rfl ?_
  refine mK_copyI (j1 := 48) (j2 := 38) dX8_copy_6 rfl (by decide) (by decide) rfl rfl (by decide) (by decide) (by decide) (by decide) (by decide) (Nat.le_of_ble_eq_true rfl) kw_1375 kw_474 kw_473 kw_104 ?_
  exact mK_vret dX8_copy_9 rfl (by rw [(show (g_X8_copy_32_48_38 σ) = (mRowI σ 38 (va_cpy (σ.1 48) (σ.1 38) 0 0 40)) from rfl)] at hQ; exact hQ)
def g_X8_copy_32_49_39 (σ : mS) : mS := (mRowI σ 39 (va_cpy (σ.1 49) (σ.1 39) 0 0 40))
set_option maxRecDepth 20000 in
theorem S_X8_copy_32_49_39 {Γ : Nat × (Nat → Int32)} {d : Nat} {Q : mQ} {σ : mS} (hQ : Q (.inl none) 60 mSH (g_X8_copy_32_49_39 σ)) : mCall Γ M_X8_copy (d + 1) 0 0 [.ref 32, .ref 49, .ref 39] 60 mSH σ Q := by
  refine mCall_of rfl (by decide) (Nat.le_of_ble_eq_true rfl) (mOkC (mOk_lo (Nat.le_of_ble_eq_true rfl)) (mOkC (mOk_lo (Nat.le_of_ble_eq_true rfl)) (mOkC (mOk_lo (Nat.le_of_ble_eq_true rfl)) mOkN))) ?_
  show mK Γ M_X8_copy (d + 1) Q 60 0 0 0 [(0, .ref 32), (1, .ref 49), (2, .ref 39)] [] 60 mSH σ
  refine mK_aload_n dX8_copy_0 rfl rfl (.tail _ (.head _)) ?_
  refine mK_iconst dX8_copy_1 rfl qic_0 ?_
  refine mK_aload_n dX8_copy_2 rfl rfl (.tail _ (.tail _ (.head _))) ?_
  refine mK_iconst dX8_copy_3 rfl qic_0 ?_
  refine mK_aload_n dX8_copy_4 rfl rfl (.tail _ (.head _)) ?_
  refine ru_alen (n := 40) (t := 0) dX8_copy_5 rfl rfl ?_
  refine mK_copyI (j1 := 49) (j2 := 39) dX8_copy_6 rfl (by decide) (by decide) rfl rfl (by decide) (by decide) (by decide) (by decide) (by decide) (Nat.le_of_ble_eq_true rfl) kw_1375 kw_474 kw_473 kw_104 ?_
  exact mK_vret dX8_copy_9 rfl (by rw [(show (g_X8_copy_32_49_39 σ) = (mRowI σ 39 (va_cpy (σ.1 49) (σ.1 39) 0 0 40)) from rfl)] at hQ; exact hQ)
def g_X8_copy_32_50_40 (σ : mS) : mS := (mRowI σ 40 (va_cpy (σ.1 50) (σ.1 40) 0 0 40))
set_option maxRecDepth 20000 in
theorem S_X8_copy_32_50_40 {Γ : Nat × (Nat → Int32)} {d : Nat} {Q : mQ} {σ : mS} (hQ : Q (.inl none) 60 mSH (g_X8_copy_32_50_40 σ)) : mCall Γ M_X8_copy (d + 1) 0 0 [.ref 32, .ref 50, .ref 40] 60 mSH σ Q := by
  refine mCall_of rfl (by decide) (Nat.le_of_ble_eq_true rfl) (mOkC (mOk_lo (Nat.le_of_ble_eq_true rfl)) (mOkC (mOk_lo (Nat.le_of_ble_eq_true rfl)) (mOkC (mOk_lo (Nat.le_of_ble_eq_true rfl)) mOkN))) ?_
  show mK Γ M_X8_copy (d + 1) Q 60 0 0 0 [(0, .ref 32), (1, .ref 50), (2, .ref 40)] [] 60 mSH σ
  refine mK_aload_n dX8_copy_0 rfl rfl (.tail _ (.head _)) ?_
  refine mK_iconst dX8_copy_1 rfl qic_0 ?_
  refine mK_aload_n dX8_copy_2 rfl rfl (.tail _ (.tail _ (.head _))) ?_
  refine mK_iconst dX8_copy_3 rfl qic_0 ?_
  refine mK_aload_n dX8_copy_4 rfl rfl (.tail _ (.head _)) ?_
  refine ru_alen (n := 40) (t := 0) dX8_copy_5 rfl rfl ?_
  refine mK_copyI (j1 := 50) (j2 := 40) dX8_copy_6 rfl (by decide) (by decide) rfl rfl (by decide) (by decide) (by decide) (by decide) (by decide) (Nat.le_of_ble_eq_true rfl) kw_1375 kw_474 kw_473 kw_104 ?_
  exact mK_vret dX8_copy_9 rfl (by rw [(show (g_X8_copy_32_50_40 σ) = (mRowI σ 40 (va_cpy (σ.1 50) (σ.1 40) 0 0 40)) from rfl)] at hQ; exact hQ)
def g_X8_copy_32_51_41 (σ : mS) : mS := (mRowI σ 41 (va_cpy (σ.1 51) (σ.1 41) 0 0 40))
set_option maxRecDepth 20000 in
theorem S_X8_copy_32_51_41 {Γ : Nat × (Nat → Int32)} {d : Nat} {Q : mQ} {σ : mS} (hQ : Q (.inl none) 60 mSH (g_X8_copy_32_51_41 σ)) : mCall Γ M_X8_copy (d + 1) 0 0 [.ref 32, .ref 51, .ref 41] 60 mSH σ Q := by
  refine mCall_of rfl (by decide) (Nat.le_of_ble_eq_true rfl) (mOkC (mOk_lo (Nat.le_of_ble_eq_true rfl)) (mOkC (mOk_lo (Nat.le_of_ble_eq_true rfl)) (mOkC (mOk_lo (Nat.le_of_ble_eq_true rfl)) mOkN))) ?_
  show mK Γ M_X8_copy (d + 1) Q 60 0 0 0 [(0, .ref 32), (1, .ref 51), (2, .ref 41)] [] 60 mSH σ
  refine mK_aload_n dX8_copy_0 rfl rfl (.tail _ (.head _)) ?_
  refine mK_iconst dX8_copy_1 rfl qic_0 ?_
  refine mK_aload_n dX8_copy_2 rfl rfl (.tail _ (.tail _ (.head _))) ?_
  refine mK_iconst dX8_copy_3 rfl qic_0 ?_
  refine mK_aload_n dX8_copy_4 rfl rfl (.tail _ (.head _)) ?_
  refine ru_alen (n := 40) (t := 0) dX8_copy_5 rfl rfl ?_
  refine mK_copyI (j1 := 51) (j2 := 41) dX8_copy_6 rfl (by decide) (by decide) rfl rfl (by decide) (by decide) (by decide) (by decide) (by decide) (Nat.le_of_ble_eq_true rfl) kw_1375 kw_474 kw_473 kw_104 ?_
  exact mK_vret dX8_copy_9 rfl (by rw [(show (g_X8_copy_32_51_41 σ) = (mRowI σ 41 (va_cpy (σ.1 51) (σ.1 41) 0 0 40)) from rfl)] at hQ; exact hQ)
def g_X8_become_32_42 (σ : mS) : mS := (g_X8_copy_32_51_41 (g_X8_copy_32_50_40 (g_X8_copy_32_49_39 (g_X8_copy_32_48_38 (g_X8_copy_32_47_37 (g_X8_copy_32_46_36 (g_X8_copy_32_44_34 (mRowL (mRowL (mPI (mPI σ 32 0 (σ.1 42 0)) 32 3 (σ.1 42 3)) 33 (va_cpy ((mPI (mPI σ 32 0 (σ.1 42 0)) 32 3 (σ.1 42 3)).2.1 43) ((mPI (mPI σ 32 0 (σ.1 42 0)) 32 3 (σ.1 42 3)).2.1 33) 0 0 6)) 35 (va_cpy ((mRowL (mPI (mPI σ 32 0 (σ.1 42 0)) 32 3 (σ.1 42 3)) 33 (va_cpy ((mPI (mPI σ 32 0 (σ.1 42 0)) 32 3 (σ.1 42 3)).2.1 43) ((mPI (mPI σ 32 0 (σ.1 42 0)) 32 3 (σ.1 42 3)).2.1 33) 0 0 6)).2.1 45) ((mRowL (mPI (mPI σ 32 0 (σ.1 42 0)) 32 3 (σ.1 42 3)) 33 (va_cpy ((mPI (mPI σ 32 0 (σ.1 42 0)) 32 3 (σ.1 42 3)).2.1 43) ((mPI (mPI σ 32 0 (σ.1 42 0)) 32 3 (σ.1 42 3)).2.1 33) 0 0 6)).2.1 35) 0 0 40)))))))))
set_option maxRecDepth 20000 in
theorem S_X8_become_32_42 {Γ : Nat × (Nat → Int32)} {d : Nat} {Q : mQ} {σ : mS} (hQ : Q (.inl none) 60 mSH (g_X8_become_32_42 σ)) : mCall Γ M_X8_become (d + 2) 0 0 [.ref 32, .ref 42] 60 mSH σ Q := by
  refine mCall_of rfl (by decide) (Nat.le_of_ble_eq_true rfl) (mOkC (mOk_lo (Nat.le_of_ble_eq_true rfl)) (mOkC (mOk_lo (Nat.le_of_ble_eq_true rfl)) mOkN)) ?_
  show mK Γ M_X8_become (d + 2) Q 60 0 0 0 [(0, .ref 32), (1, .ref 42)] [] 60 mSH σ
  refine mK_aload_n dX8_become_0 rfl rfl (.head _) ?_
  refine mK_aload_n dX8_become_1 rfl rfl (.tail _ (.head _)) ?_
  refine ru_getI (k := 0) (ci := 7) dX8_become_2 rfl rfl kw_1079 ?_
  refine ru_putI (k := 0) (ci := 7) dX8_become_5 rfl rfl rfl kw_1079 ?_
  refine mK_aload_n dX8_become_8 rfl rfl (.head _) ?_
  refine mK_aload_n dX8_become_9 rfl rfl (.tail _ (.head _)) ?_
  refine ru_getI (k := 3) (ci := 7) dX8_become_10 rfl rfl kw_1085 ?_
  refine ru_putI (k := 3) (ci := 7) dX8_become_13 rfl rfl rfl kw_1085 ?_
  refine mK_aload_n dX8_become_16 rfl rfl (.tail _ (.head _)) ?_
  refine ru_getR (k := 1) (ci := 7) (a := 43) dX8_become_17 rfl rfl rfl kw_1081 ?_
  refine mK_iconst dX8_become_20 rfl qic_0 ?_
  refine mK_aload_n dX8_become_21 rfl rfl (.head _) ?_
  refine ru_getR (k := 1) (ci := 7) (a := 33) dX8_become_22 rfl rfl rfl kw_1081 ?_
  refine mK_iconst dX8_become_25 rfl qic_0 ?_
  refine mK_bipush dX8_become_26 rfl qbi_6 ?_
  refine mK_copyL (j1 := 43) (j2 := 33) dX8_become_28 rfl (by decide) (by decide) rfl rfl (by decide) (by decide) (by decide) (by decide) (by decide) (Nat.le_of_ble_eq_true rfl) kw_1375 kw_474 kw_473 kw_104 ?_
  refine mK_aload_n dX8_become_31 rfl rfl (.tail _ (.head _)) ?_
  refine ru_getR (k := 4) (ci := 7) (a := 45) dX8_become_32 rfl rfl rfl kw_1087 ?_
  refine mK_iconst dX8_become_35 rfl qic_0 ?_
  refine mK_aload_n dX8_become_36 rfl rfl (.head _) ?_
  refine ru_getR (k := 4) (ci := 7) (a := 35) dX8_become_37 rfl rfl rfl kw_1087 ?_
  refine mK_iconst dX8_become_40 rfl qic_0 ?_
  refine mK_bipush dX8_become_41 rfl qbi_40 ?_
  refine mK_copyL (j1 := 45) (j2 := 35) dX8_become_43 rfl (by decide) (by decide) rfl rfl (by decide) (by decide) (by decide) (by decide) (by decide) (Nat.le_of_ble_eq_true rfl) kw_1375 kw_474 kw_473 kw_104 ?_
  refine mK_aload_n dX8_become_46 rfl rfl (.head _) ?_
  refine mK_aload_n dX8_become_47 rfl rfl (.tail _ (.head _)) ?_
  refine ru_getR (k := 2) (ci := 7) (a := 44) dX8_become_48 rfl rfl rfl kw_1083 ?_
  refine mK_aload_n dX8_become_51 rfl rfl (.head _) ?_
  refine ru_getR (k := 2) (ci := 7) (a := 34) dX8_become_52 rfl rfl rfl kw_1083 ?_
  refine mK_invV (J := M_X8_copy) (k := 2) (as := [.ref 44, .ref 34]) (st := []) (c1 := 0) (s1 := 0) dX8_become_55 rfl jw_X8_copy jn_X8_copy rfl (Nat.le_of_ble_eq_true rfl) (Nat.zero_le _) (Nat.zero_le _) rfl kw_1376 kw_1378 kw_54 (b := 32) (Nat.le_of_ble_eq_true rfl) (Nat.le_of_ble_eq_true rfl) rfl ?_
  refine S_X8_copy_32_44_34  ?_
  show mK Γ M_X8_become (d + 2) Q 60 0 0 58 [(0, .ref 32), (1, .ref 42)] [] 60 mSH (g_X8_copy_32_44_34 (mRowL (mRowL (mPI (mPI σ 32 0 (σ.1 42 0)) 32 3 (σ.1 42 3)) 33 (va_cpy ((mPI (mPI σ 32 0 (σ.1 42 0)) 32 3 (σ.1 42 3)).2.1 43) ((mPI (mPI σ 32 0 (σ.1 42 0)) 32 3 (σ.1 42 3)).2.1 33) 0 0 6)) 35 (va_cpy ((mRowL (mPI (mPI σ 32 0 (σ.1 42 0)) 32 3 (σ.1 42 3)) 33 (va_cpy ((mPI (mPI σ 32 0 (σ.1 42 0)) 32 3 (σ.1 42 3)).2.1 43) ((mPI (mPI σ 32 0 (σ.1 42 0)) 32 3 (σ.1 42 3)).2.1 33) 0 0 6)).2.1 45) ((mRowL (mPI (mPI σ 32 0 (σ.1 42 0)) 32 3 (σ.1 42 3)) 33 (va_cpy ((mPI (mPI σ 32 0 (σ.1 42 0)) 32 3 (σ.1 42 3)).2.1 43) ((mPI (mPI σ 32 0 (σ.1 42 0)) 32 3 (σ.1 42 3)).2.1 33) 0 0 6)).2.1 35) 0 0 40)))
  refine mK_aload_n dX8_become_58 rfl rfl (.head _) ?_
  refine mK_aload_n dX8_become_59 rfl rfl (.tail _ (.head _)) ?_
  refine ru_getR (k := 5) (ci := 7) (a := 46) dX8_become_60 rfl rfl rfl kw_1089 ?_
  refine mK_aload_n dX8_become_63 rfl rfl (.head _) ?_
  refine ru_getR (k := 5) (ci := 7) (a := 36) dX8_become_64 rfl rfl rfl kw_1089 ?_
  refine mK_invV (J := M_X8_copy) (k := 2) (as := [.ref 46, .ref 36]) (st := []) (c1 := 0) (s1 := 0) dX8_become_67 rfl jw_X8_copy jn_X8_copy rfl (Nat.le_of_ble_eq_true rfl) (Nat.zero_le _) (Nat.zero_le _) rfl kw_1376 kw_1378 kw_54 (b := 32) (Nat.le_of_ble_eq_true rfl) (Nat.le_of_ble_eq_true rfl) rfl ?_
  refine S_X8_copy_32_46_36  ?_
  show mK Γ M_X8_become (d + 2) Q 60 0 0 70 [(0, .ref 32), (1, .ref 42)] [] 60 mSH (g_X8_copy_32_46_36 (g_X8_copy_32_44_34 (mRowL (mRowL (mPI (mPI σ 32 0 (σ.1 42 0)) 32 3 (σ.1 42 3)) 33 (va_cpy ((mPI (mPI σ 32 0 (σ.1 42 0)) 32 3 (σ.1 42 3)).2.1 43) ((mPI (mPI σ 32 0 (σ.1 42 0)) 32 3 (σ.1 42 3)).2.1 33) 0 0 6)) 35 (va_cpy ((mRowL (mPI (mPI σ 32 0 (σ.1 42 0)) 32 3 (σ.1 42 3)) 33 (va_cpy ((mPI (mPI σ 32 0 (σ.1 42 0)) 32 3 (σ.1 42 3)).2.1 43) ((mPI (mPI σ 32 0 (σ.1 42 0)) 32 3 (σ.1 42 3)).2.1 33) 0 0 6)).2.1 45) ((mRowL (mPI (mPI σ 32 0 (σ.1 42 0)) 32 3 (σ.1 42 3)) 33 (va_cpy ((mPI (mPI σ 32 0 (σ.1 42 0)) 32 3 (σ.1 42 3)).2.1 43) ((mPI (mPI σ 32 0 (σ.1 42 0)) 32 3 (σ.1 42 3)).2.1 33) 0 0 6)).2.1 35) 0 0 40))))
  refine mK_aload_n dX8_become_70 rfl rfl (.head _) ?_
  refine mK_aload_n dX8_become_71 rfl rfl (.tail _ (.head _)) ?_
  refine ru_getR (k := 6) (ci := 7) (a := 47) dX8_become_72 rfl rfl rfl kw_1091 ?_
  refine mK_aload_n dX8_become_75 rfl rfl (.head _) ?_
  refine ru_getR (k := 6) (ci := 7) (a := 37) dX8_become_76 rfl rfl rfl kw_1091 ?_
  refine mK_invV (J := M_X8_copy) (k := 2) (as := [.ref 47, .ref 37]) (st := []) (c1 := 0) (s1 := 0) dX8_become_79 rfl jw_X8_copy jn_X8_copy rfl (Nat.le_of_ble_eq_true rfl) (Nat.zero_le _) (Nat.zero_le _) rfl kw_1376 kw_1378 kw_54 (b := 32) (Nat.le_of_ble_eq_true rfl) (Nat.le_of_ble_eq_true rfl) rfl ?_
  refine S_X8_copy_32_47_37  ?_
  show mK Γ M_X8_become (d + 2) Q 60 0 0 82 [(0, .ref 32), (1, .ref 42)] [] 60 mSH (g_X8_copy_32_47_37 (g_X8_copy_32_46_36 (g_X8_copy_32_44_34 (mRowL (mRowL (mPI (mPI σ 32 0 (σ.1 42 0)) 32 3 (σ.1 42 3)) 33 (va_cpy ((mPI (mPI σ 32 0 (σ.1 42 0)) 32 3 (σ.1 42 3)).2.1 43) ((mPI (mPI σ 32 0 (σ.1 42 0)) 32 3 (σ.1 42 3)).2.1 33) 0 0 6)) 35 (va_cpy ((mRowL (mPI (mPI σ 32 0 (σ.1 42 0)) 32 3 (σ.1 42 3)) 33 (va_cpy ((mPI (mPI σ 32 0 (σ.1 42 0)) 32 3 (σ.1 42 3)).2.1 43) ((mPI (mPI σ 32 0 (σ.1 42 0)) 32 3 (σ.1 42 3)).2.1 33) 0 0 6)).2.1 45) ((mRowL (mPI (mPI σ 32 0 (σ.1 42 0)) 32 3 (σ.1 42 3)) 33 (va_cpy ((mPI (mPI σ 32 0 (σ.1 42 0)) 32 3 (σ.1 42 3)).2.1 43) ((mPI (mPI σ 32 0 (σ.1 42 0)) 32 3 (σ.1 42 3)).2.1 33) 0 0 6)).2.1 35) 0 0 40)))))
  refine mK_aload_n dX8_become_82 rfl rfl (.head _) ?_
  refine mK_aload_n dX8_become_83 rfl rfl (.tail _ (.head _)) ?_
  refine ru_getR (k := 7) (ci := 7) (a := 48) dX8_become_84 rfl rfl rfl kw_1093 ?_
  refine mK_aload_n dX8_become_87 rfl rfl (.head _) ?_
  refine ru_getR (k := 7) (ci := 7) (a := 38) dX8_become_88 rfl rfl rfl kw_1093 ?_
  refine mK_invV (J := M_X8_copy) (k := 2) (as := [.ref 48, .ref 38]) (st := []) (c1 := 0) (s1 := 0) dX8_become_91 rfl jw_X8_copy jn_X8_copy rfl (Nat.le_of_ble_eq_true rfl) (Nat.zero_le _) (Nat.zero_le _) rfl kw_1376 kw_1378 kw_54 (b := 32) (Nat.le_of_ble_eq_true rfl) (Nat.le_of_ble_eq_true rfl) rfl ?_
  refine S_X8_copy_32_48_38  ?_
  show mK Γ M_X8_become (d + 2) Q 60 0 0 94 [(0, .ref 32), (1, .ref 42)] [] 60 mSH (g_X8_copy_32_48_38 (g_X8_copy_32_47_37 (g_X8_copy_32_46_36 (g_X8_copy_32_44_34 (mRowL (mRowL (mPI (mPI σ 32 0 (σ.1 42 0)) 32 3 (σ.1 42 3)) 33 (va_cpy ((mPI (mPI σ 32 0 (σ.1 42 0)) 32 3 (σ.1 42 3)).2.1 43) ((mPI (mPI σ 32 0 (σ.1 42 0)) 32 3 (σ.1 42 3)).2.1 33) 0 0 6)) 35 (va_cpy ((mRowL (mPI (mPI σ 32 0 (σ.1 42 0)) 32 3 (σ.1 42 3)) 33 (va_cpy ((mPI (mPI σ 32 0 (σ.1 42 0)) 32 3 (σ.1 42 3)).2.1 43) ((mPI (mPI σ 32 0 (σ.1 42 0)) 32 3 (σ.1 42 3)).2.1 33) 0 0 6)).2.1 45) ((mRowL (mPI (mPI σ 32 0 (σ.1 42 0)) 32 3 (σ.1 42 3)) 33 (va_cpy ((mPI (mPI σ 32 0 (σ.1 42 0)) 32 3 (σ.1 42 3)).2.1 43) ((mPI (mPI σ 32 0 (σ.1 42 0)) 32 3 (σ.1 42 3)).2.1 33) 0 0 6)).2.1 35) 0 0 40))))))
  refine mK_aload_n dX8_become_94 rfl rfl (.head _) ?_
  refine mK_aload_n dX8_become_95 rfl rfl (.tail _ (.head _)) ?_
  refine ru_getR (k := 8) (ci := 7) (a := 49) dX8_become_96 rfl rfl rfl kw_1095 ?_
  refine mK_aload_n dX8_become_99 rfl rfl (.head _) ?_
  refine ru_getR (k := 8) (ci := 7) (a := 39) dX8_become_100 rfl rfl rfl kw_1095 ?_
  refine mK_invV (J := M_X8_copy) (k := 2) (as := [.ref 49, .ref 39]) (st := []) (c1 := 0) (s1 := 0) dX8_become_103 rfl jw_X8_copy jn_X8_copy rfl (Nat.le_of_ble_eq_true rfl) (Nat.zero_le _) (Nat.zero_le _) rfl kw_1376 kw_1378 kw_54 (b := 32) (Nat.le_of_ble_eq_true rfl) (Nat.le_of_ble_eq_true rfl) rfl ?_
  refine S_X8_copy_32_49_39  ?_
  show mK Γ M_X8_become (d + 2) Q 60 0 0 106 [(0, .ref 32), (1, .ref 42)] [] 60 mSH (g_X8_copy_32_49_39 (g_X8_copy_32_48_38 (g_X8_copy_32_47_37 (g_X8_copy_32_46_36 (g_X8_copy_32_44_34 (mRowL (mRowL (mPI (mPI σ 32 0 (σ.1 42 0)) 32 3 (σ.1 42 3)) 33 (va_cpy ((mPI (mPI σ 32 0 (σ.1 42 0)) 32 3 (σ.1 42 3)).2.1 43) ((mPI (mPI σ 32 0 (σ.1 42 0)) 32 3 (σ.1 42 3)).2.1 33) 0 0 6)) 35 (va_cpy ((mRowL (mPI (mPI σ 32 0 (σ.1 42 0)) 32 3 (σ.1 42 3)) 33 (va_cpy ((mPI (mPI σ 32 0 (σ.1 42 0)) 32 3 (σ.1 42 3)).2.1 43) ((mPI (mPI σ 32 0 (σ.1 42 0)) 32 3 (σ.1 42 3)).2.1 33) 0 0 6)).2.1 45) ((mRowL (mPI (mPI σ 32 0 (σ.1 42 0)) 32 3 (σ.1 42 3)) 33 (va_cpy ((mPI (mPI σ 32 0 (σ.1 42 0)) 32 3 (σ.1 42 3)).2.1 43) ((mPI (mPI σ 32 0 (σ.1 42 0)) 32 3 (σ.1 42 3)).2.1 33) 0 0 6)).2.1 35) 0 0 40)))))))
  refine mK_aload_n dX8_become_106 rfl rfl (.head _) ?_
  refine mK_aload_n dX8_become_107 rfl rfl (.tail _ (.head _)) ?_
  refine ru_getR (k := 9) (ci := 7) (a := 50) dX8_become_108 rfl rfl rfl kw_1097 ?_
  refine mK_aload_n dX8_become_111 rfl rfl (.head _) ?_
  refine ru_getR (k := 9) (ci := 7) (a := 40) dX8_become_112 rfl rfl rfl kw_1097 ?_
  refine mK_invV (J := M_X8_copy) (k := 2) (as := [.ref 50, .ref 40]) (st := []) (c1 := 0) (s1 := 0) dX8_become_115 rfl jw_X8_copy jn_X8_copy rfl (Nat.le_of_ble_eq_true rfl) (Nat.zero_le _) (Nat.zero_le _) rfl kw_1376 kw_1378 kw_54 (b := 32) (Nat.le_of_ble_eq_true rfl) (Nat.le_of_ble_eq_true rfl) rfl ?_
  refine S_X8_copy_32_50_40  ?_
  show mK Γ M_X8_become (d + 2) Q 60 0 0 118 [(0, .ref 32), (1, .ref 42)] [] 60 mSH (g_X8_copy_32_50_40 (g_X8_copy_32_49_39 (g_X8_copy_32_48_38 (g_X8_copy_32_47_37 (g_X8_copy_32_46_36 (g_X8_copy_32_44_34 (mRowL (mRowL (mPI (mPI σ 32 0 (σ.1 42 0)) 32 3 (σ.1 42 3)) 33 (va_cpy ((mPI (mPI σ 32 0 (σ.1 42 0)) 32 3 (σ.1 42 3)).2.1 43) ((mPI (mPI σ 32 0 (σ.1 42 0)) 32 3 (σ.1 42 3)).2.1 33) 0 0 6)) 35 (va_cpy ((mRowL (mPI (mPI σ 32 0 (σ.1 42 0)) 32 3 (σ.1 42 3)) 33 (va_cpy ((mPI (mPI σ 32 0 (σ.1 42 0)) 32 3 (σ.1 42 3)).2.1 43) ((mPI (mPI σ 32 0 (σ.1 42 0)) 32 3 (σ.1 42 3)).2.1 33) 0 0 6)).2.1 45) ((mRowL (mPI (mPI σ 32 0 (σ.1 42 0)) 32 3 (σ.1 42 3)) 33 (va_cpy ((mPI (mPI σ 32 0 (σ.1 42 0)) 32 3 (σ.1 42 3)).2.1 43) ((mPI (mPI σ 32 0 (σ.1 42 0)) 32 3 (σ.1 42 3)).2.1 33) 0 0 6)).2.1 35) 0 0 40))))))))
  refine mK_aload_n dX8_become_118 rfl rfl (.head _) ?_
  refine mK_aload_n dX8_become_119 rfl rfl (.tail _ (.head _)) ?_
  refine ru_getR (k := 10) (ci := 7) (a := 51) dX8_become_120 rfl rfl rfl kw_1099 ?_
  refine mK_aload_n dX8_become_123 rfl rfl (.head _) ?_
  refine ru_getR (k := 10) (ci := 7) (a := 41) dX8_become_124 rfl rfl rfl kw_1099 ?_
  refine mK_invV (J := M_X8_copy) (k := 2) (as := [.ref 51, .ref 41]) (st := []) (c1 := 0) (s1 := 0) dX8_become_127 rfl jw_X8_copy jn_X8_copy rfl (Nat.le_of_ble_eq_true rfl) (Nat.zero_le _) (Nat.zero_le _) rfl kw_1376 kw_1378 kw_54 (b := 32) (Nat.le_of_ble_eq_true rfl) (Nat.le_of_ble_eq_true rfl) rfl ?_
  refine S_X8_copy_32_51_41  ?_
  show mK Γ M_X8_become (d + 2) Q 60 0 0 130 [(0, .ref 32), (1, .ref 42)] [] 60 mSH (g_X8_copy_32_51_41 (g_X8_copy_32_50_40 (g_X8_copy_32_49_39 (g_X8_copy_32_48_38 (g_X8_copy_32_47_37 (g_X8_copy_32_46_36 (g_X8_copy_32_44_34 (mRowL (mRowL (mPI (mPI σ 32 0 (σ.1 42 0)) 32 3 (σ.1 42 3)) 33 (va_cpy ((mPI (mPI σ 32 0 (σ.1 42 0)) 32 3 (σ.1 42 3)).2.1 43) ((mPI (mPI σ 32 0 (σ.1 42 0)) 32 3 (σ.1 42 3)).2.1 33) 0 0 6)) 35 (va_cpy ((mRowL (mPI (mPI σ 32 0 (σ.1 42 0)) 32 3 (σ.1 42 3)) 33 (va_cpy ((mPI (mPI σ 32 0 (σ.1 42 0)) 32 3 (σ.1 42 3)).2.1 43) ((mPI (mPI σ 32 0 (σ.1 42 0)) 32 3 (σ.1 42 3)).2.1 33) 0 0 6)).2.1 45) ((mRowL (mPI (mPI σ 32 0 (σ.1 42 0)) 32 3 (σ.1 42 3)) 33 (va_cpy ((mPI (mPI σ 32 0 (σ.1 42 0)) 32 3 (σ.1 42 3)).2.1 43) ((mPI (mPI σ 32 0 (σ.1 42 0)) 32 3 (σ.1 42 3)).2.1 33) 0 0 6)).2.1 35) 0 0 40)))))))))
  exact mK_vret dX8_become_130 rfl (by rw [(show (g_X8_become_32_42 σ) = (g_X8_copy_32_51_41 (g_X8_copy_32_50_40 (g_X8_copy_32_49_39 (g_X8_copy_32_48_38 (g_X8_copy_32_47_37 (g_X8_copy_32_46_36 (g_X8_copy_32_44_34 (mRowL (mRowL (mPI (mPI σ 32 0 (σ.1 42 0)) 32 3 (σ.1 42 3)) 33 (va_cpy ((mPI (mPI σ 32 0 (σ.1 42 0)) 32 3 (σ.1 42 3)).2.1 43) ((mPI (mPI σ 32 0 (σ.1 42 0)) 32 3 (σ.1 42 3)).2.1 33) 0 0 6)) 35 (va_cpy ((mRowL (mPI (mPI σ 32 0 (σ.1 42 0)) 32 3 (σ.1 42 3)) 33 (va_cpy ((mPI (mPI σ 32 0 (σ.1 42 0)) 32 3 (σ.1 42 3)).2.1 43) ((mPI (mPI σ 32 0 (σ.1 42 0)) 32 3 (σ.1 42 3)).2.1 33) 0 0 6)).2.1 45) ((mRowL (mPI (mPI σ 32 0 (σ.1 42 0)) 32 3 (σ.1 42 3)) 33 (va_cpy ((mPI (mPI σ 32 0 (σ.1 42 0)) 32 3 (σ.1 42 3)).2.1 43) ((mPI (mPI σ 32 0 (σ.1 42 0)) 32 3 (σ.1 42 3)).2.1 33) 0 0 6)).2.1 35) 0 0 40))))))))) from rfl)] at hQ; exact hQ)
def g_X8_copy_42_34_44 (σ : mS) : mS := (mRowI σ 44 (va_cpy (σ.1 34) (σ.1 44) 0 0 6))
set_option maxRecDepth 20000 in
theorem S_X8_copy_42_34_44 {Γ : Nat × (Nat → Int32)} {d : Nat} {Q : mQ} {σ : mS} (hQ : Q (.inl none) 60 mSH (g_X8_copy_42_34_44 σ)) : mCall Γ M_X8_copy (d + 1) 0 0 [.ref 42, .ref 34, .ref 44] 60 mSH σ Q := by
  refine mCall_of rfl (by decide) (Nat.le_of_ble_eq_true rfl) (mOkC (mOk_lo (Nat.le_of_ble_eq_true rfl)) (mOkC (mOk_lo (Nat.le_of_ble_eq_true rfl)) (mOkC (mOk_lo (Nat.le_of_ble_eq_true rfl)) mOkN))) ?_
  show mK Γ M_X8_copy (d + 1) Q 60 0 0 0 [(0, .ref 42), (1, .ref 34), (2, .ref 44)] [] 60 mSH σ
  refine mK_aload_n dX8_copy_0 rfl rfl (.tail _ (.head _)) ?_
  refine mK_iconst dX8_copy_1 rfl qic_0 ?_
  refine mK_aload_n dX8_copy_2 rfl rfl (.tail _ (.tail _ (.head _))) ?_
  refine mK_iconst dX8_copy_3 rfl qic_0 ?_
  refine mK_aload_n dX8_copy_4 rfl rfl (.tail _ (.head _)) ?_
  refine ru_alen (n := 6) (t := 0) dX8_copy_5 rfl rfl ?_
  refine mK_copyI (j1 := 34) (j2 := 44) dX8_copy_6 rfl (by decide) (by decide) rfl rfl (by decide) (by decide) (by decide) (by decide) (by decide) (Nat.le_of_ble_eq_true rfl) kw_1375 kw_474 kw_473 kw_104 ?_
  exact mK_vret dX8_copy_9 rfl (by rw [(show (g_X8_copy_42_34_44 σ) = (mRowI σ 44 (va_cpy (σ.1 34) (σ.1 44) 0 0 6)) from rfl)] at hQ; exact hQ)
def g_X8_copy_42_36_46 (σ : mS) : mS := (mRowI σ 46 (va_cpy (σ.1 36) (σ.1 46) 0 0 40))
set_option maxRecDepth 20000 in
theorem S_X8_copy_42_36_46 {Γ : Nat × (Nat → Int32)} {d : Nat} {Q : mQ} {σ : mS} (hQ : Q (.inl none) 60 mSH (g_X8_copy_42_36_46 σ)) : mCall Γ M_X8_copy (d + 1) 0 0 [.ref 42, .ref 36, .ref 46] 60 mSH σ Q := by
  refine mCall_of rfl (by decide) (Nat.le_of_ble_eq_true rfl) (mOkC (mOk_lo (Nat.le_of_ble_eq_true rfl)) (mOkC (mOk_lo (Nat.le_of_ble_eq_true rfl)) (mOkC (mOk_lo (Nat.le_of_ble_eq_true rfl)) mOkN))) ?_
  show mK Γ M_X8_copy (d + 1) Q 60 0 0 0 [(0, .ref 42), (1, .ref 36), (2, .ref 46)] [] 60 mSH σ
  refine mK_aload_n dX8_copy_0 rfl rfl (.tail _ (.head _)) ?_
  refine mK_iconst dX8_copy_1 rfl qic_0 ?_
  refine mK_aload_n dX8_copy_2 rfl rfl (.tail _ (.tail _ (.head _))) ?_
  refine mK_iconst dX8_copy_3 rfl qic_0 ?_
  refine mK_aload_n dX8_copy_4 rfl rfl (.tail _ (.head _)) ?_
  refine ru_alen (n := 40) (t := 0) dX8_copy_5 rfl rfl ?_
  refine mK_copyI (j1 := 36) (j2 := 46) dX8_copy_6 rfl (by decide) (by decide) rfl rfl (by decide) (by decide) (by decide) (by decide) (by decide) (Nat.le_of_ble_eq_true rfl) kw_1375 kw_474 kw_473 kw_104 ?_
  exact mK_vret dX8_copy_9 rfl (by rw [(show (g_X8_copy_42_36_46 σ) = (mRowI σ 46 (va_cpy (σ.1 36) (σ.1 46) 0 0 40)) from rfl)] at hQ; exact hQ)
def g_X8_copy_42_37_47 (σ : mS) : mS := (mRowI σ 47 (va_cpy (σ.1 37) (σ.1 47) 0 0 40))
set_option maxRecDepth 20000 in
theorem S_X8_copy_42_37_47 {Γ : Nat × (Nat → Int32)} {d : Nat} {Q : mQ} {σ : mS} (hQ : Q (.inl none) 60 mSH (g_X8_copy_42_37_47 σ)) : mCall Γ M_X8_copy (d + 1) 0 0 [.ref 42, .ref 37, .ref 47] 60 mSH σ Q := by
  refine mCall_of rfl (by decide) (Nat.le_of_ble_eq_true rfl) (mOkC (mOk_lo (Nat.le_of_ble_eq_true rfl)) (mOkC (mOk_lo (Nat.le_of_ble_eq_true rfl)) (mOkC (mOk_lo (Nat.le_of_ble_eq_true rfl)) mOkN))) ?_
  show mK Γ M_X8_copy (d + 1) Q 60 0 0 0 [(0, .ref 42), (1, .ref 37), (2, .ref 47)] [] 60 mSH σ
  refine mK_aload_n dX8_copy_0 rfl rfl (.tail _ (.head _)) ?_
  refine mK_iconst dX8_copy_1 rfl qic_0 ?_
  refine mK_aload_n dX8_copy_2 rfl rfl (.tail _ (.tail _ (.head _))) ?_
  refine mK_iconst dX8_copy_3 rfl qic_0 ?_
  refine mK_aload_n dX8_copy_4 rfl rfl (.tail _ (.head _)) ?_
  refine ru_alen (n := 40) (t := 0) dX8_copy_5 rfl rfl ?_
  refine mK_copyI (j1 := 37) (j2 := 47) dX8_copy_6 rfl (by decide) (by decide) rfl rfl (by decide) (by decide) (by decide) (by decide) (by decide) (Nat.le_of_ble_eq_true rfl) kw_1375 kw_474 kw_473 kw_104 ?_
  exact mK_vret dX8_copy_9 rfl (by rw [(show (g_X8_copy_42_37_47 σ) = (mRowI σ 47 (va_cpy (σ.1 37) (σ.1 47) 0 0 40)) from rfl)] at hQ; exact hQ)
def g_X8_copy_42_38_48 (σ : mS) : mS := (mRowI σ 48 (va_cpy (σ.1 38) (σ.1 48) 0 0 40))
set_option maxRecDepth 20000 in
theorem S_X8_copy_42_38_48 {Γ : Nat × (Nat → Int32)} {d : Nat} {Q : mQ} {σ : mS} (hQ : Q (.inl none) 60 mSH (g_X8_copy_42_38_48 σ)) : mCall Γ M_X8_copy (d + 1) 0 0 [.ref 42, .ref 38, .ref 48] 60 mSH σ Q := by
  refine mCall_of rfl (by decide) (Nat.le_of_ble_eq_true rfl) (mOkC (mOk_lo (Nat.le_of_ble_eq_true rfl)) (mOkC (mOk_lo (Nat.le_of_ble_eq_true rfl)) (mOkC (mOk_lo (Nat.le_of_ble_eq_true rfl)) mOkN))) ?_
  show mK Γ M_X8_copy (d + 1) Q 60 0 0 0 [(0, .ref 42), (1, .ref 38), (2, .ref 48)] [] 60 mSH σ
  refine mK_aload_n dX8_copy_0 rfl rfl (.tail _ (.head _)) ?_
  refine mK_iconst dX8_copy_1 rfl qic_0 ?_
  refine mK_aload_n dX8_copy_2 rfl rfl (.tail _ (.tail _ (.head _))) ?_
  refine mK_iconst dX8_copy_3 rfl qic_0 ?_
  refine mK_aload_n dX8_copy_4 rfl rfl (.tail _ (.head _)) ?_
  refine ru_alen (n := 40) (t := 0) dX8_copy_5 rfl rfl ?_
  refine mK_copyI (j1 := 38) (j2 := 48) dX8_copy_6 rfl (by decide) (by decide) rfl rfl (by decide) (by decide) (by decide) (by decide) (by decide) (Nat.le_of_ble_eq_true rfl) kw_1375 kw_474 kw_473 kw_104 ?_
  exact mK_vret dX8_copy_9 rfl (by rw [(show (g_X8_copy_42_38_48 σ) = (mRowI σ 48 (va_cpy (σ.1 38) (σ.1 48) 0 0 40)) from rfl)] at hQ; exact hQ)
def g_X8_copy_42_39_49 (σ : mS) : mS := (mRowI σ 49 (va_cpy (σ.1 39) (σ.1 49) 0 0 40))
set_option maxRecDepth 20000 in
theorem S_X8_copy_42_39_49 {Γ : Nat × (Nat → Int32)} {d : Nat} {Q : mQ} {σ : mS} (hQ : Q (.inl none) 60 mSH (g_X8_copy_42_39_49 σ)) : mCall Γ M_X8_copy (d + 1) 0 0 [.ref 42, .ref 39, .ref 49] 60 mSH σ Q := by
  refine mCall_of rfl (by decide) (Nat.le_of_ble_eq_true rfl) (mOkC (mOk_lo (Nat.le_of_ble_eq_true rfl)) (mOkC (mOk_lo (Nat.le_of_ble_eq_true rfl)) (mOkC (mOk_lo (Nat.le_of_ble_eq_true rfl)) mOkN))) ?_
  show mK Γ M_X8_copy (d + 1) Q 60 0 0 0 [(0, .ref 42), (1, .ref 39), (2, .ref 49)] [] 60 mSH σ
  refine mK_aload_n dX8_copy_0 rfl rfl (.tail _ (.head _)) ?_
  refine mK_iconst dX8_copy_1 rfl qic_0 ?_
  refine mK_aload_n dX8_copy_2 rfl rfl (.tail _ (.tail _ (.head _))) ?_
  refine mK_iconst dX8_copy_3 rfl qic_0 ?_
  refine mK_aload_n dX8_copy_4 rfl rfl (.tail _ (.head _)) ?_
  refine ru_alen (n := 40) (t := 0) dX8_copy_5 rfl rfl ?_
  refine mK_copyI (j1 := 39) (j2 := 49) dX8_copy_6 rfl (by decide) (by decide) rfl rfl (by decide) (by decide) (by decide) (by decide) (by decide) (Nat.le_of_ble_eq_true rfl) kw_1375 kw_474 kw_473 kw_104 ?_
  exact mK_vret dX8_copy_9 rfl (by rw [(show (g_X8_copy_42_39_49 σ) = (mRowI σ 49 (va_cpy (σ.1 39) (σ.1 49) 0 0 40)) from rfl)] at hQ; exact hQ)
def g_X8_copy_42_40_50 (σ : mS) : mS := (mRowI σ 50 (va_cpy (σ.1 40) (σ.1 50) 0 0 40))
set_option maxRecDepth 20000 in
theorem S_X8_copy_42_40_50 {Γ : Nat × (Nat → Int32)} {d : Nat} {Q : mQ} {σ : mS} (hQ : Q (.inl none) 60 mSH (g_X8_copy_42_40_50 σ)) : mCall Γ M_X8_copy (d + 1) 0 0 [.ref 42, .ref 40, .ref 50] 60 mSH σ Q := by
  refine mCall_of rfl (by decide) (Nat.le_of_ble_eq_true rfl) (mOkC (mOk_lo (Nat.le_of_ble_eq_true rfl)) (mOkC (mOk_lo (Nat.le_of_ble_eq_true rfl)) (mOkC (mOk_lo (Nat.le_of_ble_eq_true rfl)) mOkN))) ?_
  show mK Γ M_X8_copy (d + 1) Q 60 0 0 0 [(0, .ref 42), (1, .ref 40), (2, .ref 50)] [] 60 mSH σ
  refine mK_aload_n dX8_copy_0 rfl rfl (.tail _ (.head _)) ?_
  refine mK_iconst dX8_copy_1 rfl qic_0 ?_
  refine mK_aload_n dX8_copy_2 rfl rfl (.tail _ (.tail _ (.head _))) ?_
  refine mK_iconst dX8_copy_3 rfl qic_0 ?_
  refine mK_aload_n dX8_copy_4 rfl rfl (.tail _ (.head _)) ?_
  refine ru_alen (n := 40) (t := 0) dX8_copy_5 rfl rfl ?_
  refine mK_copyI (j1 := 40) (j2 := 50) dX8_copy_6 rfl (by decide) (by decide) rfl rfl (by decide) (by decide) (by decide) (by decide) (by decide) (Nat.le_of_ble_eq_true rfl) kw_1375 kw_474 kw_473 kw_104 ?_
  exact mK_vret dX8_copy_9 rfl (by rw [(show (g_X8_copy_42_40_50 σ) = (mRowI σ 50 (va_cpy (σ.1 40) (σ.1 50) 0 0 40)) from rfl)] at hQ; exact hQ)
def g_X8_copy_42_41_51 (σ : mS) : mS := (mRowI σ 51 (va_cpy (σ.1 41) (σ.1 51) 0 0 40))
set_option maxRecDepth 20000 in
theorem S_X8_copy_42_41_51 {Γ : Nat × (Nat → Int32)} {d : Nat} {Q : mQ} {σ : mS} (hQ : Q (.inl none) 60 mSH (g_X8_copy_42_41_51 σ)) : mCall Γ M_X8_copy (d + 1) 0 0 [.ref 42, .ref 41, .ref 51] 60 mSH σ Q := by
  refine mCall_of rfl (by decide) (Nat.le_of_ble_eq_true rfl) (mOkC (mOk_lo (Nat.le_of_ble_eq_true rfl)) (mOkC (mOk_lo (Nat.le_of_ble_eq_true rfl)) (mOkC (mOk_lo (Nat.le_of_ble_eq_true rfl)) mOkN))) ?_
  show mK Γ M_X8_copy (d + 1) Q 60 0 0 0 [(0, .ref 42), (1, .ref 41), (2, .ref 51)] [] 60 mSH σ
  refine mK_aload_n dX8_copy_0 rfl rfl (.tail _ (.head _)) ?_
  refine mK_iconst dX8_copy_1 rfl qic_0 ?_
  refine mK_aload_n dX8_copy_2 rfl rfl (.tail _ (.tail _ (.head _))) ?_
  refine mK_iconst dX8_copy_3 rfl qic_0 ?_
  refine mK_aload_n dX8_copy_4 rfl rfl (.tail _ (.head _)) ?_
  refine ru_alen (n := 40) (t := 0) dX8_copy_5 rfl rfl ?_
  refine mK_copyI (j1 := 41) (j2 := 51) dX8_copy_6 rfl (by decide) (by decide) rfl rfl (by decide) (by decide) (by decide) (by decide) (by decide) (Nat.le_of_ble_eq_true rfl) kw_1375 kw_474 kw_473 kw_104 ?_
  exact mK_vret dX8_copy_9 rfl (by rw [(show (g_X8_copy_42_41_51 σ) = (mRowI σ 51 (va_cpy (σ.1 41) (σ.1 51) 0 0 40)) from rfl)] at hQ; exact hQ)
def g_X8_become_42_32 (σ : mS) : mS := (g_X8_copy_42_41_51 (g_X8_copy_42_40_50 (g_X8_copy_42_39_49 (g_X8_copy_42_38_48 (g_X8_copy_42_37_47 (g_X8_copy_42_36_46 (g_X8_copy_42_34_44 (mRowL (mRowL (mPI (mPI σ 42 0 (σ.1 32 0)) 42 3 (σ.1 32 3)) 43 (va_cpy ((mPI (mPI σ 42 0 (σ.1 32 0)) 42 3 (σ.1 32 3)).2.1 33) ((mPI (mPI σ 42 0 (σ.1 32 0)) 42 3 (σ.1 32 3)).2.1 43) 0 0 6)) 45 (va_cpy ((mRowL (mPI (mPI σ 42 0 (σ.1 32 0)) 42 3 (σ.1 32 3)) 43 (va_cpy ((mPI (mPI σ 42 0 (σ.1 32 0)) 42 3 (σ.1 32 3)).2.1 33) ((mPI (mPI σ 42 0 (σ.1 32 0)) 42 3 (σ.1 32 3)).2.1 43) 0 0 6)).2.1 35) ((mRowL (mPI (mPI σ 42 0 (σ.1 32 0)) 42 3 (σ.1 32 3)) 43 (va_cpy ((mPI (mPI σ 42 0 (σ.1 32 0)) 42 3 (σ.1 32 3)).2.1 33) ((mPI (mPI σ 42 0 (σ.1 32 0)) 42 3 (σ.1 32 3)).2.1 43) 0 0 6)).2.1 45) 0 0 40)))))))))
set_option maxRecDepth 20000 in
theorem S_X8_become_42_32 {Γ : Nat × (Nat → Int32)} {d : Nat} {Q : mQ} {σ : mS} (hQ : Q (.inl none) 60 mSH (g_X8_become_42_32 σ)) : mCall Γ M_X8_become (d + 2) 0 0 [.ref 42, .ref 32] 60 mSH σ Q := by
  refine mCall_of rfl (by decide) (Nat.le_of_ble_eq_true rfl) (mOkC (mOk_lo (Nat.le_of_ble_eq_true rfl)) (mOkC (mOk_lo (Nat.le_of_ble_eq_true rfl)) mOkN)) ?_
  show mK Γ M_X8_become (d + 2) Q 60 0 0 0 [(0, .ref 42), (1, .ref 32)] [] 60 mSH σ
  refine mK_aload_n dX8_become_0 rfl rfl (.head _) ?_
  refine mK_aload_n dX8_become_1 rfl rfl (.tail _ (.head _)) ?_
  refine ru_getI (k := 0) (ci := 7) dX8_become_2 rfl rfl kw_1079 ?_
  refine ru_putI (k := 0) (ci := 7) dX8_become_5 rfl rfl rfl kw_1079 ?_
  refine mK_aload_n dX8_become_8 rfl rfl (.head _) ?_
  refine mK_aload_n dX8_become_9 rfl rfl (.tail _ (.head _)) ?_
  refine ru_getI (k := 3) (ci := 7) dX8_become_10 rfl rfl kw_1085 ?_
  refine ru_putI (k := 3) (ci := 7) dX8_become_13 rfl rfl rfl kw_1085 ?_
  refine mK_aload_n dX8_become_16 rfl rfl (.tail _ (.head _)) ?_
  refine ru_getR (k := 1) (ci := 7) (a := 33) dX8_become_17 rfl rfl rfl kw_1081 ?_
  refine mK_iconst dX8_become_20 rfl qic_0 ?_
  refine mK_aload_n dX8_become_21 rfl rfl (.head _) ?_
  refine ru_getR (k := 1) (ci := 7) (a := 43) dX8_become_22 rfl rfl rfl kw_1081 ?_
  refine mK_iconst dX8_become_25 rfl qic_0 ?_
  refine mK_bipush dX8_become_26 rfl qbi_6 ?_
  refine mK_copyL (j1 := 33) (j2 := 43) dX8_become_28 rfl (by decide) (by decide) rfl rfl (by decide) (by decide) (by decide) (by decide) (by decide) (Nat.le_of_ble_eq_true rfl) kw_1375 kw_474 kw_473 kw_104 ?_
  refine mK_aload_n dX8_become_31 rfl rfl (.tail _ (.head _)) ?_
  refine ru_getR (k := 4) (ci := 7) (a := 35) dX8_become_32 rfl rfl rfl kw_1087 ?_
  refine mK_iconst dX8_become_35 rfl qic_0 ?_
  refine mK_aload_n dX8_become_36 rfl rfl (.head _) ?_
  refine ru_getR (k := 4) (ci := 7) (a := 45) dX8_become_37 rfl rfl rfl kw_1087 ?_
  refine mK_iconst dX8_become_40 rfl qic_0 ?_
  refine mK_bipush dX8_become_41 rfl qbi_40 ?_
  refine mK_copyL (j1 := 35) (j2 := 45) dX8_become_43 rfl (by decide) (by decide) rfl rfl (by decide) (by decide) (by decide) (by decide) (by decide) (Nat.le_of_ble_eq_true rfl) kw_1375 kw_474 kw_473 kw_104 ?_
  refine mK_aload_n dX8_become_46 rfl rfl (.head _) ?_
  refine mK_aload_n dX8_become_47 rfl rfl (.tail _ (.head _)) ?_
  refine ru_getR (k := 2) (ci := 7) (a := 34) dX8_become_48 rfl rfl rfl kw_1083 ?_
  refine mK_aload_n dX8_become_51 rfl rfl (.head _) ?_
  refine ru_getR (k := 2) (ci := 7) (a := 44) dX8_become_52 rfl rfl rfl kw_1083 ?_
  refine mK_invV (J := M_X8_copy) (k := 2) (as := [.ref 34, .ref 44]) (st := []) (c1 := 0) (s1 := 0) dX8_become_55 rfl jw_X8_copy jn_X8_copy rfl (Nat.le_of_ble_eq_true rfl) (Nat.zero_le _) (Nat.zero_le _) rfl kw_1376 kw_1378 kw_54 (b := 42) (Nat.le_of_ble_eq_true rfl) (Nat.le_of_ble_eq_true rfl) rfl ?_
  refine S_X8_copy_42_34_44  ?_
  show mK Γ M_X8_become (d + 2) Q 60 0 0 58 [(0, .ref 42), (1, .ref 32)] [] 60 mSH (g_X8_copy_42_34_44 (mRowL (mRowL (mPI (mPI σ 42 0 (σ.1 32 0)) 42 3 (σ.1 32 3)) 43 (va_cpy ((mPI (mPI σ 42 0 (σ.1 32 0)) 42 3 (σ.1 32 3)).2.1 33) ((mPI (mPI σ 42 0 (σ.1 32 0)) 42 3 (σ.1 32 3)).2.1 43) 0 0 6)) 45 (va_cpy ((mRowL (mPI (mPI σ 42 0 (σ.1 32 0)) 42 3 (σ.1 32 3)) 43 (va_cpy ((mPI (mPI σ 42 0 (σ.1 32 0)) 42 3 (σ.1 32 3)).2.1 33) ((mPI (mPI σ 42 0 (σ.1 32 0)) 42 3 (σ.1 32 3)).2.1 43) 0 0 6)).2.1 35) ((mRowL (mPI (mPI σ 42 0 (σ.1 32 0)) 42 3 (σ.1 32 3)) 43 (va_cpy ((mPI (mPI σ 42 0 (σ.1 32 0)) 42 3 (σ.1 32 3)).2.1 33) ((mPI (mPI σ 42 0 (σ.1 32 0)) 42 3 (σ.1 32 3)).2.1 43) 0 0 6)).2.1 45) 0 0 40)))
  refine mK_aload_n dX8_become_58 rfl rfl (.head _) ?_
  refine mK_aload_n dX8_become_59 rfl rfl (.tail _ (.head _)) ?_
  refine ru_getR (k := 5) (ci := 7) (a := 36) dX8_become_60 rfl rfl rfl kw_1089 ?_
  refine mK_aload_n dX8_become_63 rfl rfl (.head _) ?_
  refine ru_getR (k := 5) (ci := 7) (a := 46) dX8_become_64 rfl rfl rfl kw_1089 ?_
  refine mK_invV (J := M_X8_copy) (k := 2) (as := [.ref 36, .ref 46]) (st := []) (c1 := 0) (s1 := 0) dX8_become_67 rfl jw_X8_copy jn_X8_copy rfl (Nat.le_of_ble_eq_true rfl) (Nat.zero_le _) (Nat.zero_le _) rfl kw_1376 kw_1378 kw_54 (b := 42) (Nat.le_of_ble_eq_true rfl) (Nat.le_of_ble_eq_true rfl) rfl ?_
  refine S_X8_copy_42_36_46  ?_
  show mK Γ M_X8_become (d + 2) Q 60 0 0 70 [(0, .ref 42), (1, .ref 32)] [] 60 mSH (g_X8_copy_42_36_46 (g_X8_copy_42_34_44 (mRowL (mRowL (mPI (mPI σ 42 0 (σ.1 32 0)) 42 3 (σ.1 32 3)) 43 (va_cpy ((mPI (mPI σ 42 0 (σ.1 32 0)) 42 3 (σ.1 32 3)).2.1 33) ((mPI (mPI σ 42 0 (σ.1 32 0)) 42 3 (σ.1 32 3)).2.1 43) 0 0 6)) 45 (va_cpy ((mRowL (mPI (mPI σ 42 0 (σ.1 32 0)) 42 3 (σ.1 32 3)) 43 (va_cpy ((mPI (mPI σ 42 0 (σ.1 32 0)) 42 3 (σ.1 32 3)).2.1 33) ((mPI (mPI σ 42 0 (σ.1 32 0)) 42 3 (σ.1 32 3)).2.1 43) 0 0 6)).2.1 35) ((mRowL (mPI (mPI σ 42 0 (σ.1 32 0)) 42 3 (σ.1 32 3)) 43 (va_cpy ((mPI (mPI σ 42 0 (σ.1 32 0)) 42 3 (σ.1 32 3)).2.1 33) ((mPI (mPI σ 42 0 (σ.1 32 0)) 42 3 (σ.1 32 3)).2.1 43) 0 0 6)).2.1 45) 0 0 40))))
  refine mK_aload_n dX8_become_70 rfl rfl (.head _) ?_
  refine mK_aload_n dX8_become_71 rfl rfl (.tail _ (.head _)) ?_
  refine ru_getR (k := 6) (ci := 7) (a := 37) dX8_become_72 rfl rfl rfl kw_1091 ?_
  refine mK_aload_n dX8_become_75 rfl rfl (.head _) ?_
  refine ru_getR (k := 6) (ci := 7) (a := 47) dX8_become_76 rfl rfl rfl kw_1091 ?_
  refine mK_invV (J := M_X8_copy) (k := 2) (as := [.ref 37, .ref 47]) (st := []) (c1 := 0) (s1 := 0) dX8_become_79 rfl jw_X8_copy jn_X8_copy rfl (Nat.le_of_ble_eq_true rfl) (Nat.zero_le _) (Nat.zero_le _) rfl kw_1376 kw_1378 kw_54 (b := 42) (Nat.le_of_ble_eq_true rfl) (Nat.le_of_ble_eq_true rfl) rfl ?_
  refine S_X8_copy_42_37_47  ?_
  show mK Γ M_X8_become (d + 2) Q 60 0 0 82 [(0, .ref 42), (1, .ref 32)] [] 60 mSH (g_X8_copy_42_37_47 (g_X8_copy_42_36_46 (g_X8_copy_42_34_44 (mRowL (mRowL (mPI (mPI σ 42 0 (σ.1 32 0)) 42 3 (σ.1 32 3)) 43 (va_cpy ((mPI (mPI σ 42 0 (σ.1 32 0)) 42 3 (σ.1 32 3)).2.1 33) ((mPI (mPI σ 42 0 (σ.1 32 0)) 42 3 (σ.1 32 3)).2.1 43) 0 0 6)) 45 (va_cpy ((mRowL (mPI (mPI σ 42 0 (σ.1 32 0)) 42 3 (σ.1 32 3)) 43 (va_cpy ((mPI (mPI σ 42 0 (σ.1 32 0)) 42 3 (σ.1 32 3)).2.1 33) ((mPI (mPI σ 42 0 (σ.1 32 0)) 42 3 (σ.1 32 3)).2.1 43) 0 0 6)).2.1 35) ((mRowL (mPI (mPI σ 42 0 (σ.1 32 0)) 42 3 (σ.1 32 3)) 43 (va_cpy ((mPI (mPI σ 42 0 (σ.1 32 0)) 42 3 (σ.1 32 3)).2.1 33) ((mPI (mPI σ 42 0 (σ.1 32 0)) 42 3 (σ.1 32 3)).2.1 43) 0 0 6)).2.1 45) 0 0 40)))))
  refine mK_aload_n dX8_become_82 rfl rfl (.head _) ?_
  refine mK_aload_n dX8_become_83 rfl rfl (.tail _ (.head _)) ?_
  refine ru_getR (k := 7) (ci := 7) (a := 38) dX8_become_84 rfl rfl rfl kw_1093 ?_
  refine mK_aload_n dX8_become_87 rfl rfl (.head _) ?_
  refine ru_getR (k := 7) (ci := 7) (a := 48) dX8_become_88 rfl rfl rfl kw_1093 ?_
  refine mK_invV (J := M_X8_copy) (k := 2) (as := [.ref 38, .ref 48]) (st := []) (c1 := 0) (s1 := 0) dX8_become_91 rfl jw_X8_copy jn_X8_copy rfl (Nat.le_of_ble_eq_true rfl) (Nat.zero_le _) (Nat.zero_le _) rfl kw_1376 kw_1378 kw_54 (b := 42) (Nat.le_of_ble_eq_true rfl) (Nat.le_of_ble_eq_true rfl) rfl ?_
  refine S_X8_copy_42_38_48  ?_
  show mK Γ M_X8_become (d + 2) Q 60 0 0 94 [(0, .ref 42), (1, .ref 32)] [] 60 mSH (g_X8_copy_42_38_48 (g_X8_copy_42_37_47 (g_X8_copy_42_36_46 (g_X8_copy_42_34_44 (mRowL (mRowL (mPI (mPI σ 42 0 (σ.1 32 0)) 42 3 (σ.1 32 3)) 43 (va_cpy ((mPI (mPI σ 42 0 (σ.1 32 0)) 42 3 (σ.1 32 3)).2.1 33) ((mPI (mPI σ 42 0 (σ.1 32 0)) 42 3 (σ.1 32 3)).2.1 43) 0 0 6)) 45 (va_cpy ((mRowL (mPI (mPI σ 42 0 (σ.1 32 0)) 42 3 (σ.1 32 3)) 43 (va_cpy ((mPI (mPI σ 42 0 (σ.1 32 0)) 42 3 (σ.1 32 3)).2.1 33) ((mPI (mPI σ 42 0 (σ.1 32 0)) 42 3 (σ.1 32 3)).2.1 43) 0 0 6)).2.1 35) ((mRowL (mPI (mPI σ 42 0 (σ.1 32 0)) 42 3 (σ.1 32 3)) 43 (va_cpy ((mPI (mPI σ 42 0 (σ.1 32 0)) 42 3 (σ.1 32 3)).2.1 33) ((mPI (mPI σ 42 0 (σ.1 32 0)) 42 3 (σ.1 32 3)).2.1 43) 0 0 6)).2.1 45) 0 0 40))))))
  refine mK_aload_n dX8_become_94 rfl rfl (.head _) ?_
  refine mK_aload_n dX8_become_95 rfl rfl (.tail _ (.head _)) ?_
  refine ru_getR (k := 8) (ci := 7) (a := 39) dX8_become_96 rfl rfl rfl kw_1095 ?_
  refine mK_aload_n dX8_become_99 rfl rfl (.head _) ?_
  refine ru_getR (k := 8) (ci := 7) (a := 49) dX8_become_100 rfl rfl rfl kw_1095 ?_
  refine mK_invV (J := M_X8_copy) (k := 2) (as := [.ref 39, .ref 49]) (st := []) (c1 := 0) (s1 := 0) dX8_become_103 rfl jw_X8_copy jn_X8_copy rfl (Nat.le_of_ble_eq_true rfl) (Nat.zero_le _) (Nat.zero_le _) rfl kw_1376 kw_1378 kw_54 (b := 42) (Nat.le_of_ble_eq_true rfl) (Nat.le_of_ble_eq_true rfl) rfl ?_
  refine S_X8_copy_42_39_49  ?_
  show mK Γ M_X8_become (d + 2) Q 60 0 0 106 [(0, .ref 42), (1, .ref 32)] [] 60 mSH (g_X8_copy_42_39_49 (g_X8_copy_42_38_48 (g_X8_copy_42_37_47 (g_X8_copy_42_36_46 (g_X8_copy_42_34_44 (mRowL (mRowL (mPI (mPI σ 42 0 (σ.1 32 0)) 42 3 (σ.1 32 3)) 43 (va_cpy ((mPI (mPI σ 42 0 (σ.1 32 0)) 42 3 (σ.1 32 3)).2.1 33) ((mPI (mPI σ 42 0 (σ.1 32 0)) 42 3 (σ.1 32 3)).2.1 43) 0 0 6)) 45 (va_cpy ((mRowL (mPI (mPI σ 42 0 (σ.1 32 0)) 42 3 (σ.1 32 3)) 43 (va_cpy ((mPI (mPI σ 42 0 (σ.1 32 0)) 42 3 (σ.1 32 3)).2.1 33) ((mPI (mPI σ 42 0 (σ.1 32 0)) 42 3 (σ.1 32 3)).2.1 43) 0 0 6)).2.1 35) ((mRowL (mPI (mPI σ 42 0 (σ.1 32 0)) 42 3 (σ.1 32 3)) 43 (va_cpy ((mPI (mPI σ 42 0 (σ.1 32 0)) 42 3 (σ.1 32 3)).2.1 33) ((mPI (mPI σ 42 0 (σ.1 32 0)) 42 3 (σ.1 32 3)).2.1 43) 0 0 6)).2.1 45) 0 0 40)))))))
  refine mK_aload_n dX8_become_106 rfl rfl (.head _) ?_
  refine mK_aload_n dX8_become_107 rfl rfl (.tail _ (.head _)) ?_
  refine ru_getR (k := 9) (ci := 7) (a := 40) dX8_become_108 rfl rfl rfl kw_1097 ?_
  refine mK_aload_n dX8_become_111 rfl rfl (.head _) ?_
  refine ru_getR (k := 9) (ci := 7) (a := 50) dX8_become_112 rfl rfl rfl kw_1097 ?_
  refine mK_invV (J := M_X8_copy) (k := 2) (as := [.ref 40, .ref 50]) (st := []) (c1 := 0) (s1 := 0) dX8_become_115 rfl jw_X8_copy jn_X8_copy rfl (Nat.le_of_ble_eq_true rfl) (Nat.zero_le _) (Nat.zero_le _) rfl kw_1376 kw_1378 kw_54 (b := 42) (Nat.le_of_ble_eq_true rfl) (Nat.le_of_ble_eq_true rfl) rfl ?_
  refine S_X8_copy_42_40_50  ?_
  show mK Γ M_X8_become (d + 2) Q 60 0 0 118 [(0, .ref 42), (1, .ref 32)] [] 60 mSH (g_X8_copy_42_40_50 (g_X8_copy_42_39_49 (g_X8_copy_42_38_48 (g_X8_copy_42_37_47 (g_X8_copy_42_36_46 (g_X8_copy_42_34_44 (mRowL (mRowL (mPI (mPI σ 42 0 (σ.1 32 0)) 42 3 (σ.1 32 3)) 43 (va_cpy ((mPI (mPI σ 42 0 (σ.1 32 0)) 42 3 (σ.1 32 3)).2.1 33) ((mPI (mPI σ 42 0 (σ.1 32 0)) 42 3 (σ.1 32 3)).2.1 43) 0 0 6)) 45 (va_cpy ((mRowL (mPI (mPI σ 42 0 (σ.1 32 0)) 42 3 (σ.1 32 3)) 43 (va_cpy ((mPI (mPI σ 42 0 (σ.1 32 0)) 42 3 (σ.1 32 3)).2.1 33) ((mPI (mPI σ 42 0 (σ.1 32 0)) 42 3 (σ.1 32 3)).2.1 43) 0 0 6)).2.1 35) ((mRowL (mPI (mPI σ 42 0 (σ.1 32 0)) 42 3 (σ.1 32 3)) 43 (va_cpy ((mPI (mPI σ 42 0 (σ.1 32 0)) 42 3 (σ.1 32 3)).2.1 33) ((mPI (mPI σ 42 0 (σ.1 32 0)) 42 3 (σ.1 32 3)).2.1 43) 0 0 6)).2.1 45) 0 0 40))))))))
  refine mK_aload_n dX8_become_118 rfl rfl (.head _) ?_
  refine mK_aload_n dX8_become_119 rfl rfl (.tail _ (.head _)) ?_
  refine ru_getR (k := 10) (ci := 7) (a := 41) dX8_become_120 rfl rfl rfl kw_1099 ?_
  refine mK_aload_n dX8_become_123 rfl rfl (.head _) ?_
  refine ru_getR (k := 10) (ci := 7) (a := 51) dX8_become_124 rfl rfl rfl kw_1099 ?_
  refine mK_invV (J := M_X8_copy) (k := 2) (as := [.ref 41, .ref 51]) (st := []) (c1 := 0) (s1 := 0) dX8_become_127 rfl jw_X8_copy jn_X8_copy rfl (Nat.le_of_ble_eq_true rfl) (Nat.zero_le _) (Nat.zero_le _) rfl kw_1376 kw_1378 kw_54 (b := 42) (Nat.le_of_ble_eq_true rfl) (Nat.le_of_ble_eq_true rfl) rfl ?_
  refine S_X8_copy_42_41_51  ?_
  show mK Γ M_X8_become (d + 2) Q 60 0 0 130 [(0, .ref 42), (1, .ref 32)] [] 60 mSH (g_X8_copy_42_41_51 (g_X8_copy_42_40_50 (g_X8_copy_42_39_49 (g_X8_copy_42_38_48 (g_X8_copy_42_37_47 (g_X8_copy_42_36_46 (g_X8_copy_42_34_44 (mRowL (mRowL (mPI (mPI σ 42 0 (σ.1 32 0)) 42 3 (σ.1 32 3)) 43 (va_cpy ((mPI (mPI σ 42 0 (σ.1 32 0)) 42 3 (σ.1 32 3)).2.1 33) ((mPI (mPI σ 42 0 (σ.1 32 0)) 42 3 (σ.1 32 3)).2.1 43) 0 0 6)) 45 (va_cpy ((mRowL (mPI (mPI σ 42 0 (σ.1 32 0)) 42 3 (σ.1 32 3)) 43 (va_cpy ((mPI (mPI σ 42 0 (σ.1 32 0)) 42 3 (σ.1 32 3)).2.1 33) ((mPI (mPI σ 42 0 (σ.1 32 0)) 42 3 (σ.1 32 3)).2.1 43) 0 0 6)).2.1 35) ((mRowL (mPI (mPI σ 42 0 (σ.1 32 0)) 42 3 (σ.1 32 3)) 43 (va_cpy ((mPI (mPI σ 42 0 (σ.1 32 0)) 42 3 (σ.1 32 3)).2.1 33) ((mPI (mPI σ 42 0 (σ.1 32 0)) 42 3 (σ.1 32 3)).2.1 43) 0 0 6)).2.1 45) 0 0 40)))))))))
  exact mK_vret dX8_become_130 rfl (by rw [(show (g_X8_become_42_32 σ) = (g_X8_copy_42_41_51 (g_X8_copy_42_40_50 (g_X8_copy_42_39_49 (g_X8_copy_42_38_48 (g_X8_copy_42_37_47 (g_X8_copy_42_36_46 (g_X8_copy_42_34_44 (mRowL (mRowL (mPI (mPI σ 42 0 (σ.1 32 0)) 42 3 (σ.1 32 3)) 43 (va_cpy ((mPI (mPI σ 42 0 (σ.1 32 0)) 42 3 (σ.1 32 3)).2.1 33) ((mPI (mPI σ 42 0 (σ.1 32 0)) 42 3 (σ.1 32 3)).2.1 43) 0 0 6)) 45 (va_cpy ((mRowL (mPI (mPI σ 42 0 (σ.1 32 0)) 42 3 (σ.1 32 3)) 43 (va_cpy ((mPI (mPI σ 42 0 (σ.1 32 0)) 42 3 (σ.1 32 3)).2.1 33) ((mPI (mPI σ 42 0 (σ.1 32 0)) 42 3 (σ.1 32 3)).2.1 43) 0 0 6)).2.1 35) ((mRowL (mPI (mPI σ 42 0 (σ.1 32 0)) 42 3 (σ.1 32 3)) 43 (va_cpy ((mPI (mPI σ 42 0 (σ.1 32 0)) 42 3 (σ.1 32 3)).2.1 33) ((mPI (mPI σ 42 0 (σ.1 32 0)) 42 3 (σ.1 32 3)).2.1 43) 0 0 6)).2.1 45) 0 0 40))))))))) from rfl)] at hQ; exact hQ)
def f_X8_isStrong_32 (σ : mS) (a1 : Int32) : Int32 := if (σ.1 36 (a1).toNatClampNeg) = 1 then (if (σ.1 36 (σ.1 40 (a1).toNatClampNeg).toNatClampNeg) = 0 then (if (2 * (σ.1 38 (a1).toNatClampNeg)) < (σ.1 38 (σ.1 40 (a1).toNatClampNeg).toNatClampNeg) then 0 else 1) else (if (σ.1 38 (a1).toNatClampNeg) < (σ.1 38 (σ.1 40 (a1).toNatClampNeg).toNatClampNeg) then 0 else 1)) else 0
set_option maxRecDepth 20000 in
theorem S_X8_isStrong_32 {Γ : Nat × (Nat → Int32)} {d : Nat} {Q : mQ} {σ : mS} (a1 : Int32) (hs1 : vp_in a1 40) (hs2 : ((σ.1 36 (a1).toNatClampNeg) = 1) → vp_in (σ.1 40 (a1).toNatClampNeg) 40) (hQ : Q (.inl (some (.int (f_X8_isStrong_32 σ a1)))) 60 mSH σ) : mCall Γ M_X8_isStrong (d + 1) 0 0 [.ref 32, .int a1] 60 mSH σ Q := by
  refine mCall_of rfl (by decide) (Nat.le_of_ble_eq_true rfl) (mOkC (mOk_lo (Nat.le_of_ble_eq_true rfl)) (mOkC mOk_i mOkN)) ?_
  show mK Γ M_X8_isStrong (d + 1) Q 60 0 0 0 [(0, .ref 32), (1, .int a1)] [] 60 mSH σ
  refine mK_aload_n dX8_isStrong_0 rfl rfl (.head _) ?_
  refine ru_getR (k := 5) (ci := 7) (a := 36) dX8_isStrong_1 rfl rfl rfl kw_1089 ?_
  refine mK_iload_n dX8_isStrong_4 rfl rfl (.tail _ (.head _)) ?_
  refine ru_iald (n := 40) dX8_isStrong_5 rfl rfl hs1 ?_
  refine mK_iconst dX8_isStrong_6 rfl qic_1 ?_
  refine mK_icmp_eq (tgt := 12) dX8_isStrong_7 rfl (by decide) (fun c1 => ?_) (fun c1 => ?_)
  · refine mK_aload_n dX8_isStrong_12 rfl rfl (.head _) ?_
    refine ru_getR (k := 5) (ci := 7) (a := 36) dX8_isStrong_13 rfl rfl rfl kw_1089 ?_
    refine mK_aload_n dX8_isStrong_16 rfl rfl (.head _) ?_
    refine ru_getR (k := 9) (ci := 7) (a := 40) dX8_isStrong_17 rfl rfl rfl kw_1097 ?_
    refine mK_iload_n dX8_isStrong_20 rfl rfl (.tail _ (.head _)) ?_
    refine ru_iald (n := 40) dX8_isStrong_21 rfl rfl hs1 ?_
    refine ru_iald (n := 40) dX8_isStrong_22 rfl rfl (hs2 c1) ?_
    refine ru_if_ne (tgt := 56) dX8_isStrong_23 rfl (by decide) (fun c2 => ?_) (fun c2 => ?_)
    · refine mK_aload_n dX8_isStrong_56 rfl rfl (.head _) ?_
      refine ru_getR (k := 7) (ci := 7) (a := 38) dX8_isStrong_57 rfl rfl rfl kw_1093 ?_
      refine mK_aload_n dX8_isStrong_60 rfl rfl (.head _) ?_
      refine ru_getR (k := 9) (ci := 7) (a := 40) dX8_isStrong_61 rfl rfl rfl kw_1097 ?_
      refine mK_iload_n dX8_isStrong_64 rfl rfl (.tail _ (.head _)) ?_
      refine ru_iald (n := 40) dX8_isStrong_65 rfl rfl hs1 ?_
      refine ru_iald (n := 40) dX8_isStrong_66 rfl rfl (hs2 c1) ?_
      refine mK_aload_n dX8_isStrong_67 rfl rfl (.head _) ?_
      refine ru_getR (k := 7) (ci := 7) (a := 38) dX8_isStrong_68 rfl rfl rfl kw_1093 ?_
      refine mK_iload_n dX8_isStrong_71 rfl rfl (.tail _ (.head _)) ?_
      refine ru_iald (n := 40) dX8_isStrong_72 rfl rfl hs1 ?_
      refine mK_icmp_gt (tgt := 80) dX8_isStrong_73 rfl (by decide) (fun c3 => ?_) (fun c3 => ?_)
      · refine mK_iconst dX8_isStrong_80 rfl qic_0 ?_
        exact mK_zret dX8_isStrong_81 rfl (by decide) (by rw [(show (f_X8_isStrong_32 σ a1) = 0 from by unfold f_X8_isStrong_32; exact ((if_pos c1).trans ((if_neg c2).trans ((if_pos c3).trans rfl))))] at hQ; exact hQ)
      · refine mK_iconst dX8_isStrong_76 rfl qic_1 ?_
        refine mK_goto (tgt := 81) dX8_isStrong_77 (by decide) ?_
        exact mK_zret dX8_isStrong_81 rfl (by decide) (by rw [(show (f_X8_isStrong_32 σ a1) = 1 from by unfold f_X8_isStrong_32; exact ((if_pos c1).trans ((if_neg c2).trans ((if_neg c3).trans rfl))))] at hQ; exact hQ)
    · refine mK_aload_n dX8_isStrong_26 rfl rfl (.head _) ?_
      refine ru_getR (k := 7) (ci := 7) (a := 38) dX8_isStrong_27 rfl rfl rfl kw_1093 ?_
      refine mK_aload_n dX8_isStrong_30 rfl rfl (.head _) ?_
      refine ru_getR (k := 9) (ci := 7) (a := 40) dX8_isStrong_31 rfl rfl rfl kw_1097 ?_
      refine mK_iload_n dX8_isStrong_34 rfl rfl (.tail _ (.head _)) ?_
      refine ru_iald (n := 40) dX8_isStrong_35 rfl rfl hs1 ?_
      refine ru_iald (n := 40) dX8_isStrong_36 rfl rfl (hs2 c1) ?_
      refine mK_iconst dX8_isStrong_37 rfl qic_2 ?_
      refine mK_aload_n dX8_isStrong_38 rfl rfl (.head _) ?_
      refine ru_getR (k := 7) (ci := 7) (a := 38) dX8_isStrong_39 rfl rfl rfl kw_1093 ?_
      refine mK_iload_n dX8_isStrong_42 rfl rfl (.tail _ (.head _)) ?_
      refine ru_iald (n := 40) dX8_isStrong_43 rfl rfl hs1 ?_
      refine mK_imul dX8_isStrong_44 rfl ?_
      refine mK_icmp_gt (tgt := 52) dX8_isStrong_45 rfl (by decide) (fun c4 => ?_) (fun c4 => ?_)
      · refine mK_iconst dX8_isStrong_52 rfl qic_0 ?_
        refine mK_goto (tgt := 81) dX8_isStrong_53 (by decide) ?_
        exact mK_zret dX8_isStrong_81 rfl (by decide) (by rw [(show (f_X8_isStrong_32 σ a1) = 0 from by unfold f_X8_isStrong_32; exact ((if_pos c1).trans ((if_pos c2).trans ((if_pos c4).trans rfl))))] at hQ; exact hQ)
      · refine mK_iconst dX8_isStrong_48 rfl qic_1 ?_
        refine mK_goto (tgt := 81) dX8_isStrong_49 (by decide) ?_
        exact mK_zret dX8_isStrong_81 rfl (by decide) (by rw [(show (f_X8_isStrong_32 σ a1) = 1 from by unfold f_X8_isStrong_32; exact ((if_pos c1).trans ((if_pos c2).trans ((if_neg c4).trans rfl))))] at hQ; exact hQ)
  · refine mK_iconst dX8_isStrong_10 rfl qic_0 ?_
    exact mK_zret dX8_isStrong_11 rfl (by decide) (by rw [(show (f_X8_isStrong_32 σ a1) = 0 from by unfold f_X8_isStrong_32; exact ((if_neg c1).trans rfl))] at hQ; exact hQ)
def h_X9_fail_26 (σ : mS) (a1 : Int32) (a2 : Int32) : Int32 × mS := (a1, (mPI σ 26 1 (σ.1 30 (a2).toNatClampNeg)))
set_option maxRecDepth 20000 in
theorem S_X9_fail_26 {Γ : Nat × (Nat → Int32)} {d : Nat} {Q : mQ} {σ : mS} (a1 : Int32) (a2 : Int32) (hs1 : vp_in a2 402) (hQ : Q (.inl (some (.int (h_X9_fail_26 σ a1 a2).1))) 60 mSH (h_X9_fail_26 σ a1 a2).2) : mCall Γ M_X9_fail (d + 1) 0 0 [.ref 26, .int a1, .int a2] 60 mSH σ Q := by
  refine mCall_of rfl (by decide) (Nat.le_of_ble_eq_true rfl) (mOkC (mOk_lo (Nat.le_of_ble_eq_true rfl)) (mOkC mOk_i (mOkC mOk_i mOkN))) ?_
  show mK Γ M_X9_fail (d + 1) Q 60 0 0 0 [(0, .ref 26), (1, .int a1), (2, .int a2)] [] 60 mSH σ
  refine mK_aload_n dX9_fail_0 rfl rfl (.head _) ?_
  refine mK_aload_n dX9_fail_1 rfl rfl (.head _) ?_
  refine ru_getR (k := 8) (ci := 8) (a := 30) dX9_fail_2 rfl rfl rfl kw_1135 ?_
  refine mK_iload_n dX9_fail_5 rfl rfl (.tail _ (.tail _ (.head _))) ?_
  refine ru_iald (n := 402) dX9_fail_6 rfl rfl hs1 ?_
  refine ru_putI (k := 1) (ci := 8) dX9_fail_7 rfl rfl rfl kw_1128 ?_
  refine mK_iload_n dX9_fail_10 rfl rfl (.tail _ (.head _)) ?_
  exact mK_iret dX9_fail_11 rfl (by rw [(show (h_X9_fail_26 σ a1 a2) = (a1, (mPI σ 26 1 (σ.1 30 (a2).toNatClampNeg))) from rfl)] at hQ; exact hQ)
def f_X9_isIn (σ : mS) (a1 : Int32) (a2 : Int32) (a3 : Int32) : Int32 := if a1 < a2 then 0 else (if a3 < a1 then 0 else 1)
set_option maxRecDepth 20000 in
theorem S_X9_isIn {Γ : Nat × (Nat → Int32)} {d : Nat} {Q : mQ} {σ : mS} (a1 : Int32) (a2 : Int32) (a3 : Int32) (hQ : Q (.inl (some (.int (f_X9_isIn σ a1 a2 a3)))) 60 mSH σ) : mCall Γ M_X9_isIn (d + 1) 0 0 [.int a1, .int a2, .int a3] 60 mSH σ Q := by
  refine mCall_of rfl (by decide) (Nat.le_of_ble_eq_true rfl) (mOkC mOk_i (mOkC mOk_i (mOkC mOk_i mOkN))) ?_
  show mK Γ M_X9_isIn (d + 1) Q 60 0 0 0 [(0, .int a1), (1, .int a2), (2, .int a3)] [] 60 mSH σ
  refine mK_iload_n dX9_isIn_0 rfl rfl (.head _) ?_
  refine mK_iload_n dX9_isIn_1 rfl rfl (.tail _ (.head _)) ?_
  refine mK_icmp_lt (tgt := 14) dX9_isIn_2 rfl (by decide) (fun c1 => ?_) (fun c1 => ?_)
  · refine mK_iconst dX9_isIn_14 rfl qic_0 ?_
    exact mK_zret dX9_isIn_15 rfl (by decide) (by rw [(show (f_X9_isIn σ a1 a2 a3) = 0 from by unfold f_X9_isIn; exact ((if_pos c1).trans rfl))] at hQ; exact hQ)
  · refine mK_iload_n dX9_isIn_5 rfl rfl (.head _) ?_
    refine mK_iload_n dX9_isIn_6 rfl rfl (.tail _ (.tail _ (.head _))) ?_
    refine mK_icmp_gt (tgt := 14) dX9_isIn_7 rfl (by decide) (fun c2 => ?_) (fun c2 => ?_)
    · refine mK_iconst dX9_isIn_14 rfl qic_0 ?_
      exact mK_zret dX9_isIn_15 rfl (by decide) (by rw [(show (f_X9_isIn σ a1 a2 a3) = 0 from by unfold f_X9_isIn; exact ((if_neg c1).trans ((if_pos c2).trans rfl)))] at hQ; exact hQ)
    · refine mK_iconst dX9_isIn_10 rfl qic_1 ?_
      refine mK_goto (tgt := 15) dX9_isIn_11 (by decide) ?_
      exact mK_zret dX9_isIn_15 rfl (by decide) (by rw [(show (f_X9_isIn σ a1 a2 a3) = 1 from by unfold f_X9_isIn; exact ((if_neg c1).trans ((if_neg c2).trans rfl)))] at hQ; exact hQ)
def h_X9_past_26 (σ : mS) (a1 : Int32) : Int32 × mS := if a1 = 0 then (a1, σ) else (a1, (mPI σ 26 10 ((σ.1 26 10) + 1)))
set_option maxRecDepth 20000 in
theorem S_X9_past_26 {Γ : Nat × (Nat → Int32)} {d : Nat} {Q : mQ} {σ : mS} (a1 : Int32) (hs1 : (a1 = 0) → a1 = 0 ∨ a1 = 1) (hs2 : ¬ (a1 = 0) → a1 = 0 ∨ a1 = 1) (hQ : Q (.inl (some (.int (h_X9_past_26 σ a1).1))) 60 mSH (h_X9_past_26 σ a1).2) : mCall Γ M_X9_past (d + 1) 0 0 [.ref 26, .int a1] 60 mSH σ Q := by
  refine mCall_of rfl (by decide) (Nat.le_of_ble_eq_true rfl) (mOkC (mOk_lo (Nat.le_of_ble_eq_true rfl)) (mOkC mOk_i mOkN)) ?_
  show mK Γ M_X9_past (d + 1) Q 60 0 0 0 [(0, .ref 26), (1, .int a1)] [] 60 mSH σ
  refine mK_iload_n dX9_past_0 rfl rfl (.tail _ (.head _)) ?_
  refine mK_if_eq (tgt := 14) dX9_past_1 rfl (by decide) (fun c1 => ?_) (fun c1 => ?_)
  · refine mK_iload_n dX9_past_14 rfl rfl (.tail _ (.head _)) ?_
    exact mK_zret dX9_past_15 rfl (hs1 c1) (by rw [(show (h_X9_past_26 σ a1) = (a1, σ) from by unfold h_X9_past_26; exact ((if_pos c1).trans rfl))] at hQ; exact hQ)
  · refine mK_aload_n dX9_past_4 rfl rfl (.head _) ?_
    refine mK_dup dX9_past_5 rfl rfl ?_
    refine ru_getI (k := 10) (ci := 8) dX9_past_6 rfl rfl kw_1137 ?_
    refine mK_iconst dX9_past_9 rfl qic_1 ?_
    refine mK_iadd dX9_past_10 rfl ?_
    refine ru_putI (k := 10) (ci := 8) dX9_past_11 rfl rfl rfl kw_1137 ?_
    refine mK_iload_n dX9_past_14 rfl rfl (.tail _ (.head _)) ?_
    exact mK_zret dX9_past_15 rfl (hs2 c1) (by rw [(show (h_X9_past_26 σ a1) = (a1, (mPI σ 26 10 ((σ.1 26 10) + 1))) from by unfold h_X9_past_26; exact ((if_neg c1).trans rfl))] at hQ; exact hQ)
def f_X9_isConceded_26 (σ : mS) (a1 : Int32) : Int32 := if (σ.1 41 (a1).toNatClampNeg) = 1 then 1 else (if a1 = (σ.1 26 18) then 1 else (if a1 = (σ.1 26 19) then 1 else 0))
set_option maxRecDepth 20000 in
theorem S_X9_isConceded_26 {Γ : Nat × (Nat → Int32)} {d : Nat} {Q : mQ} {σ : mS} (a1 : Int32) (hs1 : vp_in a1 40) (hQ : Q (.inl (some (.int (f_X9_isConceded_26 σ a1)))) 60 mSH σ) : mCall Γ M_X9_isConceded (d + 1) 0 0 [.ref 26, .int a1] 60 mSH σ Q := by
  refine mCall_of rfl (by decide) (Nat.le_of_ble_eq_true rfl) (mOkC (mOk_lo (Nat.le_of_ble_eq_true rfl)) (mOkC mOk_i mOkN)) ?_
  show mK Γ M_X9_isConceded (d + 1) Q 60 0 0 0 [(0, .ref 26), (1, .int a1)] [] 60 mSH σ
  refine mK_aload_n dX9_isConceded_0 rfl rfl (.head _) ?_
  refine ru_getR (k := 11) (ci := 8) (a := 32) dX9_isConceded_1 rfl rfl rfl kw_1138 ?_
  refine ru_getRN (k := 10) (ci := 7) (a := 41) dX9_isConceded_4 rfl rfl rfl kn_1100 ?_
  refine mK_iload_n dX9_isConceded_7 rfl rfl (.tail _ (.head _)) ?_
  refine ru_iald (n := 40) dX9_isConceded_8 rfl rfl hs1 ?_
  refine mK_iconst dX9_isConceded_9 rfl qic_1 ?_
  refine mK_icmp_eq (tgt := 29) dX9_isConceded_10 rfl (by decide) (fun c1 => ?_) (fun c1 => ?_)
  · refine mK_iconst dX9_isConceded_29 rfl qic_1 ?_
    refine mK_goto (tgt := 34) dX9_isConceded_30 (by decide) ?_
    exact mK_zret dX9_isConceded_34 rfl (by decide) (by rw [(show (f_X9_isConceded_26 σ a1) = 1 from by unfold f_X9_isConceded_26; exact ((if_pos c1).trans rfl))] at hQ; exact hQ)
  · refine mK_iload_n dX9_isConceded_13 rfl rfl (.tail _ (.head _)) ?_
    refine mK_aload_n dX9_isConceded_14 rfl rfl (.head _) ?_
    refine ru_getI (k := 18) (ci := 8) dX9_isConceded_15 rfl rfl kw_1145 ?_
    refine mK_icmp_eq (tgt := 29) dX9_isConceded_18 rfl (by decide) (fun c2 => ?_) (fun c2 => ?_)
    · refine mK_iconst dX9_isConceded_29 rfl qic_1 ?_
      refine mK_goto (tgt := 34) dX9_isConceded_30 (by decide) ?_
      exact mK_zret dX9_isConceded_34 rfl (by decide) (by rw [(show (f_X9_isConceded_26 σ a1) = 1 from by unfold f_X9_isConceded_26; exact ((if_neg c1).trans ((if_pos c2).trans rfl)))] at hQ; exact hQ)
    · refine mK_iload_n dX9_isConceded_21 rfl rfl (.tail _ (.head _)) ?_
      refine mK_aload_n dX9_isConceded_22 rfl rfl (.head _) ?_
      refine ru_getI (k := 19) (ci := 8) dX9_isConceded_23 rfl rfl kw_1146 ?_
      refine ru_icmp_ne (tgt := 33) dX9_isConceded_26 rfl (by decide) (fun c3 => ?_) (fun c3 => ?_)
      · refine mK_iconst dX9_isConceded_33 rfl qic_0 ?_
        exact mK_zret dX9_isConceded_34 rfl (by decide) (by rw [(show (f_X9_isConceded_26 σ a1) = 0 from by unfold f_X9_isConceded_26; exact ((if_neg c1).trans ((if_neg c2).trans ((if_neg c3).trans rfl))))] at hQ; exact hQ)
      · refine mK_iconst dX9_isConceded_29 rfl qic_1 ?_
        refine mK_goto (tgt := 34) dX9_isConceded_30 (by decide) ?_
        exact mK_zret dX9_isConceded_34 rfl (by decide) (by rw [(show (f_X9_isConceded_26 σ a1) = 1 from by unfold f_X9_isConceded_26; exact ((if_neg c1).trans ((if_neg c2).trans ((if_pos c3).trans rfl))))] at hQ; exact hQ)
def h_X9_take_26 (σ : mS) (a1 : Int32) (a2 : Int32) : Int32 × mS := if a2 ≤ (σ.1 34 (a1).toNatClampNeg) then (0, (mPI σ 34 (a1).toNatClampNeg ((σ.1 34 (a1).toNatClampNeg) - a2))) else ((h_X9_fail_26 σ 7 (σ.1 26 10)).1, (h_X9_fail_26 σ 7 (σ.1 26 10)).2)
set_option maxRecDepth 20000 in
theorem S_X9_take_26 {Γ : Nat × (Nat → Int32)} {d : Nat} {Q : mQ} {σ : mS} (a1 : Int32) (a2 : Int32) (hs1 : vp_in a1 6) (hs2 : ¬ (a2 ≤ (σ.1 34 (a1).toNatClampNeg)) → vp_in (σ.1 26 10) 402) (hQ : Q (.inl (some (.int (h_X9_take_26 σ a1 a2).1))) 60 mSH (h_X9_take_26 σ a1 a2).2) : mCall Γ M_X9_take (d + 2) 0 0 [.ref 26, .int a1, .int a2] 60 mSH σ Q := by
  refine mCall_of rfl (by decide) (Nat.le_of_ble_eq_true rfl) (mOkC (mOk_lo (Nat.le_of_ble_eq_true rfl)) (mOkC mOk_i (mOkC mOk_i mOkN))) ?_
  show mK Γ M_X9_take (d + 2) Q 60 0 0 0 [(0, .ref 26), (1, .int a1), (2, .int a2)] [] 60 mSH σ
  refine mK_aload_n dX9_take_0 rfl rfl (.head _) ?_
  refine ru_getR (k := 11) (ci := 8) (a := 32) dX9_take_1 rfl rfl rfl kw_1138 ?_
  refine ru_getRN (k := 2) (ci := 7) (a := 34) dX9_take_4 rfl rfl rfl kn_1084 ?_
  refine mK_iload_n dX9_take_7 rfl rfl (.tail _ (.head _)) ?_
  refine ru_iald (n := 6) dX9_take_8 rfl rfl hs1 ?_
  refine mK_iload_n dX9_take_9 rfl rfl (.tail _ (.tail _ (.head _))) ?_
  refine mK_icmp_ge (tgt := 24) dX9_take_10 rfl (by decide) (fun c1 => ?_) (fun c1 => ?_)
  · refine mK_aload_n dX9_take_24 rfl rfl (.head _) ?_
    refine ru_getR (k := 11) (ci := 8) (a := 32) dX9_take_25 rfl rfl rfl kw_1138 ?_
    refine ru_getRN (k := 2) (ci := 7) (a := 34) dX9_take_28 rfl rfl rfl kn_1084 ?_
    refine mK_iload_n dX9_take_31 rfl rfl (.tail _ (.head _)) ?_
    refine mK_dup2 dX9_take_32 rfl rfl rfl ?_
    refine ru_iald (n := 6) dX9_take_33 rfl rfl hs1 ?_
    refine mK_iload_n dX9_take_34 rfl rfl (.tail _ (.tail _ (.head _))) ?_
    refine mK_isub dX9_take_35 rfl ?_
    refine ru_iast (n := 6) dX9_take_36 rfl rfl hs1 ?_
    refine mK_iconst dX9_take_37 rfl qic_0 ?_
    exact mK_iret dX9_take_38 rfl (by rw [(show (h_X9_take_26 σ a1 a2) = (0, (mPI σ 34 (a1).toNatClampNeg ((σ.1 34 (a1).toNatClampNeg) - a2))) from by unfold h_X9_take_26; exact ((if_pos c1).trans rfl))] at hQ; exact hQ)
  · refine mK_aload_n dX9_take_13 rfl rfl (.head _) ?_
    refine mK_bipush dX9_take_14 rfl qbi_7 ?_
    refine mK_aload_n dX9_take_16 rfl rfl (.head _) ?_
    refine ru_getI (k := 10) (ci := 8) dX9_take_17 rfl rfl kw_1137 ?_
    refine mK_invV (J := M_X9_fail) (k := 2) (as := [.int 7, .int (σ.1 26 10)]) (st := []) (c1 := 0) (s1 := 0) dX9_take_20 rfl jw_X9_fail jn_X9_fail rfl (Nat.le_of_ble_eq_true rfl) (Nat.zero_le _) (Nat.zero_le _) rfl kw_1367 kw_1369 kw_53 (b := 26) (Nat.le_of_ble_eq_true rfl) (Nat.le_of_ble_eq_true rfl) rfl ?_
    refine S_X9_fail_26 7 (σ.1 26 10) (hs2 c1) ?_
    show mK Γ M_X9_take (d + 2) Q 60 0 0 23 [(0, .ref 26), (1, .int a1), (2, .int a2)] [.int (h_X9_fail_26 σ 7 (σ.1 26 10)).1] 60 mSH (h_X9_fail_26 σ 7 (σ.1 26 10)).2
    exact mK_iret dX9_take_23 rfl (by rw [(show (h_X9_take_26 σ a1 a2) = ((h_X9_fail_26 σ 7 (σ.1 26 10)).1, (h_X9_fail_26 σ 7 (σ.1 26 10)).2) from by unfold h_X9_take_26; exact ((if_neg c1).trans rfl))] at hQ; exact hQ)
def f_X9_isSymbol_26 (σ : mS) (a1 : Int32) : Int32 := if (σ.1 29 (σ.1 26 10).toNatClampNeg) = 4 then (if (σ.2.1 31 (σ.1 26 10).toNatClampNeg) = (Int32.toInt64 a1) then 1 else 0) else 0
set_option maxRecDepth 20000 in
theorem S_X9_isSymbol_26 {Γ : Nat × (Nat → Int32)} {d : Nat} {Q : mQ} {σ : mS} (a1 : Int32) (hs1 : vp_in (σ.1 26 10) 402) (hQ : Q (.inl (some (.int (f_X9_isSymbol_26 σ a1)))) 60 mSH σ) : mCall Γ M_X9_isSymbol (d + 1) 0 0 [.ref 26, .int a1] 60 mSH σ Q := by
  refine mCall_of rfl (by decide) (Nat.le_of_ble_eq_true rfl) (mOkC (mOk_lo (Nat.le_of_ble_eq_true rfl)) (mOkC mOk_i mOkN)) ?_
  show mK Γ M_X9_isSymbol (d + 1) Q 60 0 0 0 [(0, .ref 26), (1, .int a1)] [] 60 mSH σ
  refine mK_aload_n dX9_isSymbol_0 rfl rfl (.head _) ?_
  refine ru_getR (k := 7) (ci := 8) (a := 29) dX9_isSymbol_1 rfl rfl rfl kw_1134 ?_
  refine mK_aload_n dX9_isSymbol_4 rfl rfl (.head _) ?_
  refine ru_getI (k := 10) (ci := 8) dX9_isSymbol_5 rfl rfl kw_1137 ?_
  refine ru_iald (n := 402) dX9_isSymbol_8 rfl rfl hs1 ?_
  refine mK_iconst dX9_isSymbol_9 rfl qic_4 ?_
  refine ru_icmp_ne (tgt := 32) dX9_isSymbol_10 rfl (by decide) (fun c1 => ?_) (fun c1 => ?_)
  · refine mK_iconst dX9_isSymbol_32 rfl qic_0 ?_
    exact mK_zret dX9_isSymbol_33 rfl (by decide) (by rw [(show (f_X9_isSymbol_26 σ a1) = 0 from by unfold f_X9_isSymbol_26; exact ((if_neg c1).trans rfl))] at hQ; exact hQ)
  · refine mK_aload_n dX9_isSymbol_13 rfl rfl (.head _) ?_
    refine ru_getR (k := 9) (ci := 8) (a := 31) dX9_isSymbol_14 rfl rfl rfl kw_1136 ?_
    refine mK_aload_n dX9_isSymbol_17 rfl rfl (.head _) ?_
    refine ru_getI (k := 10) (ci := 8) dX9_isSymbol_18 rfl rfl kw_1137 ?_
    refine ru_lald (n := 402) dX9_isSymbol_21 rfl rfl hs1 ?_
    refine mK_iload_n dX9_isSymbol_22 rfl rfl (.tail _ (.head _)) ?_
    refine mK_i2l dX9_isSymbol_23 rfl ?_
    refine ru_lif_ne (tgt := 32) dX9_isSymbol_24 rfl dX9_isSymbol_25 rfl (by decide) (fun c2 => ?_) (fun c2 => ?_)
    · refine mK_iconst dX9_isSymbol_32 rfl qic_0 ?_
      exact mK_zret dX9_isSymbol_33 rfl (by decide) (by rw [(show (f_X9_isSymbol_26 σ a1) = 0 from by unfold f_X9_isSymbol_26; exact ((if_pos c1).trans ((if_neg c2).trans rfl)))] at hQ; exact hQ)
    · refine mK_iconst dX9_isSymbol_28 rfl qic_1 ?_
      refine mK_goto (tgt := 33) dX9_isSymbol_29 (by decide) ?_
      exact mK_zret dX9_isSymbol_33 rfl (by decide) (by rw [(show (f_X9_isSymbol_26 σ a1) = 1 from by unfold f_X9_isSymbol_26; exact ((if_pos c1).trans ((if_pos c2).trans rfl)))] at hQ; exact hQ)
def f_X9_isSpeaker_26 (σ : mS) (a1 : Int32) : Int32 := (f_X9_isIn σ a1 0 ((σ.1 32 0) - 1))
set_option maxRecDepth 20000 in
theorem S_X9_isSpeaker_26 {Γ : Nat × (Nat → Int32)} {d : Nat} {Q : mQ} {σ : mS} (a1 : Int32) (hs1 : (f_X9_isIn σ a1 0 ((σ.1 32 0) - 1)) = 0 ∨ (f_X9_isIn σ a1 0 ((σ.1 32 0) - 1)) = 1) (hQ : Q (.inl (some (.int (f_X9_isSpeaker_26 σ a1)))) 60 mSH σ) : mCall Γ M_X9_isSpeaker (d + 2) 0 0 [.ref 26, .int a1] 60 mSH σ Q := by
  refine mCall_of rfl (by decide) (Nat.le_of_ble_eq_true rfl) (mOkC (mOk_lo (Nat.le_of_ble_eq_true rfl)) (mOkC mOk_i mOkN)) ?_
  show mK Γ M_X9_isSpeaker (d + 2) Q 60 0 0 0 [(0, .ref 26), (1, .int a1)] [] 60 mSH σ
  refine mK_iload_n dX9_isSpeaker_0 rfl rfl (.tail _ (.head _)) ?_
  refine mK_iconst dX9_isSpeaker_1 rfl qic_0 ?_
  refine mK_aload_n dX9_isSpeaker_2 rfl rfl (.head _) ?_
  refine ru_getR (k := 11) (ci := 8) (a := 32) dX9_isSpeaker_3 rfl rfl rfl kw_1138 ?_
  refine ru_getIN (k := 0) (ci := 7) dX9_isSpeaker_6 rfl rfl kn_1080 ?_
  refine mK_iconst dX9_isSpeaker_9 rfl qic_1 ?_
  refine mK_isub dX9_isSpeaker_10 rfl ?_
  refine mK_invS (J := M_X9_isIn) (k := 3) (as := [.int a1, .int 0, .int ((σ.1 32 0) - 1)]) (st := []) (c1 := 0) (s1 := 0) dX9_isSpeaker_11 rfl jw_X9_isIn jn_X9_isIn rfl (Nat.le_of_ble_eq_true rfl) (Nat.zero_le _) (Nat.zero_le _) rfl kw_1216 kw_1217 ?_
  refine S_X9_isIn a1 0 ((σ.1 32 0) - 1) ?_
  show mK Γ M_X9_isSpeaker (d + 2) Q 60 0 0 14 [(0, .ref 26), (1, .int a1)] [.int (f_X9_isIn σ a1 0 ((σ.1 32 0) - 1))] 60 mSH σ
  exact mK_zret dX9_isSpeaker_14 rfl hs1 (by rw [(show (f_X9_isSpeaker_26 σ a1) = (f_X9_isIn σ a1 0 ((σ.1 32 0) - 1)) from rfl)] at hQ; exact hQ)
def f_X9_leastOf_26 (σ : mS) (a1 : Int32) : Int32 := if (σ.1 36 (a1).toNatClampNeg) = 0 then (((σ.1 38 (a1).toNatClampNeg) + 1) / 2) else (σ.1 38 (a1).toNatClampNeg)
set_option maxRecDepth 20000 in
theorem S_X9_leastOf_26 {Γ : Nat × (Nat → Int32)} {d : Nat} {Q : mQ} {σ : mS} (a1 : Int32) (hs1 : vp_in a1 40) (hQ : Q (.inl (some (.int (f_X9_leastOf_26 σ a1)))) 60 mSH σ) : mCall Γ M_X9_leastOf (d + 1) 0 0 [.ref 26, .int a1] 60 mSH σ Q := by
  refine mCall_of rfl (by decide) (Nat.le_of_ble_eq_true rfl) (mOkC (mOk_lo (Nat.le_of_ble_eq_true rfl)) (mOkC mOk_i mOkN)) ?_
  show mK Γ M_X9_leastOf (d + 1) Q 60 0 0 0 [(0, .ref 26), (1, .int a1)] [] 60 mSH σ
  refine mK_aload_n dX9_leastOf_0 rfl rfl (.head _) ?_
  refine ru_getR (k := 11) (ci := 8) (a := 32) dX9_leastOf_1 rfl rfl rfl kw_1138 ?_
  refine ru_getRN (k := 5) (ci := 7) (a := 36) dX9_leastOf_4 rfl rfl rfl kn_1090 ?_
  refine mK_iload_n dX9_leastOf_7 rfl rfl (.tail _ (.head _)) ?_
  refine ru_iald (n := 40) dX9_leastOf_8 rfl rfl hs1 ?_
  refine ru_if_ne (tgt := 28) dX9_leastOf_9 rfl (by decide) (fun c1 => ?_) (fun c1 => ?_)
  · refine mK_aload_n dX9_leastOf_28 rfl rfl (.head _) ?_
    refine ru_getR (k := 11) (ci := 8) (a := 32) dX9_leastOf_29 rfl rfl rfl kw_1138 ?_
    refine ru_getRN (k := 7) (ci := 7) (a := 38) dX9_leastOf_32 rfl rfl rfl kn_1094 ?_
    refine mK_iload_n dX9_leastOf_35 rfl rfl (.tail _ (.head _)) ?_
    refine ru_iald (n := 40) dX9_leastOf_36 rfl rfl hs1 ?_
    exact mK_iret dX9_leastOf_37 rfl (by rw [(show (f_X9_leastOf_26 σ a1) = (σ.1 38 (a1).toNatClampNeg) from by unfold f_X9_leastOf_26; exact ((if_neg c1).trans rfl))] at hQ; exact hQ)
  · refine mK_aload_n dX9_leastOf_12 rfl rfl (.head _) ?_
    refine ru_getR (k := 11) (ci := 8) (a := 32) dX9_leastOf_13 rfl rfl rfl kw_1138 ?_
    refine ru_getRN (k := 7) (ci := 7) (a := 38) dX9_leastOf_16 rfl rfl rfl kn_1094 ?_
    refine mK_iload_n dX9_leastOf_19 rfl rfl (.tail _ (.head _)) ?_
    refine ru_iald (n := 40) dX9_leastOf_20 rfl rfl hs1 ?_
    refine mK_iconst dX9_leastOf_21 rfl qic_1 ?_
    refine mK_iadd dX9_leastOf_22 rfl ?_
    refine mK_iconst dX9_leastOf_23 rfl qic_2 ?_
    refine mK_idiv dX9_leastOf_24 rfl (by decide) ?_
    refine mK_goto (tgt := 37) dX9_leastOf_25 (by decide) ?_
    exact mK_iret dX9_leastOf_37 rfl (by rw [(show (f_X9_leastOf_26 σ a1) = (((σ.1 38 (a1).toNatClampNeg) + 1) / 2) from by unfold f_X9_leastOf_26; exact ((if_pos c1).trans rfl))] at hQ; exact hQ)
def h_X9_no_26 (σ : mS) (a1 : Int32) : Int32 × mS := (0, (mPI σ 26 0 a1))
set_option maxRecDepth 20000 in
theorem S_X9_no_26 {Γ : Nat × (Nat → Int32)} {d : Nat} {Q : mQ} {σ : mS} (a1 : Int32) (hQ : Q (.inl (some (.int (h_X9_no_26 σ a1).1))) 60 mSH (h_X9_no_26 σ a1).2) : mCall Γ M_X9_no (d + 1) 0 0 [.ref 26, .int a1] 60 mSH σ Q := by
  refine mCall_of rfl (by decide) (Nat.le_of_ble_eq_true rfl) (mOkC (mOk_lo (Nat.le_of_ble_eq_true rfl)) (mOkC mOk_i mOkN)) ?_
  show mK Γ M_X9_no (d + 1) Q 60 0 0 0 [(0, .ref 26), (1, .int a1)] [] 60 mSH σ
  refine mK_aload_n dX9_no_0 rfl rfl (.head _) ?_
  refine mK_iload_n dX9_no_1 rfl rfl (.tail _ (.head _)) ?_
  refine ru_putI (k := 0) (ci := 8) dX9_no_2 rfl rfl rfl kw_1127 ?_
  refine mK_iconst dX9_no_5 rfl qic_0 ?_
  exact mK_iret dX9_no_6 rfl (by rw [(show (h_X9_no_26 σ a1) = (0, (mPI σ 26 0 a1)) from rfl)] at hQ; exact hQ)
def h_X9_byteAt_26 (σ : mS) (a1 : Int32) : Int32 × mS := if (f_X9_isIn (mPI σ 26 0 0) a1 0 ((σ.1 26 4) - 1)) = 0 then ((h_X9_no_26 (mPI σ 26 0 0) 1).1, (h_X9_no_26 (mPI σ 26 0 0) 1).2) else ((σ.1 28 (a1).toNatClampNeg), (mPI σ 26 0 0))
set_option maxRecDepth 20000 in
theorem S_X9_byteAt_26 {Γ : Nat × (Nat → Int32)} {d : Nat} {Q : mQ} {σ : mS} (a1 : Int32) (hs1 : ¬ ((f_X9_isIn (mPI σ 26 0 0) a1 0 ((σ.1 26 4) - 1)) = 0) → vp_in a1 1280) (hQ : Q (.inl (some (.int (h_X9_byteAt_26 σ a1).1))) 60 mSH (h_X9_byteAt_26 σ a1).2) : mCall Γ M_X9_byteAt (d + 2) 0 0 [.ref 26, .int a1] 60 mSH σ Q := by
  refine mCall_of rfl (by decide) (Nat.le_of_ble_eq_true rfl) (mOkC (mOk_lo (Nat.le_of_ble_eq_true rfl)) (mOkC mOk_i mOkN)) ?_
  show mK Γ M_X9_byteAt (d + 2) Q 60 0 0 0 [(0, .ref 26), (1, .int a1)] [] 60 mSH σ
  refine mK_aload_n dX9_byteAt_0 rfl rfl (.head _) ?_
  refine mK_iconst dX9_byteAt_1 rfl qic_0 ?_
  refine ru_putI (k := 0) (ci := 8) dX9_byteAt_2 rfl rfl rfl kw_1127 ?_
  refine mK_iload_n dX9_byteAt_5 rfl rfl (.tail _ (.head _)) ?_
  refine mK_iconst dX9_byteAt_6 rfl qic_0 ?_
  refine mK_aload_n dX9_byteAt_7 rfl rfl (.head _) ?_
  refine ru_getI (k := 4) (ci := 8) dX9_byteAt_8 rfl rfl kw_1131 ?_
  refine mK_iconst dX9_byteAt_11 rfl qic_1 ?_
  refine mK_isub dX9_byteAt_12 rfl ?_
  refine mK_invS (J := M_X9_isIn) (k := 3) (as := [.int a1, .int 0, .int ((σ.1 26 4) - 1)]) (st := []) (c1 := 0) (s1 := 0) dX9_byteAt_13 rfl jw_X9_isIn jn_X9_isIn rfl (Nat.le_of_ble_eq_true rfl) (Nat.zero_le _) (Nat.zero_le _) rfl kw_1216 kw_1217 ?_
  refine S_X9_isIn a1 0 ((σ.1 26 4) - 1) ?_
  show mK Γ M_X9_byteAt (d + 2) Q 60 0 0 16 [(0, .ref 26), (1, .int a1)] [.int (f_X9_isIn (mPI σ 26 0 0) a1 0 ((σ.1 26 4) - 1))] 60 mSH (mPI σ 26 0 0)
  refine mK_if_eq (tgt := 28) dX9_byteAt_16 rfl (by decide) (fun c1 => ?_) (fun c1 => ?_)
  · refine mK_aload_n dX9_byteAt_28 rfl rfl (.head _) ?_
    refine mK_iconst dX9_byteAt_29 rfl qic_1 ?_
    refine mK_invV (J := M_X9_no) (k := 1) (as := [.int 1]) (st := []) (c1 := 0) (s1 := 0) dX9_byteAt_30 rfl jw_X9_no jn_X9_no rfl (Nat.le_of_ble_eq_true rfl) (Nat.zero_le _) (Nat.zero_le _) rfl kw_1208 kw_1210 kw_38 (b := 26) (Nat.le_of_ble_eq_true rfl) (Nat.le_of_ble_eq_true rfl) rfl ?_
    refine S_X9_no_26 1 ?_
    show mK Γ M_X9_byteAt (d + 2) Q 60 0 0 33 [(0, .ref 26), (1, .int a1)] [.int (h_X9_no_26 (mPI σ 26 0 0) 1).1] 60 mSH (h_X9_no_26 (mPI σ 26 0 0) 1).2
    exact mK_iret dX9_byteAt_33 rfl (by rw [(show (h_X9_byteAt_26 σ a1) = ((h_X9_no_26 (mPI σ 26 0 0) 1).1, (h_X9_no_26 (mPI σ 26 0 0) 1).2) from by unfold h_X9_byteAt_26; exact ((if_pos c1).trans rfl))] at hQ; exact hQ)
  · refine mK_aload_n dX9_byteAt_19 rfl rfl (.head _) ?_
    refine ru_getR (k := 5) (ci := 8) (a := 28) dX9_byteAt_20 rfl rfl rfl kw_1132 ?_
    refine mK_iload_n dX9_byteAt_23 rfl rfl (.tail _ (.head _)) ?_
    refine ru_iald (n := 1280) dX9_byteAt_24 rfl rfl (hs1 c1) ?_
    refine mK_goto (tgt := 33) dX9_byteAt_25 (by decide) ?_
    exact mK_iret dX9_byteAt_33 rfl (by rw [(show (h_X9_byteAt_26 σ a1) = ((σ.1 28 (a1).toNatClampNeg), (mPI σ 26 0 0)) from by unfold h_X9_byteAt_26; exact ((if_neg c1).trans rfl))] at hQ; exact hQ)
def f_X9_isItem_26 (σ : mS) (a1 : Int32) : Int32 := (f_X9_isIn σ a1 0 ((σ.1 32 3) - 1))
set_option maxRecDepth 20000 in
theorem S_X9_isItem_26 {Γ : Nat × (Nat → Int32)} {d : Nat} {Q : mQ} {σ : mS} (a1 : Int32) (hs1 : (f_X9_isIn σ a1 0 ((σ.1 32 3) - 1)) = 0 ∨ (f_X9_isIn σ a1 0 ((σ.1 32 3) - 1)) = 1) (hQ : Q (.inl (some (.int (f_X9_isItem_26 σ a1)))) 60 mSH σ) : mCall Γ M_X9_isItem (d + 2) 0 0 [.ref 26, .int a1] 60 mSH σ Q := by
  refine mCall_of rfl (by decide) (Nat.le_of_ble_eq_true rfl) (mOkC (mOk_lo (Nat.le_of_ble_eq_true rfl)) (mOkC mOk_i mOkN)) ?_
  show mK Γ M_X9_isItem (d + 2) Q 60 0 0 0 [(0, .ref 26), (1, .int a1)] [] 60 mSH σ
  refine mK_iload_n dX9_isItem_0 rfl rfl (.tail _ (.head _)) ?_
  refine mK_iconst dX9_isItem_1 rfl qic_0 ?_
  refine mK_aload_n dX9_isItem_2 rfl rfl (.head _) ?_
  refine ru_getR (k := 11) (ci := 8) (a := 32) dX9_isItem_3 rfl rfl rfl kw_1138 ?_
  refine ru_getIN (k := 3) (ci := 7) dX9_isItem_6 rfl rfl kn_1086 ?_
  refine mK_iconst dX9_isItem_9 rfl qic_1 ?_
  refine mK_isub dX9_isItem_10 rfl ?_
  refine mK_invS (J := M_X9_isIn) (k := 3) (as := [.int a1, .int 0, .int ((σ.1 32 3) - 1)]) (st := []) (c1 := 0) (s1 := 0) dX9_isItem_11 rfl jw_X9_isIn jn_X9_isIn rfl (Nat.le_of_ble_eq_true rfl) (Nat.zero_le _) (Nat.zero_le _) rfl kw_1216 kw_1217 ?_
  refine S_X9_isIn a1 0 ((σ.1 32 3) - 1) ?_
  show mK Γ M_X9_isItem (d + 2) Q 60 0 0 14 [(0, .ref 26), (1, .int a1)] [.int (f_X9_isIn σ a1 0 ((σ.1 32 3) - 1))] 60 mSH σ
  exact mK_zret dX9_isItem_14 rfl hs1 (by rw [(show (f_X9_isItem_26 σ a1) = (f_X9_isIn σ a1 0 ((σ.1 32 3) - 1)) from rfl)] at hQ; exact hQ)
def h_X9_defends_26 (σ : mS) (a1 : Int32) (a2 : Int32) : Int32 × mS := if (f_X9_isItem_26 (mPI σ 26 0 0) a1) = 0 then (if (h_X9_no_26 (mPI σ 26 0 0) 1).1 = 0 then (0, (h_X9_no_26 (mPI σ 26 0 0) 1).2) else (1, (h_X9_no_26 (mPI σ 26 0 0) 1).2)) else (if (f_X9_isItem_26 (mPI σ 26 0 0) a2) = 0 then (if (h_X9_no_26 (mPI σ 26 0 0) 1).1 = 0 then (0, (h_X9_no_26 (mPI σ 26 0 0) 1).2) else (1, (h_X9_no_26 (mPI σ 26 0 0) 1).2)) else (if (f_X8_isStrong_32 (mPI σ 26 0 0) a1) = 0 then (0, (mPI σ 26 0 0)) else (if (σ.1 52 (a1).toNatClampNeg) = 1 then (if (f_X8_isStrong_32 (mPI σ 26 0 0) (σ.1 40 (a1).toNatClampNeg)) = 0 then (0, (mPI σ 26 0 0)) else (if (σ.1 40 (σ.1 40 (a1).toNatClampNeg).toNatClampNeg) = a2 then (1, (mPI σ 26 0 0)) else (0, (mPI σ 26 0 0)))) else (0, (mPI σ 26 0 0)))))
set_option maxRecDepth 20000 in
theorem S_X9_defends_26 {Γ : Nat × (Nat → Int32)} {d : Nat} {Q : mQ} {σ : mS} (a1 : Int32) (a2 : Int32) (hs1 : (f_X9_isIn (mPI σ 26 0 0) a1 0 (((mPI σ 26 0 0).1 32 3) - 1)) = 0 ∨ (f_X9_isIn (mPI σ 26 0 0) a1 0 (((mPI σ 26 0 0).1 32 3) - 1)) = 1) (hs2 : ¬ ((f_X9_isItem_26 (mPI σ 26 0 0) a1) = 0) → (f_X9_isIn (mPI σ 26 0 0) a2 0 (((mPI σ 26 0 0).1 32 3) - 1)) = 0 ∨ (f_X9_isIn (mPI σ 26 0 0) a2 0 (((mPI σ 26 0 0).1 32 3) - 1)) = 1) (hs3 : ¬ ((f_X9_isItem_26 (mPI σ 26 0 0) a1) = 0) → ¬ ((f_X9_isItem_26 (mPI σ 26 0 0) a2) = 0) → vp_in a1 40) (hs4 : ¬ ((f_X9_isItem_26 (mPI σ 26 0 0) a1) = 0) → ¬ ((f_X9_isItem_26 (mPI σ 26 0 0) a2) = 0) → (((mPI σ 26 0 0).1 36 (a1).toNatClampNeg) = 1) → vp_in ((mPI σ 26 0 0).1 40 (a1).toNatClampNeg) 40) (hs5 : ¬ ((f_X9_isItem_26 (mPI σ 26 0 0) a1) = 0) → ¬ ((f_X9_isItem_26 (mPI σ 26 0 0) a2) = 0) → ¬ ((f_X8_isStrong_32 (mPI σ 26 0 0) a1) = 0) → ((σ.1 52 (a1).toNatClampNeg) = 1) → vp_in (σ.1 40 (a1).toNatClampNeg) 40) (hs6 : ¬ ((f_X9_isItem_26 (mPI σ 26 0 0) a1) = 0) → ¬ ((f_X9_isItem_26 (mPI σ 26 0 0) a2) = 0) → ¬ ((f_X8_isStrong_32 (mPI σ 26 0 0) a1) = 0) → ((σ.1 52 (a1).toNatClampNeg) = 1) → (((mPI σ 26 0 0).1 36 ((σ.1 40 (a1).toNatClampNeg)).toNatClampNeg) = 1) → vp_in ((mPI σ 26 0 0).1 40 ((σ.1 40 (a1).toNatClampNeg)).toNatClampNeg) 40) (hQ : Q (.inl (some (.int (h_X9_defends_26 σ a1 a2).1))) 60 mSH (h_X9_defends_26 σ a1 a2).2) : mCall Γ M_X9_defends (d + 3) 0 0 [.ref 26, .int a1, .int a2] 60 mSH σ Q := by
  refine mCall_of rfl (by decide) (Nat.le_of_ble_eq_true rfl) (mOkC (mOk_lo (Nat.le_of_ble_eq_true rfl)) (mOkC mOk_i (mOkC mOk_i mOkN))) ?_
  show mK Γ M_X9_defends (d + 3) Q 60 0 0 0 [(0, .ref 26), (1, .int a1), (2, .int a2)] [] 60 mSH σ
  refine mK_aload_n dX9_defends_0 rfl rfl (.head _) ?_
  refine mK_iconst dX9_defends_1 rfl qic_0 ?_
  refine ru_putI (k := 0) (ci := 8) dX9_defends_2 rfl rfl rfl kw_1127 ?_
  refine mK_aload_n dX9_defends_5 rfl rfl (.head _) ?_
  refine mK_iload_n dX9_defends_6 rfl rfl (.tail _ (.head _)) ?_
  refine mK_invV (J := M_X9_isItem) (k := 1) (as := [.int a1]) (st := []) (c1 := 0) (s1 := 0) dX9_defends_7 rfl jw_X9_isItem jn_X9_isItem rfl (Nat.le_of_ble_eq_true rfl) (Nat.zero_le _) (Nat.zero_le _) rfl kw_1495 kw_1497 kw_75 (b := 26) (Nat.le_of_ble_eq_true rfl) (Nat.le_of_ble_eq_true rfl) rfl ?_
  refine S_X9_isItem_26 a1 hs1 ?_
  show mK Γ M_X9_defends (d + 3) Q 60 0 0 10 [(0, .ref 26), (1, .int a1), (2, .int a2)] [.int (f_X9_isItem_26 (mPI σ 26 0 0) a1)] 60 mSH (mPI σ 26 0 0)
  refine mK_if_eq (tgt := 21) dX9_defends_10 rfl (by decide) (fun c1 => ?_) (fun c1 => ?_)
  · refine mK_aload_n dX9_defends_21 rfl rfl (.head _) ?_
    refine mK_iconst dX9_defends_22 rfl qic_1 ?_
    refine mK_invV (J := M_X9_no) (k := 1) (as := [.int 1]) (st := []) (c1 := 0) (s1 := 0) dX9_defends_23 rfl jw_X9_no jn_X9_no rfl (Nat.le_of_ble_eq_true rfl) (Nat.zero_le _) (Nat.zero_le _) rfl kw_1208 kw_1210 kw_38 (b := 26) (Nat.le_of_ble_eq_true rfl) (Nat.le_of_ble_eq_true rfl) rfl ?_
    refine S_X9_no_26 1 ?_
    show mK Γ M_X9_defends (d + 3) Q 60 0 0 26 [(0, .ref 26), (1, .int a1), (2, .int a2)] [.int (h_X9_no_26 (mPI σ 26 0 0) 1).1] 60 mSH (h_X9_no_26 (mPI σ 26 0 0) 1).2
    refine mK_if_eq (tgt := 33) dX9_defends_26 rfl (by decide) (fun c2 => ?_) (fun c2 => ?_)
    · refine mK_iconst dX9_defends_33 rfl qic_0 ?_
      exact mK_zret dX9_defends_34 rfl (by decide) (by rw [(show (h_X9_defends_26 σ a1 a2) = (0, (h_X9_no_26 (mPI σ 26 0 0) 1).2) from by unfold h_X9_defends_26; exact ((if_pos c1).trans ((if_pos c2).trans rfl)))] at hQ; exact hQ)
    · refine mK_iconst dX9_defends_29 rfl qic_1 ?_
      refine mK_goto (tgt := 34) dX9_defends_30 (by decide) ?_
      exact mK_zret dX9_defends_34 rfl (by decide) (by rw [(show (h_X9_defends_26 σ a1 a2) = (1, (h_X9_no_26 (mPI σ 26 0 0) 1).2) from by unfold h_X9_defends_26; exact ((if_pos c1).trans ((if_neg c2).trans rfl)))] at hQ; exact hQ)
  · refine mK_aload_n dX9_defends_13 rfl rfl (.head _) ?_
    refine mK_iload_n dX9_defends_14 rfl rfl (.tail _ (.tail _ (.head _))) ?_
    refine mK_invV (J := M_X9_isItem) (k := 1) (as := [.int a2]) (st := []) (c1 := 0) (s1 := 0) dX9_defends_15 rfl jw_X9_isItem jn_X9_isItem rfl (Nat.le_of_ble_eq_true rfl) (Nat.zero_le _) (Nat.zero_le _) rfl kw_1495 kw_1497 kw_75 (b := 26) (Nat.le_of_ble_eq_true rfl) (Nat.le_of_ble_eq_true rfl) rfl ?_
    refine S_X9_isItem_26 a2 (hs2 c1) ?_
    show mK Γ M_X9_defends (d + 3) Q 60 0 0 18 [(0, .ref 26), (1, .int a1), (2, .int a2)] [.int (f_X9_isItem_26 (mPI σ 26 0 0) a2)] 60 mSH (mPI σ 26 0 0)
    refine ru_if_ne (tgt := 35) dX9_defends_18 rfl (by decide) (fun c3 => ?_) (fun c3 => ?_)
    · refine mK_aload_n dX9_defends_35 rfl rfl (.head _) ?_
      refine ru_getR (k := 11) (ci := 8) (a := 32) dX9_defends_36 rfl rfl rfl kw_1138 ?_
      refine mK_iload_n dX9_defends_39 rfl rfl (.tail _ (.head _)) ?_
      refine mK_invV (J := M_X8_isStrong) (k := 1) (as := [.int a1]) (st := []) (c1 := 0) (s1 := 0) dX9_defends_40 rfl jw_X8_isStrong jn_X8_isStrong rfl (Nat.le_of_ble_eq_true rfl) (Nat.zero_le _) (Nat.zero_le _) rfl kw_1429 kw_1430 kw_1431 (b := 32) (Nat.le_of_ble_eq_true rfl) (Nat.le_of_ble_eq_true rfl) rfl ?_
      refine S_X8_isStrong_32 a1 (hs3 c1 c3) (hs4 c1 c3) ?_
      show mK Γ M_X9_defends (d + 3) Q 60 0 0 43 [(0, .ref 26), (1, .int a1), (2, .int a2)] [.int (f_X8_isStrong_32 (mPI σ 26 0 0) a1)] 60 mSH (mPI σ 26 0 0)
      refine mK_if_eq (tgt := 56) dX9_defends_43 rfl (by decide) (fun c4 => ?_) (fun c4 => ?_)
      · refine mK_iconst dX9_defends_56 rfl qic_0 ?_
        exact mK_zret dX9_defends_57 rfl (by decide) (by rw [(show (h_X9_defends_26 σ a1 a2) = (0, (mPI σ 26 0 0)) from by unfold h_X9_defends_26; exact ((if_neg c1).trans ((if_neg c3).trans ((if_pos c4).trans rfl))))] at hQ; exact hQ)
      · refine mK_aload_n dX9_defends_46 rfl rfl (.head _) ?_
        refine ru_getR (k := 13) (ci := 8) (a := 52) dX9_defends_47 rfl rfl rfl kw_1140 ?_
        refine mK_iload_n dX9_defends_50 rfl rfl (.tail _ (.head _)) ?_
        refine ru_iald (n := 40) dX9_defends_51 rfl rfl (hs3 c1 c3) ?_
        refine mK_iconst dX9_defends_52 rfl qic_1 ?_
        refine mK_icmp_eq (tgt := 58) dX9_defends_53 rfl (by decide) (fun c5 => ?_) (fun c5 => ?_)
        · refine mK_aload_n dX9_defends_58 rfl rfl (.head _) ?_
          refine ru_getR (k := 11) (ci := 8) (a := 32) dX9_defends_59 rfl rfl rfl kw_1138 ?_
          refine ru_getRN (k := 9) (ci := 7) (a := 40) dX9_defends_62 rfl rfl rfl kn_1098 ?_
          refine mK_iload_n dX9_defends_65 rfl rfl (.tail _ (.head _)) ?_
          refine ru_iald (n := 40) dX9_defends_66 rfl rfl (hs3 c1 c3) ?_
          refine ru_istore_n (lv1 := [(0, .ref 26), (1, .int a1), (2, .int a2), (3, .int (σ.1 40 (a1).toNatClampNeg))]) dX9_defends_67 rfl rfl (by decide) rfl ?_
          refine mK_aload_n dX9_defends_68 rfl rfl (.head _) ?_
          refine ru_getR (k := 11) (ci := 8) (a := 32) dX9_defends_69 rfl rfl rfl kw_1138 ?_
          refine mK_iload_n dX9_defends_72 rfl rfl (.tail _ (.tail _ (.tail _ (.head _)))) ?_
          refine mK_invV (J := M_X8_isStrong) (k := 1) (as := [.int (σ.1 40 (a1).toNatClampNeg)]) (st := []) (c1 := 0) (s1 := 0) dX9_defends_73 rfl jw_X8_isStrong jn_X8_isStrong rfl (Nat.le_of_ble_eq_true rfl) (Nat.zero_le _) (Nat.zero_le _) rfl kw_1429 kw_1430 kw_1431 (b := 32) (Nat.le_of_ble_eq_true rfl) (Nat.le_of_ble_eq_true rfl) rfl ?_
          refine S_X8_isStrong_32 (σ.1 40 (a1).toNatClampNeg) (hs5 c1 c3 c4 c5) (hs6 c1 c3 c4 c5) ?_
          show mK Γ M_X9_defends (d + 3) Q 60 0 0 76 [(0, .ref 26), (1, .int a1), (2, .int a2), (3, .int (σ.1 40 (a1).toNatClampNeg))] [.int (f_X8_isStrong_32 (mPI σ 26 0 0) (σ.1 40 (a1).toNatClampNeg))] 60 mSH (mPI σ 26 0 0)
          refine mK_if_eq (tgt := 96) dX9_defends_76 rfl (by decide) (fun c6 => ?_) (fun c6 => ?_)
          · refine mK_iconst dX9_defends_96 rfl qic_0 ?_
            exact mK_zret dX9_defends_97 rfl (by decide) (by rw [(show (h_X9_defends_26 σ a1 a2) = (0, (mPI σ 26 0 0)) from by unfold h_X9_defends_26; exact ((if_neg c1).trans ((if_neg c3).trans ((if_neg c4).trans ((if_pos c5).trans ((if_pos c6).trans rfl))))))] at hQ; exact hQ)
          · refine mK_aload_n dX9_defends_79 rfl rfl (.head _) ?_
            refine ru_getR (k := 11) (ci := 8) (a := 32) dX9_defends_80 rfl rfl rfl kw_1138 ?_
            refine ru_getRN (k := 9) (ci := 7) (a := 40) dX9_defends_83 rfl rfl rfl kn_1098 ?_
            refine mK_iload_n dX9_defends_86 rfl rfl (.tail _ (.tail _ (.tail _ (.head _)))) ?_
            refine ru_iald (n := 40) dX9_defends_87 rfl rfl (hs5 c1 c3 c4 c5) ?_
            refine mK_iload_n dX9_defends_88 rfl rfl (.tail _ (.tail _ (.head _))) ?_
            refine ru_icmp_ne (tgt := 96) dX9_defends_89 rfl (by decide) (fun c7 => ?_) (fun c7 => ?_)
            · refine mK_iconst dX9_defends_96 rfl qic_0 ?_
              exact mK_zret dX9_defends_97 rfl (by decide) (by rw [(show (h_X9_defends_26 σ a1 a2) = (0, (mPI σ 26 0 0)) from by unfold h_X9_defends_26; exact ((if_neg c1).trans ((if_neg c3).trans ((if_neg c4).trans ((if_pos c5).trans ((if_neg c6).trans ((if_neg c7).trans rfl)))))))] at hQ; exact hQ)
            · refine mK_iconst dX9_defends_92 rfl qic_1 ?_
              refine mK_goto (tgt := 97) dX9_defends_93 (by decide) ?_
              exact mK_zret dX9_defends_97 rfl (by decide) (by rw [(show (h_X9_defends_26 σ a1 a2) = (1, (mPI σ 26 0 0)) from by unfold h_X9_defends_26; exact ((if_neg c1).trans ((if_neg c3).trans ((if_neg c4).trans ((if_pos c5).trans ((if_neg c6).trans ((if_pos c7).trans rfl)))))))] at hQ; exact hQ)
        · refine mK_iconst dX9_defends_56 rfl qic_0 ?_
          exact mK_zret dX9_defends_57 rfl (by decide) (by rw [(show (h_X9_defends_26 σ a1 a2) = (0, (mPI σ 26 0 0)) from by unfold h_X9_defends_26; exact ((if_neg c1).trans ((if_neg c3).trans ((if_neg c4).trans ((if_neg c5).trans rfl)))))] at hQ; exact hQ)
    · refine mK_aload_n dX9_defends_21 rfl rfl (.head _) ?_
      refine mK_iconst dX9_defends_22 rfl qic_1 ?_
      refine mK_invV (J := M_X9_no) (k := 1) (as := [.int 1]) (st := []) (c1 := 0) (s1 := 0) dX9_defends_23 rfl jw_X9_no jn_X9_no rfl (Nat.le_of_ble_eq_true rfl) (Nat.zero_le _) (Nat.zero_le _) rfl kw_1208 kw_1210 kw_38 (b := 26) (Nat.le_of_ble_eq_true rfl) (Nat.le_of_ble_eq_true rfl) rfl ?_
      refine S_X9_no_26 1 ?_
      show mK Γ M_X9_defends (d + 3) Q 60 0 0 26 [(0, .ref 26), (1, .int a1), (2, .int a2)] [.int (h_X9_no_26 (mPI σ 26 0 0) 1).1] 60 mSH (h_X9_no_26 (mPI σ 26 0 0) 1).2
      refine mK_if_eq (tgt := 33) dX9_defends_26 rfl (by decide) (fun c8 => ?_) (fun c8 => ?_)
      · refine mK_iconst dX9_defends_33 rfl qic_0 ?_
        exact mK_zret dX9_defends_34 rfl (by decide) (by rw [(show (h_X9_defends_26 σ a1 a2) = (0, (h_X9_no_26 (mPI σ 26 0 0) 1).2) from by unfold h_X9_defends_26; exact ((if_neg c1).trans ((if_pos c3).trans ((if_pos c8).trans rfl))))] at hQ; exact hQ)
      · refine mK_iconst dX9_defends_29 rfl qic_1 ?_
        refine mK_goto (tgt := 34) dX9_defends_30 (by decide) ?_
        exact mK_zret dX9_defends_34 rfl (by decide) (by rw [(show (h_X9_defends_26 σ a1 a2) = (1, (h_X9_no_26 (mPI σ 26 0 0) 1).2) from by unfold h_X9_defends_26; exact ((if_neg c1).trans ((if_pos c3).trans ((if_neg c8).trans rfl))))] at hQ; exact hQ)
def h_X9_errorAt_26 (σ : mS) : Int32 × mS := ((σ.1 26 1), (mPI σ 26 0 0))
set_option maxRecDepth 20000 in
theorem S_X9_errorAt_26 {Γ : Nat × (Nat → Int32)} {d : Nat} {Q : mQ} {σ : mS} (hQ : Q (.inl (some (.int (h_X9_errorAt_26 σ).1))) 60 mSH (h_X9_errorAt_26 σ).2) : mCall Γ M_X9_errorAt (d + 1) 0 0 [.ref 26] 60 mSH σ Q := by
  refine mCall_of rfl (by decide) (Nat.le_of_ble_eq_true rfl) (mOkC (mOk_lo (Nat.le_of_ble_eq_true rfl)) mOkN) ?_
  show mK Γ M_X9_errorAt (d + 1) Q 60 0 0 0 [(0, .ref 26)] [] 60 mSH σ
  refine mK_aload_n dX9_errorAt_0 rfl rfl (.head _) ?_
  refine mK_iconst dX9_errorAt_1 rfl qic_0 ?_
  refine ru_putI (k := 0) (ci := 8) dX9_errorAt_2 rfl rfl rfl kw_1127 ?_
  refine mK_aload_n dX9_errorAt_5 rfl rfl (.head _) ?_
  refine ru_getI (k := 1) (ci := 8) dX9_errorAt_6 rfl rfl kw_1128 ?_
  exact mK_iret dX9_errorAt_9 rfl (by rw [(show (h_X9_errorAt_26 σ) = ((σ.1 26 1), (mPI σ 26 0 0)) from rfl)] at hQ; exact hQ)
def h_X9_give_26 (σ : mS) (a1 : Int32) (a2 : Int32) : Int32 × mS := if (f_X9_isSpeaker_26 (mPI σ 26 0 0) a1) = 0 then ((h_X9_no_26 (mPI σ 26 0 0) 1).1, (h_X9_no_26 (mPI σ 26 0 0) 1).2) else (if (f_X9_isIn (mPI σ 26 0 0) a2 1 3600) = 0 then ((h_X9_no_26 (mPI σ 26 0 0) 2).1, (h_X9_no_26 (mPI σ 26 0 0) 2).2) else (((mPI (mPI σ 26 0 0) 34 (a1).toNatClampNeg ((σ.1 34 (a1).toNatClampNeg) + a2)).1 34 (a1).toNatClampNeg), (mPI (mPI σ 26 0 0) 34 (a1).toNatClampNeg ((σ.1 34 (a1).toNatClampNeg) + a2))))
set_option maxRecDepth 20000 in
theorem S_X9_give_26 {Γ : Nat × (Nat → Int32)} {d : Nat} {Q : mQ} {σ : mS} (a1 : Int32) (a2 : Int32) (hs1 : (f_X9_isIn (mPI σ 26 0 0) a1 0 (((mPI σ 26 0 0).1 32 0) - 1)) = 0 ∨ (f_X9_isIn (mPI σ 26 0 0) a1 0 (((mPI σ 26 0 0).1 32 0) - 1)) = 1) (hs2 : ¬ ((f_X9_isSpeaker_26 (mPI σ 26 0 0) a1) = 0) → ¬ ((f_X9_isIn (mPI σ 26 0 0) a2 1 3600) = 0) → vp_in a1 6) (hQ : Q (.inl (some (.int (h_X9_give_26 σ a1 a2).1))) 60 mSH (h_X9_give_26 σ a1 a2).2) : mCall Γ M_X9_give (d + 3) 0 0 [.ref 26, .int a1, .int a2] 60 mSH σ Q := by
  refine mCall_of rfl (by decide) (Nat.le_of_ble_eq_true rfl) (mOkC (mOk_lo (Nat.le_of_ble_eq_true rfl)) (mOkC mOk_i (mOkC mOk_i mOkN))) ?_
  show mK Γ M_X9_give (d + 3) Q 60 0 0 0 [(0, .ref 26), (1, .int a1), (2, .int a2)] [] 60 mSH σ
  refine mK_aload_n dX9_give_0 rfl rfl (.head _) ?_
  refine mK_iconst dX9_give_1 rfl qic_0 ?_
  refine ru_putI (k := 0) (ci := 8) dX9_give_2 rfl rfl rfl kw_1127 ?_
  refine mK_aload_n dX9_give_5 rfl rfl (.head _) ?_
  refine mK_iload_n dX9_give_6 rfl rfl (.tail _ (.head _)) ?_
  refine mK_invV (J := M_X9_isSpeaker) (k := 1) (as := [.int a1]) (st := []) (c1 := 0) (s1 := 0) dX9_give_7 rfl jw_X9_isSpeaker jn_X9_isSpeaker rfl (Nat.le_of_ble_eq_true rfl) (Nat.zero_le _) (Nat.zero_le _) rfl kw_1473 kw_1475 kw_71 (b := 26) (Nat.le_of_ble_eq_true rfl) (Nat.le_of_ble_eq_true rfl) rfl ?_
  refine S_X9_isSpeaker_26 a1 hs1 ?_
  show mK Γ M_X9_give (d + 3) Q 60 0 0 10 [(0, .ref 26), (1, .int a1), (2, .int a2)] [.int (f_X9_isSpeaker_26 (mPI σ 26 0 0) a1)] 60 mSH (mPI σ 26 0 0)
  refine ru_if_ne (tgt := 19) dX9_give_10 rfl (by decide) (fun c1 => ?_) (fun c1 => ?_)
  · refine mK_iload_n dX9_give_19 rfl rfl (.tail _ (.tail _ (.head _))) ?_
    refine mK_iconst dX9_give_20 rfl qic_1 ?_
    refine mK_sipush dX9_give_21 rfl qsi_3600 ?_
    refine mK_invS (J := M_X9_isIn) (k := 3) (as := [.int a2, .int 1, .int 3600]) (st := []) (c1 := 0) (s1 := 0) dX9_give_24 rfl jw_X9_isIn jn_X9_isIn rfl (Nat.le_of_ble_eq_true rfl) (Nat.zero_le _) (Nat.zero_le _) rfl kw_1216 kw_1217 ?_
    refine S_X9_isIn a2 1 3600 ?_
    show mK Γ M_X9_give (d + 3) Q 60 0 0 27 [(0, .ref 26), (1, .int a1), (2, .int a2)] [.int (f_X9_isIn (mPI σ 26 0 0) a2 1 3600)] 60 mSH (mPI σ 26 0 0)
    refine ru_if_ne (tgt := 36) dX9_give_27 rfl (by decide) (fun c2 => ?_) (fun c2 => ?_)
    · refine mK_aload_n dX9_give_36 rfl rfl (.head _) ?_
      refine ru_getR (k := 11) (ci := 8) (a := 32) dX9_give_37 rfl rfl rfl kw_1138 ?_
      refine ru_getRN (k := 2) (ci := 7) (a := 34) dX9_give_40 rfl rfl rfl kn_1084 ?_
      refine mK_iload_n dX9_give_43 rfl rfl (.tail _ (.head _)) ?_
      refine mK_dup2 dX9_give_44 rfl rfl rfl ?_
      refine ru_iald (n := 6) dX9_give_45 rfl rfl (hs2 c1 c2) ?_
      refine mK_iload_n dX9_give_46 rfl rfl (.tail _ (.tail _ (.head _))) ?_
      refine mK_iadd dX9_give_47 rfl ?_
      refine ru_iast (n := 6) dX9_give_48 rfl rfl (hs2 c1 c2) ?_
      refine mK_aload_n dX9_give_49 rfl rfl (.head _) ?_
      refine ru_getR (k := 11) (ci := 8) (a := 32) dX9_give_50 rfl rfl rfl kw_1138 ?_
      refine ru_getRN (k := 2) (ci := 7) (a := 34) dX9_give_53 rfl rfl rfl kn_1084 ?_
      refine mK_iload_n dX9_give_56 rfl rfl (.tail _ (.head _)) ?_
      refine ru_iald (n := 6) dX9_give_57 rfl rfl (hs2 c1 c2) ?_
      exact mK_iret dX9_give_58 rfl (by rw [(show (h_X9_give_26 σ a1 a2) = (((mPI (mPI σ 26 0 0) 34 (a1).toNatClampNeg ((σ.1 34 (a1).toNatClampNeg) + a2)).1 34 (a1).toNatClampNeg), (mPI (mPI σ 26 0 0) 34 (a1).toNatClampNeg ((σ.1 34 (a1).toNatClampNeg) + a2))) from by unfold h_X9_give_26; exact ((if_neg c1).trans ((if_neg c2).trans rfl)))] at hQ; exact hQ)
    · refine mK_aload_n dX9_give_30 rfl rfl (.head _) ?_
      refine mK_iconst dX9_give_31 rfl qic_2 ?_
      refine mK_invV (J := M_X9_no) (k := 1) (as := [.int 2]) (st := []) (c1 := 0) (s1 := 0) dX9_give_32 rfl jw_X9_no jn_X9_no rfl (Nat.le_of_ble_eq_true rfl) (Nat.zero_le _) (Nat.zero_le _) rfl kw_1208 kw_1210 kw_38 (b := 26) (Nat.le_of_ble_eq_true rfl) (Nat.le_of_ble_eq_true rfl) rfl ?_
      refine S_X9_no_26 2 ?_
      show mK Γ M_X9_give (d + 3) Q 60 0 0 35 [(0, .ref 26), (1, .int a1), (2, .int a2)] [.int (h_X9_no_26 (mPI σ 26 0 0) 2).1] 60 mSH (h_X9_no_26 (mPI σ 26 0 0) 2).2
      exact mK_iret dX9_give_35 rfl (by rw [(show (h_X9_give_26 σ a1 a2) = ((h_X9_no_26 (mPI σ 26 0 0) 2).1, (h_X9_no_26 (mPI σ 26 0 0) 2).2) from by unfold h_X9_give_26; exact ((if_neg c1).trans ((if_pos c2).trans rfl)))] at hQ; exact hQ)
  · refine mK_aload_n dX9_give_13 rfl rfl (.head _) ?_
    refine mK_iconst dX9_give_14 rfl qic_1 ?_
    refine mK_invV (J := M_X9_no) (k := 1) (as := [.int 1]) (st := []) (c1 := 0) (s1 := 0) dX9_give_15 rfl jw_X9_no jn_X9_no rfl (Nat.le_of_ble_eq_true rfl) (Nat.zero_le _) (Nat.zero_le _) rfl kw_1208 kw_1210 kw_38 (b := 26) (Nat.le_of_ble_eq_true rfl) (Nat.le_of_ble_eq_true rfl) rfl ?_
    refine S_X9_no_26 1 ?_
    show mK Γ M_X9_give (d + 3) Q 60 0 0 18 [(0, .ref 26), (1, .int a1), (2, .int a2)] [.int (h_X9_no_26 (mPI σ 26 0 0) 1).1] 60 mSH (h_X9_no_26 (mPI σ 26 0 0) 1).2
    exact mK_iret dX9_give_18 rfl (by rw [(show (h_X9_give_26 σ a1 a2) = ((h_X9_no_26 (mPI σ 26 0 0) 1).1, (h_X9_no_26 (mPI σ 26 0 0) 1).2) from by unfold h_X9_give_26; exact ((if_pos c1).trans rfl))] at hQ; exact hQ)
def f_X9_isDigit (σ : mS) (a1 : Int32) : Int32 := if a1 < 48 then 0 else (if 57 < a1 then 0 else 1)
set_option maxRecDepth 20000 in
theorem S_X9_isDigit {Γ : Nat × (Nat → Int32)} {d : Nat} {Q : mQ} {σ : mS} (a1 : Int32) (hQ : Q (.inl (some (.int (f_X9_isDigit σ a1)))) 60 mSH σ) : mCall Γ M_X9_isDigit (d + 1) 0 0 [.int a1] 60 mSH σ Q := by
  refine mCall_of rfl (by decide) (Nat.le_of_ble_eq_true rfl) (mOkC mOk_i mOkN) ?_
  show mK Γ M_X9_isDigit (d + 1) Q 60 0 0 0 [(0, .int a1)] [] 60 mSH σ
  refine mK_iload_n dX9_isDigit_0 rfl rfl (.head _) ?_
  refine mK_bipush dX9_isDigit_1 rfl qbi_48 ?_
  refine mK_icmp_lt (tgt := 16) dX9_isDigit_3 rfl (by decide) (fun c1 => ?_) (fun c1 => ?_)
  · refine mK_iconst dX9_isDigit_16 rfl qic_0 ?_
    exact mK_zret dX9_isDigit_17 rfl (by decide) (by rw [(show (f_X9_isDigit σ a1) = 0 from by unfold f_X9_isDigit; exact ((if_pos c1).trans rfl))] at hQ; exact hQ)
  · refine mK_iload_n dX9_isDigit_6 rfl rfl (.head _) ?_
    refine mK_bipush dX9_isDigit_7 rfl qbi_57 ?_
    refine mK_icmp_gt (tgt := 16) dX9_isDigit_9 rfl (by decide) (fun c2 => ?_) (fun c2 => ?_)
    · refine mK_iconst dX9_isDigit_16 rfl qic_0 ?_
      exact mK_zret dX9_isDigit_17 rfl (by decide) (by rw [(show (f_X9_isDigit σ a1) = 0 from by unfold f_X9_isDigit; exact ((if_neg c1).trans ((if_pos c2).trans rfl)))] at hQ; exact hQ)
    · refine mK_iconst dX9_isDigit_12 rfl qic_1 ?_
      refine mK_goto (tgt := 17) dX9_isDigit_13 (by decide) ?_
      exact mK_zret dX9_isDigit_17 rfl (by decide) (by rw [(show (f_X9_isDigit σ a1) = 1 from by unfold f_X9_isDigit; exact ((if_neg c1).trans ((if_neg c2).trans rfl)))] at hQ; exact hQ)
def f_X9_isLetter (σ : mS) (a1 : Int32) : Int32 := if a1 < 97 then 0 else (if 122 < a1 then 0 else 1)
set_option maxRecDepth 20000 in
theorem S_X9_isLetter {Γ : Nat × (Nat → Int32)} {d : Nat} {Q : mQ} {σ : mS} (a1 : Int32) (hQ : Q (.inl (some (.int (f_X9_isLetter σ a1)))) 60 mSH σ) : mCall Γ M_X9_isLetter (d + 1) 0 0 [.int a1] 60 mSH σ Q := by
  refine mCall_of rfl (by decide) (Nat.le_of_ble_eq_true rfl) (mOkC mOk_i mOkN) ?_
  show mK Γ M_X9_isLetter (d + 1) Q 60 0 0 0 [(0, .int a1)] [] 60 mSH σ
  refine mK_iload_n dX9_isLetter_0 rfl rfl (.head _) ?_
  refine mK_bipush dX9_isLetter_1 rfl qbi_97 ?_
  refine mK_icmp_lt (tgt := 16) dX9_isLetter_3 rfl (by decide) (fun c1 => ?_) (fun c1 => ?_)
  · refine mK_iconst dX9_isLetter_16 rfl qic_0 ?_
    exact mK_zret dX9_isLetter_17 rfl (by decide) (by rw [(show (f_X9_isLetter σ a1) = 0 from by unfold f_X9_isLetter; exact ((if_pos c1).trans rfl))] at hQ; exact hQ)
  · refine mK_iload_n dX9_isLetter_6 rfl rfl (.head _) ?_
    refine mK_bipush dX9_isLetter_7 rfl qbi_122 ?_
    refine mK_icmp_gt (tgt := 16) dX9_isLetter_9 rfl (by decide) (fun c2 => ?_) (fun c2 => ?_)
    · refine mK_iconst dX9_isLetter_16 rfl qic_0 ?_
      exact mK_zret dX9_isLetter_17 rfl (by decide) (by rw [(show (f_X9_isLetter σ a1) = 0 from by unfold f_X9_isLetter; exact ((if_neg c1).trans ((if_pos c2).trans rfl)))] at hQ; exact hQ)
    · refine mK_iconst dX9_isLetter_12 rfl qic_1 ?_
      refine mK_goto (tgt := 17) dX9_isLetter_13 (by decide) ?_
      exact mK_zret dX9_isLetter_17 rfl (by decide) (by rw [(show (f_X9_isLetter σ a1) = 1 from by unfold f_X9_isLetter; exact ((if_neg c1).trans ((if_neg c2).trans rfl)))] at hQ; exact hQ)
def h_X9_number_26 (σ : mS) : Int32 × mS := if (σ.1 29 (σ.1 26 10).toNatClampNeg) = 3 then ((h_X9_past_26 σ 1).1, (h_X9_past_26 σ 1).2) else ((h_X9_past_26 σ 0).1, (h_X9_past_26 σ 0).2)
set_option maxRecDepth 20000 in
theorem S_X9_number_26 {Γ : Nat × (Nat → Int32)} {d : Nat} {Q : mQ} {σ : mS} (hs1 : vp_in (σ.1 26 10) 402) (hs2 : ¬ ((σ.1 29 (σ.1 26 10).toNatClampNeg) = 3) → (h_X9_past_26 σ 0).1 = 0 ∨ (h_X9_past_26 σ 0).1 = 1) (hs3 : ((σ.1 29 (σ.1 26 10).toNatClampNeg) = 3) → (h_X9_past_26 σ 1).1 = 0 ∨ (h_X9_past_26 σ 1).1 = 1) (hQ : Q (.inl (some (.int (h_X9_number_26 σ).1))) 60 mSH (h_X9_number_26 σ).2) : mCall Γ M_X9_number (d + 2) 0 0 [.ref 26] 60 mSH σ Q := by
  refine mCall_of rfl (by decide) (Nat.le_of_ble_eq_true rfl) (mOkC (mOk_lo (Nat.le_of_ble_eq_true rfl)) mOkN) ?_
  show mK Γ M_X9_number (d + 2) Q 60 0 0 0 [(0, .ref 26)] [] 60 mSH σ
  refine mK_aload_n dX9_number_0 rfl rfl (.head _) ?_
  refine mK_aload_n dX9_number_1 rfl rfl (.head _) ?_
  refine ru_getR (k := 7) (ci := 8) (a := 29) dX9_number_2 rfl rfl rfl kw_1134 ?_
  refine mK_aload_n dX9_number_5 rfl rfl (.head _) ?_
  refine ru_getI (k := 10) (ci := 8) dX9_number_6 rfl rfl kw_1137 ?_
  refine ru_iald (n := 402) dX9_number_9 rfl rfl hs1 ?_
  refine mK_iconst dX9_number_10 rfl qic_3 ?_
  refine ru_icmp_ne (tgt := 18) dX9_number_11 rfl (by decide) (fun c1 => ?_) (fun c1 => ?_)
  · refine mK_iconst dX9_number_18 rfl qic_0 ?_
    refine mK_invV (J := M_X9_past) (k := 1) (as := [.int 0]) (st := []) (c1 := 0) (s1 := 0) dX9_number_19 rfl jw_X9_past jn_X9_past rfl (Nat.le_of_ble_eq_true rfl) (Nat.zero_le _) (Nat.zero_le _) rfl kw_1310 kw_1312 kw_45 (b := 26) (Nat.le_of_ble_eq_true rfl) (Nat.le_of_ble_eq_true rfl) rfl ?_
    refine S_X9_past_26 0 (fun z0 => (by decide)) (fun z0 => absurd (by decide) z0) ?_
    show mK Γ M_X9_number (d + 2) Q 60 0 0 22 [(0, .ref 26)] [.int (h_X9_past_26 σ 0).1] 60 mSH (h_X9_past_26 σ 0).2
    exact mK_zret dX9_number_22 rfl (hs2 c1) (by rw [(show (h_X9_number_26 σ) = ((h_X9_past_26 σ 0).1, (h_X9_past_26 σ 0).2) from by unfold h_X9_number_26; exact ((if_neg c1).trans rfl))] at hQ; exact hQ)
  · refine mK_iconst dX9_number_14 rfl qic_1 ?_
    refine mK_goto (tgt := 19) dX9_number_15 (by decide) ?_
    refine mK_invV (J := M_X9_past) (k := 1) (as := [.int 1]) (st := []) (c1 := 0) (s1 := 0) dX9_number_19 rfl jw_X9_past jn_X9_past rfl (Nat.le_of_ble_eq_true rfl) (Nat.zero_le _) (Nat.zero_le _) rfl kw_1310 kw_1312 kw_45 (b := 26) (Nat.le_of_ble_eq_true rfl) (Nat.le_of_ble_eq_true rfl) rfl ?_
    refine S_X9_past_26 1 (fun z0 => absurd z0 (by decide)) (fun z0 => (by decide)) ?_
    show mK Γ M_X9_number (d + 2) Q 60 0 0 22 [(0, .ref 26)] [.int (h_X9_past_26 σ 1).1] 60 mSH (h_X9_past_26 σ 1).2
    exact mK_zret dX9_number_22 rfl (hs3 c1) (by rw [(show (h_X9_number_26 σ) = ((h_X9_past_26 σ 1).1, (h_X9_past_26 σ 1).2) from by unfold h_X9_number_26; exact ((if_pos c1).trans rfl))] at hQ; exact hQ)
def h_X9_least_26 (σ : mS) (a1 : Int32) : Int32 × mS := if (f_X9_isItem_26 (mPI σ 26 0 0) a1) = 0 then ((h_X9_no_26 (mPI σ 26 0 0) 1).1, (h_X9_no_26 (mPI σ 26 0 0) 1).2) else ((f_X9_leastOf_26 (mPI σ 26 0 0) a1), (mPI σ 26 0 0))
set_option maxRecDepth 20000 in
theorem S_X9_least_26 {Γ : Nat × (Nat → Int32)} {d : Nat} {Q : mQ} {σ : mS} (a1 : Int32) (hs1 : (f_X9_isIn (mPI σ 26 0 0) a1 0 (((mPI σ 26 0 0).1 32 3) - 1)) = 0 ∨ (f_X9_isIn (mPI σ 26 0 0) a1 0 (((mPI σ 26 0 0).1 32 3) - 1)) = 1) (hs2 : ¬ ((f_X9_isItem_26 (mPI σ 26 0 0) a1) = 0) → vp_in a1 40) (hQ : Q (.inl (some (.int (h_X9_least_26 σ a1).1))) 60 mSH (h_X9_least_26 σ a1).2) : mCall Γ M_X9_least (d + 3) 0 0 [.ref 26, .int a1] 60 mSH σ Q := by
  refine mCall_of rfl (by decide) (Nat.le_of_ble_eq_true rfl) (mOkC (mOk_lo (Nat.le_of_ble_eq_true rfl)) (mOkC mOk_i mOkN)) ?_
  show mK Γ M_X9_least (d + 3) Q 60 0 0 0 [(0, .ref 26), (1, .int a1)] [] 60 mSH σ
  refine mK_aload_n dX9_least_0 rfl rfl (.head _) ?_
  refine mK_iconst dX9_least_1 rfl qic_0 ?_
  refine ru_putI (k := 0) (ci := 8) dX9_least_2 rfl rfl rfl kw_1127 ?_
  refine mK_aload_n dX9_least_5 rfl rfl (.head _) ?_
  refine mK_iload_n dX9_least_6 rfl rfl (.tail _ (.head _)) ?_
  refine mK_invV (J := M_X9_isItem) (k := 1) (as := [.int a1]) (st := []) (c1 := 0) (s1 := 0) dX9_least_7 rfl jw_X9_isItem jn_X9_isItem rfl (Nat.le_of_ble_eq_true rfl) (Nat.zero_le _) (Nat.zero_le _) rfl kw_1495 kw_1497 kw_75 (b := 26) (Nat.le_of_ble_eq_true rfl) (Nat.le_of_ble_eq_true rfl) rfl ?_
  refine S_X9_isItem_26 a1 hs1 ?_
  show mK Γ M_X9_least (d + 3) Q 60 0 0 10 [(0, .ref 26), (1, .int a1)] [.int (f_X9_isItem_26 (mPI σ 26 0 0) a1)] 60 mSH (mPI σ 26 0 0)
  refine mK_if_eq (tgt := 21) dX9_least_10 rfl (by decide) (fun c1 => ?_) (fun c1 => ?_)
  · refine mK_aload_n dX9_least_21 rfl rfl (.head _) ?_
    refine mK_iconst dX9_least_22 rfl qic_1 ?_
    refine mK_invV (J := M_X9_no) (k := 1) (as := [.int 1]) (st := []) (c1 := 0) (s1 := 0) dX9_least_23 rfl jw_X9_no jn_X9_no rfl (Nat.le_of_ble_eq_true rfl) (Nat.zero_le _) (Nat.zero_le _) rfl kw_1208 kw_1210 kw_38 (b := 26) (Nat.le_of_ble_eq_true rfl) (Nat.le_of_ble_eq_true rfl) rfl ?_
    refine S_X9_no_26 1 ?_
    show mK Γ M_X9_least (d + 3) Q 60 0 0 26 [(0, .ref 26), (1, .int a1)] [.int (h_X9_no_26 (mPI σ 26 0 0) 1).1] 60 mSH (h_X9_no_26 (mPI σ 26 0 0) 1).2
    exact mK_iret dX9_least_26 rfl (by rw [(show (h_X9_least_26 σ a1) = ((h_X9_no_26 (mPI σ 26 0 0) 1).1, (h_X9_no_26 (mPI σ 26 0 0) 1).2) from by unfold h_X9_least_26; exact ((if_pos c1).trans rfl))] at hQ; exact hQ)
  · refine mK_aload_n dX9_least_13 rfl rfl (.head _) ?_
    refine mK_iload_n dX9_least_14 rfl rfl (.tail _ (.head _)) ?_
    refine mK_invV (J := M_X9_leastOf) (k := 1) (as := [.int a1]) (st := []) (c1 := 0) (s1 := 0) dX9_least_15 rfl jw_X9_leastOf jn_X9_leastOf rfl (Nat.le_of_ble_eq_true rfl) (Nat.zero_le _) (Nat.zero_le _) rfl kw_1551 kw_1553 kw_81 (b := 26) (Nat.le_of_ble_eq_true rfl) (Nat.le_of_ble_eq_true rfl) rfl ?_
    refine S_X9_leastOf_26 a1 (hs2 c1) ?_
    show mK Γ M_X9_least (d + 3) Q 60 0 0 18 [(0, .ref 26), (1, .int a1)] [.int (f_X9_leastOf_26 (mPI σ 26 0 0) a1)] 60 mSH (mPI σ 26 0 0)
    refine mK_goto (tgt := 26) dX9_least_18 (by decide) ?_
    exact mK_iret dX9_least_26 rfl (by rw [(show (h_X9_least_26 σ a1) = ((f_X9_leastOf_26 (mPI σ 26 0 0) a1), (mPI σ 26 0 0)) from by unfold h_X9_least_26; exact ((if_neg c1).trans rfl))] at hQ; exact hQ)
def g_X9_print_26 (σ : mS) (a1 : Int32) : mS := (mPI (mPI σ 28 (σ.1 26 4).toNatClampNeg a1) 26 4 ((σ.1 26 4) + 1))
set_option maxRecDepth 20000 in
theorem S_X9_print_26 {Γ : Nat × (Nat → Int32)} {d : Nat} {Q : mQ} {σ : mS} (a1 : Int32) (hs1 : vp_in (σ.1 26 4) 1280) (hQ : Q (.inl none) 60 mSH (g_X9_print_26 σ a1)) : mCall Γ M_X9_print (d + 1) 0 0 [.ref 26, .int a1] 60 mSH σ Q := by
  refine mCall_of rfl (by decide) (Nat.le_of_ble_eq_true rfl) (mOkC (mOk_lo (Nat.le_of_ble_eq_true rfl)) (mOkC mOk_i mOkN)) ?_
  show mK Γ M_X9_print (d + 1) Q 60 0 0 0 [(0, .ref 26), (1, .int a1)] [] 60 mSH σ
  refine mK_aload_n dX9_print_0 rfl rfl (.head _) ?_
  refine ru_getR (k := 5) (ci := 8) (a := 28) dX9_print_1 rfl rfl rfl kw_1132 ?_
  refine mK_aload_n dX9_print_4 rfl rfl (.head _) ?_
  refine ru_getI (k := 4) (ci := 8) dX9_print_5 rfl rfl kw_1131 ?_
  refine mK_iload_n dX9_print_8 rfl rfl (.tail _ (.head _)) ?_
  refine ru_iast (n := 1280) dX9_print_9 rfl rfl hs1 ?_
  refine mK_aload_n dX9_print_10 rfl rfl (.head _) ?_
  refine mK_dup dX9_print_11 rfl rfl ?_
  refine ru_getI (k := 4) (ci := 8) dX9_print_12 rfl rfl kw_1131 ?_
  refine mK_iconst dX9_print_15 rfl qic_1 ?_
  refine mK_iadd dX9_print_16 rfl ?_
  refine ru_putI (k := 4) (ci := 8) dX9_print_17 rfl rfl rfl kw_1131 ?_
  exact mK_vret dX9_print_20 rfl (by rw [(show (g_X9_print_26 σ a1) = (mPI (mPI σ 28 (σ.1 26 4).toNatClampNeg a1) 26 4 ((σ.1 26 4) + 1)) from rfl)] at hQ; exact hQ)
def g_X9_token_26 (σ : mS) (a1 : Int32) (a2 : Int32) (a3 : Int64) : mS := if (σ.1 26 6) = 400 then (if a1 = 0 then (mPI (mPL (mPI (mPI σ 29 (σ.1 26 6).toNatClampNeg a1) 30 (σ.1 26 6).toNatClampNeg a2) 31 (σ.1 26 6).toNatClampNeg a3) 26 6 ((σ.1 26 6) + 1)) else (mPI (mPL (mPI (mPI σ 29 (σ.1 26 6).toNatClampNeg 1) 30 (σ.1 26 6).toNatClampNeg a2) 31 (σ.1 26 6).toNatClampNeg a3) 26 6 ((σ.1 26 6) + 1))) else (mPI (mPL (mPI (mPI σ 29 (σ.1 26 6).toNatClampNeg a1) 30 (σ.1 26 6).toNatClampNeg a2) 31 (σ.1 26 6).toNatClampNeg a3) 26 6 ((σ.1 26 6) + 1))
set_option maxRecDepth 20000 in
theorem S_X9_token_26 {Γ : Nat × (Nat → Int32)} {d : Nat} {Q : mQ} {σ : mS} (a1 : Int32) (a2 : Int32) (a3 : Int64) (hs1 : ¬ ((σ.1 26 6) = 400) → vp_in (σ.1 26 6) 402) (hs2 : ((σ.1 26 6) = 400) → (a1 = 0) → vp_in (σ.1 26 6) 402) (hs3 : ((σ.1 26 6) = 400) → ¬ (a1 = 0) → vp_in (σ.1 26 6) 402) (hQ : Q (.inl none) 60 mSH (g_X9_token_26 σ a1 a2 a3)) : mCall Γ M_X9_token (d + 1) 0 0 [.ref 26, .int a1, .int a2, .long a3] 60 mSH σ Q := by
  refine mCall_of rfl (by decide) (Nat.le_of_ble_eq_true rfl) (mOkC (mOk_lo (Nat.le_of_ble_eq_true rfl)) (mOkC mOk_i (mOkC mOk_i (mOkC mOk_l mOkN)))) ?_
  show mK Γ M_X9_token (d + 1) Q 60 0 0 0 [(0, .ref 26), (1, .int a1), (2, .int a2), (3, .long a3)] [] 60 mSH σ
  refine mK_aload_n dX9_token_0 rfl rfl (.head _) ?_
  refine ru_getR (k := 7) (ci := 8) (a := 29) dX9_token_1 rfl rfl rfl kw_1134 ?_
  refine mK_aload_n dX9_token_4 rfl rfl (.head _) ?_
  refine ru_getI (k := 6) (ci := 8) dX9_token_5 rfl rfl kw_1133 ?_
  refine mK_aload_n dX9_token_8 rfl rfl (.head _) ?_
  refine ru_getI (k := 6) (ci := 8) dX9_token_9 rfl rfl kw_1133 ?_
  refine mK_sipush dX9_token_12 rfl qsi_400 ?_
  refine ru_icmp_ne (tgt := 26) dX9_token_15 rfl (by decide) (fun c1 => ?_) (fun c1 => ?_)
  · refine mK_iload_n dX9_token_26 rfl rfl (.tail _ (.head _)) ?_
    refine ru_iast (n := 402) dX9_token_27 rfl rfl (hs1 c1) ?_
    refine mK_aload_n dX9_token_28 rfl rfl (.head _) ?_
    refine ru_getR (k := 8) (ci := 8) (a := 30) dX9_token_29 rfl rfl rfl kw_1135 ?_
    refine mK_aload_n dX9_token_32 rfl rfl (.head _) ?_
    refine ru_getI (k := 6) (ci := 8) dX9_token_33 rfl rfl kw_1133 ?_
    refine mK_iload_n dX9_token_36 rfl rfl (.tail _ (.tail _ (.head _))) ?_
    refine ru_iast (n := 402) dX9_token_37 rfl rfl (hs1 c1) ?_
    refine mK_aload_n dX9_token_38 rfl rfl (.head _) ?_
    refine ru_getR (k := 9) (ci := 8) (a := 31) dX9_token_39 rfl rfl rfl kw_1136 ?_
    refine mK_aload_n dX9_token_42 rfl rfl (.head _) ?_
    refine ru_getI (k := 6) (ci := 8) dX9_token_43 rfl rfl kw_1133 ?_
    refine mK_lload_n dX9_token_46 rfl rfl (.tail _ (.tail _ (.tail _ (.head _)))) ?_
    refine ru_last (n := 402) dX9_token_47 rfl rfl (hs1 c1) ?_
    refine mK_aload_n dX9_token_48 rfl rfl (.head _) ?_
    refine mK_dup dX9_token_49 rfl rfl ?_
    refine ru_getI (k := 6) (ci := 8) dX9_token_50 rfl rfl kw_1133 ?_
    refine mK_iconst dX9_token_53 rfl qic_1 ?_
    refine mK_iadd dX9_token_54 rfl ?_
    refine ru_putI (k := 6) (ci := 8) dX9_token_55 rfl rfl rfl kw_1133 ?_
    exact mK_vret dX9_token_58 rfl (by rw [(show (g_X9_token_26 σ a1 a2 a3) = (mPI (mPL (mPI (mPI σ 29 (σ.1 26 6).toNatClampNeg a1) 30 (σ.1 26 6).toNatClampNeg a2) 31 (σ.1 26 6).toNatClampNeg a3) 26 6 ((σ.1 26 6) + 1)) from by unfold g_X9_token_26; exact ((if_neg c1).trans rfl))] at hQ; exact hQ)
  · refine mK_iload_n dX9_token_18 rfl rfl (.tail _ (.head _)) ?_
    refine mK_if_eq (tgt := 26) dX9_token_19 rfl (by decide) (fun c2 => ?_) (fun c2 => ?_)
    · refine mK_iload_n dX9_token_26 rfl rfl (.tail _ (.head _)) ?_
      refine ru_iast (n := 402) dX9_token_27 rfl rfl (hs2 c1 c2) ?_
      refine mK_aload_n dX9_token_28 rfl rfl (.head _) ?_
      refine ru_getR (k := 8) (ci := 8) (a := 30) dX9_token_29 rfl rfl rfl kw_1135 ?_
      refine mK_aload_n dX9_token_32 rfl rfl (.head _) ?_
      refine ru_getI (k := 6) (ci := 8) dX9_token_33 rfl rfl kw_1133 ?_
      refine mK_iload_n dX9_token_36 rfl rfl (.tail _ (.tail _ (.head _))) ?_
      refine ru_iast (n := 402) dX9_token_37 rfl rfl (hs2 c1 c2) ?_
      refine mK_aload_n dX9_token_38 rfl rfl (.head _) ?_
      refine ru_getR (k := 9) (ci := 8) (a := 31) dX9_token_39 rfl rfl rfl kw_1136 ?_
      refine mK_aload_n dX9_token_42 rfl rfl (.head _) ?_
      refine ru_getI (k := 6) (ci := 8) dX9_token_43 rfl rfl kw_1133 ?_
      refine mK_lload_n dX9_token_46 rfl rfl (.tail _ (.tail _ (.tail _ (.head _)))) ?_
      refine ru_last (n := 402) dX9_token_47 rfl rfl (hs2 c1 c2) ?_
      refine mK_aload_n dX9_token_48 rfl rfl (.head _) ?_
      refine mK_dup dX9_token_49 rfl rfl ?_
      refine ru_getI (k := 6) (ci := 8) dX9_token_50 rfl rfl kw_1133 ?_
      refine mK_iconst dX9_token_53 rfl qic_1 ?_
      refine mK_iadd dX9_token_54 rfl ?_
      refine ru_putI (k := 6) (ci := 8) dX9_token_55 rfl rfl rfl kw_1133 ?_
      exact mK_vret dX9_token_58 rfl (by rw [(show (g_X9_token_26 σ a1 a2 a3) = (mPI (mPL (mPI (mPI σ 29 (σ.1 26 6).toNatClampNeg a1) 30 (σ.1 26 6).toNatClampNeg a2) 31 (σ.1 26 6).toNatClampNeg a3) 26 6 ((σ.1 26 6) + 1)) from by unfold g_X9_token_26; exact ((if_pos c1).trans ((if_pos c2).trans rfl)))] at hQ; exact hQ)
    · refine mK_iconst dX9_token_22 rfl qic_1 ?_
      refine mK_goto (tgt := 27) dX9_token_23 (by decide) ?_
      refine ru_iast (n := 402) dX9_token_27 rfl rfl (hs3 c1 c2) ?_
      refine mK_aload_n dX9_token_28 rfl rfl (.head _) ?_
      refine ru_getR (k := 8) (ci := 8) (a := 30) dX9_token_29 rfl rfl rfl kw_1135 ?_
      refine mK_aload_n dX9_token_32 rfl rfl (.head _) ?_
      refine ru_getI (k := 6) (ci := 8) dX9_token_33 rfl rfl kw_1133 ?_
      refine mK_iload_n dX9_token_36 rfl rfl (.tail _ (.tail _ (.head _))) ?_
      refine ru_iast (n := 402) dX9_token_37 rfl rfl (hs3 c1 c2) ?_
      refine mK_aload_n dX9_token_38 rfl rfl (.head _) ?_
      refine ru_getR (k := 9) (ci := 8) (a := 31) dX9_token_39 rfl rfl rfl kw_1136 ?_
      refine mK_aload_n dX9_token_42 rfl rfl (.head _) ?_
      refine ru_getI (k := 6) (ci := 8) dX9_token_43 rfl rfl kw_1133 ?_
      refine mK_lload_n dX9_token_46 rfl rfl (.tail _ (.tail _ (.tail _ (.head _)))) ?_
      refine ru_last (n := 402) dX9_token_47 rfl rfl (hs3 c1 c2) ?_
      refine mK_aload_n dX9_token_48 rfl rfl (.head _) ?_
      refine mK_dup dX9_token_49 rfl rfl ?_
      refine ru_getI (k := 6) (ci := 8) dX9_token_50 rfl rfl kw_1133 ?_
      refine mK_iconst dX9_token_53 rfl qic_1 ?_
      refine mK_iadd dX9_token_54 rfl ?_
      refine ru_putI (k := 6) (ci := 8) dX9_token_55 rfl rfl rfl kw_1133 ?_
      exact mK_vret dX9_token_58 rfl (by rw [(show (g_X9_token_26 σ a1 a2 a3) = (mPI (mPL (mPI (mPI σ 29 (σ.1 26 6).toNatClampNeg 1) 30 (σ.1 26 6).toNatClampNeg a2) 31 (σ.1 26 6).toNatClampNeg a3) 26 6 ((σ.1 26 6) + 1)) from by unfold g_X9_token_26; exact ((if_pos c1).trans ((if_neg c2).trans rfl)))] at hQ; exact hQ)
def f_X9_thrown_26 (σ : mS) : Int32 := (σ.1 26 0)
set_option maxRecDepth 20000 in
theorem S_X9_thrown_26 {Γ : Nat × (Nat → Int32)} {d : Nat} {Q : mQ} {σ : mS} (hQ : Q (.inl (some (.int (f_X9_thrown_26 σ)))) 60 mSH σ) : mCall Γ M_X9_thrown (d + 1) 0 0 [.ref 26] 60 mSH σ Q := by
  refine mCall_of rfl (by decide) (Nat.le_of_ble_eq_true rfl) (mOkC (mOk_lo (Nat.le_of_ble_eq_true rfl)) mOkN) ?_
  show mK Γ M_X9_thrown (d + 1) Q 60 0 0 0 [(0, .ref 26)] [] 60 mSH σ
  refine mK_aload_n dX9_thrown_0 rfl rfl (.head _) ?_
  refine ru_getI (k := 0) (ci := 8) dX9_thrown_1 rfl rfl kw_1127 ?_
  exact mK_iret dX9_thrown_4 rfl (by rw [(show (f_X9_thrown_26 σ) = (σ.1 26 0) from rfl)] at hQ; exact hQ)
def h_X9_trim_26 (σ : mS) (a1 : Int32) : Int32 × mS := if (f_X9_isIn (mPI σ 26 0 0) a1 0 (σ.1 26 2)) = 0 then ((h_X9_no_26 (mPI σ 26 0 0) 1).1, (h_X9_no_26 (mPI σ 26 0 0) 1).2) else (a1, (mPI (mPI σ 26 0 0) 26 2 a1))
set_option maxRecDepth 20000 in
theorem S_X9_trim_26 {Γ : Nat × (Nat → Int32)} {d : Nat} {Q : mQ} {σ : mS} (a1 : Int32) (hQ : Q (.inl (some (.int (h_X9_trim_26 σ a1).1))) 60 mSH (h_X9_trim_26 σ a1).2) : mCall Γ M_X9_trim (d + 2) 0 0 [.ref 26, .int a1] 60 mSH σ Q := by
  refine mCall_of rfl (by decide) (Nat.le_of_ble_eq_true rfl) (mOkC (mOk_lo (Nat.le_of_ble_eq_true rfl)) (mOkC mOk_i mOkN)) ?_
  show mK Γ M_X9_trim (d + 2) Q 60 0 0 0 [(0, .ref 26), (1, .int a1)] [] 60 mSH σ
  refine mK_aload_n dX9_trim_0 rfl rfl (.head _) ?_
  refine mK_iconst dX9_trim_1 rfl qic_0 ?_
  refine ru_putI (k := 0) (ci := 8) dX9_trim_2 rfl rfl rfl kw_1127 ?_
  refine mK_iload_n dX9_trim_5 rfl rfl (.tail _ (.head _)) ?_
  refine mK_iconst dX9_trim_6 rfl qic_0 ?_
  refine mK_aload_n dX9_trim_7 rfl rfl (.head _) ?_
  refine ru_getI (k := 2) (ci := 8) dX9_trim_8 rfl rfl kw_1129 ?_
  refine mK_invS (J := M_X9_isIn) (k := 3) (as := [.int a1, .int 0, .int (σ.1 26 2)]) (st := []) (c1 := 0) (s1 := 0) dX9_trim_11 rfl jw_X9_isIn jn_X9_isIn rfl (Nat.le_of_ble_eq_true rfl) (Nat.zero_le _) (Nat.zero_le _) rfl kw_1216 kw_1217 ?_
  refine S_X9_isIn a1 0 (σ.1 26 2) ?_
  show mK Γ M_X9_trim (d + 2) Q 60 0 0 14 [(0, .ref 26), (1, .int a1)] [.int (f_X9_isIn (mPI σ 26 0 0) a1 0 (σ.1 26 2))] 60 mSH (mPI σ 26 0 0)
  refine ru_if_ne (tgt := 23) dX9_trim_14 rfl (by decide) (fun c1 => ?_) (fun c1 => ?_)
  · refine mK_aload_n dX9_trim_23 rfl rfl (.head _) ?_
    refine mK_iload_n dX9_trim_24 rfl rfl (.tail _ (.head _)) ?_
    refine ru_putI (k := 2) (ci := 8) dX9_trim_25 rfl rfl rfl kw_1129 ?_
    refine mK_iload_n dX9_trim_28 rfl rfl (.tail _ (.head _)) ?_
    exact mK_iret dX9_trim_29 rfl (by rw [(show (h_X9_trim_26 σ a1) = (a1, (mPI (mPI σ 26 0 0) 26 2 a1)) from by unfold h_X9_trim_26; exact ((if_neg c1).trans rfl))] at hQ; exact hQ)
  · refine mK_aload_n dX9_trim_17 rfl rfl (.head _) ?_
    refine mK_iconst dX9_trim_18 rfl qic_1 ?_
    refine mK_invV (J := M_X9_no) (k := 1) (as := [.int 1]) (st := []) (c1 := 0) (s1 := 0) dX9_trim_19 rfl jw_X9_no jn_X9_no rfl (Nat.le_of_ble_eq_true rfl) (Nat.zero_le _) (Nat.zero_le _) rfl kw_1208 kw_1210 kw_38 (b := 26) (Nat.le_of_ble_eq_true rfl) (Nat.le_of_ble_eq_true rfl) rfl ?_
    refine S_X9_no_26 1 ?_
    show mK Γ M_X9_trim (d + 2) Q 60 0 0 22 [(0, .ref 26), (1, .int a1)] [.int (h_X9_no_26 (mPI σ 26 0 0) 1).1] 60 mSH (h_X9_no_26 (mPI σ 26 0 0) 1).2
    exact mK_iret dX9_trim_22 rfl (by rw [(show (h_X9_trim_26 σ a1) = ((h_X9_no_26 (mPI σ 26 0 0) 1).1, (h_X9_no_26 (mPI σ 26 0 0) 1).2) from by unfold h_X9_trim_26; exact ((if_pos c1).trans rfl))] at hQ; exact hQ)
