
set_option maxRecDepth 20000 in
theorem E_X1_readSingle_24 {Γ : Nat × (Nat → Int32)} {d : Nat} {Q : mQ} {σ : mS} (a1 : Int32) (h : mCall Γ M_X1_takes (d + 1) 0 0 [.ref 24, .ref 1014] 60 mSH σ (mRt Γ M_X1_readSingle (d + 2) Q 60 0 0 7 [(0, .ref 24), (1, .int a1)] [])) : mCall Γ M_X1_readSingle (d + 2) 0 0 [.ref 24, .int a1] 60 mSH σ Q := by
  refine mCall_of rfl (by decide) (Nat.le_of_ble_eq_true rfl) (mOkC (mOk_lo (Nat.le_of_ble_eq_true rfl)) (mOkC mOk_i mOkN)) ?_
  show mK Γ M_X1_readSingle (d + 2) Q 60 0 0 0 [(0, .ref 24), (1, .int a1)] [] 60 mSH σ
  refine mK_aload_n dX1_readSingle_0 rfl rfl (.head _) ?_
  refine mK_getE (i := 14) dX1_readSingle_1 rfl (by decide) kw_436 ?_
  refine mK_invV (J := M_X1_takes) (k := 1) (as := [.ref 1014]) (st := []) (c1 := 0) (s1 := 0) dX1_readSingle_4 rfl jw_X1_takes jn_X1_takes rfl (Nat.le_of_ble_eq_true rfl) (Nat.zero_le _) (Nat.zero_le _) rfl kw_388 kw_390 kw_6 (b := 24) (Nat.le_of_ble_eq_true rfl) (Nat.le_of_ble_eq_true rfl) rfl ?_
  exact h
set_option maxRecDepth 20000 in
theorem T_X1_readSingle_24_7a {Γ : Nat × (Nat → Int32)} {d n0 bc bs : Nat} {Q : mQ} {σ : mS} (x1 : Int32) (r : Int32) (h : ((r = 0 → mCall Γ M_X1_takes (d + 1) 0 0 [.ref 24, .ref 1015] 60 mSH σ (mRt Γ M_X1_readSingle (d + 2) Q n0 bc bs 17 [(0, .ref 24), (1, .int x1)] [])) ∧ (¬ (r = 0) → mCall Γ M_X1_need (d + 1) 0 0 [.ref 24, .ref 1024] 60 mSH σ (mRt Γ M_X1_readSingle (d + 2) Q n0 bc bs 47 [(0, .ref 24), (1, .int x1)] [])))) : mRt Γ M_X1_readSingle (d + 2) Q n0 bc bs 7 [(0, .ref 24), (1, .int x1)] [] (.inl (some (.int r))) 60 mSH σ := by
  show mK Γ M_X1_readSingle (d + 2) Q n0 bc bs 7 [(0, .ref 24), (1, .int x1)] [.int r] 60 mSH σ
  refine ru_if_ne (tgt := 40) dX1_readSingle_7 rfl (by decide) (fun c1 => ?_) (fun c1 => ?_)
  · refine mK_aload_n dX1_readSingle_40 rfl rfl (.head _) ?_
    refine mK_getE (i := 24) dX1_readSingle_41 rfl (by decide) kw_392 ?_
    refine mK_invV (J := M_X1_need) (k := 1) (as := [.ref 1024]) (st := []) (c1 := 0) (s1 := 0) dX1_readSingle_44 rfl jw_X1_need jn_X1_need rfl (Nat.le_of_ble_eq_true rfl) (Nat.zero_le _) (Nat.zero_le _) rfl kw_393 kw_395 kw_7 (b := 24) (Nat.le_of_ble_eq_true rfl) (Nat.le_of_ble_eq_true rfl) rfl ?_
    exact (h.2 c1)
  · refine mK_aload_n dX1_readSingle_10 rfl rfl (.head _) ?_
    refine mK_getE (i := 15) dX1_readSingle_11 rfl (by decide) kw_438 ?_
    refine mK_invV (J := M_X1_takes) (k := 1) (as := [.ref 1015]) (st := []) (c1 := 0) (s1 := 0) dX1_readSingle_14 rfl jw_X1_takes jn_X1_takes rfl (Nat.le_of_ble_eq_true rfl) (Nat.zero_le _) (Nat.zero_le _) rfl kw_388 kw_390 kw_6 (b := 24) (Nat.le_of_ble_eq_true rfl) (Nat.le_of_ble_eq_true rfl) rfl ?_
    exact (h.1 c1)
set_option maxRecDepth 20000 in
theorem T_X1_readSingle_24_17a {Γ : Nat × (Nat → Int32)} {d n0 bc bs : Nat} {Q : mQ} {σ : mS} (x1 : Int32) (r : Int32) (h : ((r = 0 → mCall Γ M_X1_takes (d + 1) 0 0 [.ref 24, .ref 1016] 60 mSH σ (mRt Γ M_X1_readSingle (d + 2) Q n0 bc bs 27 [(0, .ref 24), (1, .int x1)] [])) ∧ (¬ (r = 0) → mCall Γ M_X1_need (d + 1) 0 0 [.ref 24, .ref 1024] 60 mSH σ (mRt Γ M_X1_readSingle (d + 2) Q n0 bc bs 47 [(0, .ref 24), (1, .int x1)] [])))) : mRt Γ M_X1_readSingle (d + 2) Q n0 bc bs 17 [(0, .ref 24), (1, .int x1)] [] (.inl (some (.int r))) 60 mSH σ := by
  show mK Γ M_X1_readSingle (d + 2) Q n0 bc bs 17 [(0, .ref 24), (1, .int x1)] [.int r] 60 mSH σ
  refine ru_if_ne (tgt := 40) dX1_readSingle_17 rfl (by decide) (fun c1 => ?_) (fun c1 => ?_)
  · refine mK_aload_n dX1_readSingle_40 rfl rfl (.head _) ?_
    refine mK_getE (i := 24) dX1_readSingle_41 rfl (by decide) kw_392 ?_
    refine mK_invV (J := M_X1_need) (k := 1) (as := [.ref 1024]) (st := []) (c1 := 0) (s1 := 0) dX1_readSingle_44 rfl jw_X1_need jn_X1_need rfl (Nat.le_of_ble_eq_true rfl) (Nat.zero_le _) (Nat.zero_le _) rfl kw_393 kw_395 kw_7 (b := 24) (Nat.le_of_ble_eq_true rfl) (Nat.le_of_ble_eq_true rfl) rfl ?_
    exact (h.2 c1)
  · refine mK_aload_n dX1_readSingle_20 rfl rfl (.head _) ?_
    refine mK_getE (i := 16) dX1_readSingle_21 rfl (by decide) kw_440 ?_
    refine mK_invV (J := M_X1_takes) (k := 1) (as := [.ref 1016]) (st := []) (c1 := 0) (s1 := 0) dX1_readSingle_24 rfl jw_X1_takes jn_X1_takes rfl (Nat.le_of_ble_eq_true rfl) (Nat.zero_le _) (Nat.zero_le _) rfl kw_388 kw_390 kw_6 (b := 24) (Nat.le_of_ble_eq_true rfl) (Nat.le_of_ble_eq_true rfl) rfl ?_
    exact (h.1 c1)
set_option maxRecDepth 20000 in
theorem T_X1_readSingle_24_47a {Γ : Nat × (Nat → Int32)} {d n0 bc bs : Nat} {Q : mQ} {σ : mS} (x1 : Int32) (h : Q (.inl none) 60 mSH σ) : mRt Γ M_X1_readSingle (d + 2) Q n0 bc bs 47 [(0, .ref 24), (1, .int x1)] [] (.inl none) 60 mSH σ := by
  show mK Γ M_X1_readSingle (d + 2) Q n0 bc bs 47 [(0, .ref 24), (1, .int x1)] [] 60 mSH σ
  refine mK_goto (tgt := 112) dX1_readSingle_47 (by decide) ?_
  exact mK_vret dX1_readSingle_112 rfl h
set_option maxRecDepth 20000 in
theorem T_X1_readSingle_24_27a {Γ : Nat × (Nat → Int32)} {d n0 bc bs : Nat} {Q : mQ} {σ : mS} (x1 : Int32) (r : Int32) (h : ((r = 0 → mCall Γ M_X1_takes (d + 1) 0 0 [.ref 24, .ref 1017] 60 mSH σ (mRt Γ M_X1_readSingle (d + 2) Q n0 bc bs 37 [(0, .ref 24), (1, .int x1)] [])) ∧ (¬ (r = 0) → mCall Γ M_X1_need (d + 1) 0 0 [.ref 24, .ref 1024] 60 mSH σ (mRt Γ M_X1_readSingle (d + 2) Q n0 bc bs 47 [(0, .ref 24), (1, .int x1)] [])))) : mRt Γ M_X1_readSingle (d + 2) Q n0 bc bs 27 [(0, .ref 24), (1, .int x1)] [] (.inl (some (.int r))) 60 mSH σ := by
  show mK Γ M_X1_readSingle (d + 2) Q n0 bc bs 27 [(0, .ref 24), (1, .int x1)] [.int r] 60 mSH σ
  refine ru_if_ne (tgt := 40) dX1_readSingle_27 rfl (by decide) (fun c1 => ?_) (fun c1 => ?_)
  · refine mK_aload_n dX1_readSingle_40 rfl rfl (.head _) ?_
    refine mK_getE (i := 24) dX1_readSingle_41 rfl (by decide) kw_392 ?_
    refine mK_invV (J := M_X1_need) (k := 1) (as := [.ref 1024]) (st := []) (c1 := 0) (s1 := 0) dX1_readSingle_44 rfl jw_X1_need jn_X1_need rfl (Nat.le_of_ble_eq_true rfl) (Nat.zero_le _) (Nat.zero_le _) rfl kw_393 kw_395 kw_7 (b := 24) (Nat.le_of_ble_eq_true rfl) (Nat.le_of_ble_eq_true rfl) rfl ?_
    exact (h.2 c1)
  · refine mK_aload_n dX1_readSingle_30 rfl rfl (.head _) ?_
    refine mK_getE (i := 17) dX1_readSingle_31 rfl (by decide) kw_442 ?_
    refine mK_invV (J := M_X1_takes) (k := 1) (as := [.ref 1017]) (st := []) (c1 := 0) (s1 := 0) dX1_readSingle_34 rfl jw_X1_takes jn_X1_takes rfl (Nat.le_of_ble_eq_true rfl) (Nat.zero_le _) (Nat.zero_le _) rfl kw_388 kw_390 kw_6 (b := 24) (Nat.le_of_ble_eq_true rfl) (Nat.le_of_ble_eq_true rfl) rfl ?_
    exact (h.1 c1)
set_option maxRecDepth 20000 in
theorem T_X1_readSingle_24_37a {Γ : Nat × (Nat → Int32)} {d n0 bc bs : Nat} {Q : mQ} {σ : mS} (x1 : Int32) (r : Int32) (h : ((r = 0 → ((x1 < 6 → mCall Γ M_X1_takes (d + 1) 0 0 [.ref 24, .ref 1018] 60 mSH σ (mRt Γ M_X1_readSingle (d + 2) Q n0 bc bs 71 [(0, .ref 24), (1, .int x1)] [])) ∧ (¬ (x1 < 6) → Q (.inl none) 60 mSH (mPI σ 24 2 0)))) ∧ (¬ (r = 0) → mCall Γ M_X1_need (d + 1) 0 0 [.ref 24, .ref 1024] 60 mSH σ (mRt Γ M_X1_readSingle (d + 2) Q n0 bc bs 47 [(0, .ref 24), (1, .int x1)] [])))) : mRt Γ M_X1_readSingle (d + 2) Q n0 bc bs 37 [(0, .ref 24), (1, .int x1)] [] (.inl (some (.int r))) 60 mSH σ := by
  show mK Γ M_X1_readSingle (d + 2) Q n0 bc bs 37 [(0, .ref 24), (1, .int x1)] [.int r] 60 mSH σ
  refine mK_if_eq (tgt := 50) dX1_readSingle_37 rfl (by decide) (fun c1 => ?_) (fun c1 => ?_)
  · refine mK_iload_n dX1_readSingle_50 rfl rfl (.tail _ (.head _)) ?_
    refine mK_bipush dX1_readSingle_51 rfl qbi_6 ?_
    refine mK_icmp_lt (tgt := 64) dX1_readSingle_53 rfl (by decide) (fun c2 => ?_) (fun c2 => ?_)
    · refine mK_aload_n dX1_readSingle_64 rfl rfl (.head _) ?_
      refine mK_getE (i := 18) dX1_readSingle_65 rfl (by decide) kw_444 ?_
      refine mK_invV (J := M_X1_takes) (k := 1) (as := [.ref 1018]) (st := []) (c1 := 0) (s1 := 0) dX1_readSingle_68 rfl jw_X1_takes jn_X1_takes rfl (Nat.le_of_ble_eq_true rfl) (Nat.zero_le _) (Nat.zero_le _) rfl kw_388 kw_390 kw_6 (b := 24) (Nat.le_of_ble_eq_true rfl) (Nat.le_of_ble_eq_true rfl) rfl ?_
      exact ((h.1 c1).1 c2)
    · refine mK_aload_n dX1_readSingle_56 rfl rfl (.head _) ?_
      refine mK_iconst dX1_readSingle_57 rfl qic_0 ?_
      refine ru_putZ (k := 2) (ci := 1) dX1_readSingle_58 rfl rfl (by decide) rfl kw_248 ?_
      refine mK_goto (tgt := 112) dX1_readSingle_61 (by decide) ?_
      exact mK_vret dX1_readSingle_112 rfl ((h.1 c1).2 c2)
  · refine mK_aload_n dX1_readSingle_40 rfl rfl (.head _) ?_
    refine mK_getE (i := 24) dX1_readSingle_41 rfl (by decide) kw_392 ?_
    refine mK_invV (J := M_X1_need) (k := 1) (as := [.ref 1024]) (st := []) (c1 := 0) (s1 := 0) dX1_readSingle_44 rfl jw_X1_need jn_X1_need rfl (Nat.le_of_ble_eq_true rfl) (Nat.zero_le _) (Nat.zero_le _) rfl kw_393 kw_395 kw_7 (b := 24) (Nat.le_of_ble_eq_true rfl) (Nat.le_of_ble_eq_true rfl) rfl ?_
    exact (h.2 c1)
set_option maxRecDepth 20000 in
theorem T_X1_readSingle_24_71a {Γ : Nat × (Nat → Int32)} {d n0 bc bs : Nat} {Q : mQ} {σ : mS} (x1 : Int32) (r : Int32) (h : ((r = 0 → mCall Γ M_X1_need (d + 1) 0 0 [.ref 24, .ref 1021] 60 mSH σ (mRt Γ M_X1_readSingle (d + 2) Q n0 bc bs 91 [(0, .ref 24), (1, .int x1)] [])) ∧ (¬ (r = 0) → mCall Γ M_X1_readSingle (d + 1) 0 0 [.ref 24, .int (x1 + 1)] 60 mSH σ (mRt Γ M_X1_readSingle (d + 2) Q n0 bc bs 81 [(0, .ref 24), (1, .int x1)] [])))) : mRt Γ M_X1_readSingle (d + 2) Q n0 bc bs 71 [(0, .ref 24), (1, .int x1)] [] (.inl (some (.int r))) 60 mSH σ := by
  show mK Γ M_X1_readSingle (d + 2) Q n0 bc bs 71 [(0, .ref 24), (1, .int x1)] [.int r] 60 mSH σ
  refine mK_if_eq (tgt := 84) dX1_readSingle_71 rfl (by decide) (fun c1 => ?_) (fun c1 => ?_)
  · refine mK_aload_n dX1_readSingle_84 rfl rfl (.head _) ?_
    refine mK_getE (i := 21) dX1_readSingle_85 rfl (by decide) kw_446 ?_
    refine mK_invV (J := M_X1_need) (k := 1) (as := [.ref 1021]) (st := []) (c1 := 0) (s1 := 0) dX1_readSingle_88 rfl jw_X1_need jn_X1_need rfl (Nat.le_of_ble_eq_true rfl) (Nat.zero_le _) (Nat.zero_le _) rfl kw_393 kw_395 kw_7 (b := 24) (Nat.le_of_ble_eq_true rfl) (Nat.le_of_ble_eq_true rfl) rfl ?_
    exact (h.1 c1)
  · refine mK_aload_n dX1_readSingle_74 rfl rfl (.head _) ?_
    refine mK_iload_n dX1_readSingle_75 rfl rfl (.tail _ (.head _)) ?_
    refine mK_iconst dX1_readSingle_76 rfl qic_1 ?_
    refine mK_iadd dX1_readSingle_77 rfl ?_
    refine mK_invV (J := M_X1_readSingle) (k := 1) (as := [.int (x1 + 1)]) (st := []) (c1 := 0) (s1 := 0) dX1_readSingle_78 rfl jw_X1_readSingle jn_X1_readSingle rfl (Nat.le_of_ble_eq_true rfl) (Nat.zero_le _) (Nat.zero_le _) rfl kw_432 kw_434 kw_12 (b := 24) (Nat.le_of_ble_eq_true rfl) (Nat.le_of_ble_eq_true rfl) rfl ?_
    exact (h.2 c1)
set_option maxRecDepth 20000 in
theorem T_X1_readSingle_24_91a {Γ : Nat × (Nat → Int32)} {d n0 bc bs : Nat} {Q : mQ} {σ : mS} (x1 : Int32) (h : (((σ.1 24 2) = 0 → mCall Γ M_X1_need (d + 1) 0 0 [.ref 24, .ref 1022] 60 mSH σ (mRt Γ M_X1_readSingle (d + 2) Q n0 bc bs 112 [(0, .ref 24), (1, .int x1)] [])) ∧ (¬ ((σ.1 24 2) = 0) → mCall Γ M_X1_readTest (d + 1) 0 0 [.ref 24, .int (x1 + 1)] 60 mSH σ (mRt Γ M_X1_readSingle (d + 2) Q n0 bc bs 105 [(0, .ref 24), (1, .int x1)] [])))) : mRt Γ M_X1_readSingle (d + 2) Q n0 bc bs 91 [(0, .ref 24), (1, .int x1)] [] (.inl none) 60 mSH σ := by
  show mK Γ M_X1_readSingle (d + 2) Q n0 bc bs 91 [(0, .ref 24), (1, .int x1)] [] 60 mSH σ
  refine mK_aload_n dX1_readSingle_91 rfl rfl (.head _) ?_
  refine ru_getZ (k := 2) (ci := 1) dX1_readSingle_92 rfl rfl kw_248 ?_
  refine mK_if_eq (tgt := 105) dX1_readSingle_95 rfl (by decide) (fun c1 => ?_) (fun c1 => ?_)
  · refine mK_aload_n dX1_readSingle_105 rfl rfl (.head _) ?_
    refine mK_getE (i := 22) dX1_readSingle_106 rfl (by decide) kw_448 ?_
    refine mK_invV (J := M_X1_need) (k := 1) (as := [.ref 1022]) (st := []) (c1 := 0) (s1 := 0) dX1_readSingle_109 rfl jw_X1_need jn_X1_need rfl (Nat.le_of_ble_eq_true rfl) (Nat.zero_le _) (Nat.zero_le _) rfl kw_393 kw_395 kw_7 (b := 24) (Nat.le_of_ble_eq_true rfl) (Nat.le_of_ble_eq_true rfl) rfl ?_
    exact (h.1 c1)
  · refine mK_aload_n dX1_readSingle_98 rfl rfl (.head _) ?_
    refine mK_iload_n dX1_readSingle_99 rfl rfl (.tail _ (.head _)) ?_
    refine mK_iconst dX1_readSingle_100 rfl qic_1 ?_
    refine mK_iadd dX1_readSingle_101 rfl ?_
    refine mK_invV (J := M_X1_readTest) (k := 1) (as := [.int (x1 + 1)]) (st := []) (c1 := 0) (s1 := 0) dX1_readSingle_102 rfl jw_X1_readTest jn_X1_readTest rfl (Nat.le_of_ble_eq_true rfl) (Nat.zero_le _) (Nat.zero_le _) rfl kw_428 kw_430 kw_11 (b := 24) (Nat.le_of_ble_eq_true rfl) (Nat.le_of_ble_eq_true rfl) rfl ?_
    exact (h.2 c1)
set_option maxRecDepth 20000 in
theorem T_X1_readSingle_24_81a {Γ : Nat × (Nat → Int32)} {d n0 bc bs : Nat} {Q : mQ} {σ : mS} (x1 : Int32) (h : Q (.inl none) 60 mSH σ) : mRt Γ M_X1_readSingle (d + 2) Q n0 bc bs 81 [(0, .ref 24), (1, .int x1)] [] (.inl none) 60 mSH σ := by
  show mK Γ M_X1_readSingle (d + 2) Q n0 bc bs 81 [(0, .ref 24), (1, .int x1)] [] 60 mSH σ
  refine mK_goto (tgt := 112) dX1_readSingle_81 (by decide) ?_
  exact mK_vret dX1_readSingle_112 rfl h
set_option maxRecDepth 20000 in
theorem T_X1_readSingle_24_112a {Γ : Nat × (Nat → Int32)} {d n0 bc bs : Nat} {Q : mQ} {σ : mS} (x1 : Int32) (h : Q (.inl none) 60 mSH σ) : mRt Γ M_X1_readSingle (d + 2) Q n0 bc bs 112 [(0, .ref 24), (1, .int x1)] [] (.inl none) 60 mSH σ := by
  show mK Γ M_X1_readSingle (d + 2) Q n0 bc bs 112 [(0, .ref 24), (1, .int x1)] [] 60 mSH σ
  exact mK_vret dX1_readSingle_112 rfl h
set_option maxRecDepth 20000 in
theorem T_X1_readSingle_24_105a {Γ : Nat × (Nat → Int32)} {d n0 bc bs : Nat} {Q : mQ} {σ : mS} (x1 : Int32) (h : mCall Γ M_X1_need (d + 1) 0 0 [.ref 24, .ref 1022] 60 mSH σ (mRt Γ M_X1_readSingle (d + 2) Q n0 bc bs 112 [(0, .ref 24), (1, .int x1)] [])) : mRt Γ M_X1_readSingle (d + 2) Q n0 bc bs 105 [(0, .ref 24), (1, .int x1)] [] (.inl none) 60 mSH σ := by
  show mK Γ M_X1_readSingle (d + 2) Q n0 bc bs 105 [(0, .ref 24), (1, .int x1)] [] 60 mSH σ
  refine mK_aload_n dX1_readSingle_105 rfl rfl (.head _) ?_
  refine mK_getE (i := 22) dX1_readSingle_106 rfl (by decide) kw_448 ?_
  refine mK_invV (J := M_X1_need) (k := 1) (as := [.ref 1022]) (st := []) (c1 := 0) (s1 := 0) dX1_readSingle_109 rfl jw_X1_need jn_X1_need rfl (Nat.le_of_ble_eq_true rfl) (Nat.zero_le _) (Nat.zero_le _) rfl kw_393 kw_395 kw_7 (b := 24) (Nat.le_of_ble_eq_true rfl) (Nat.le_of_ble_eq_true rfl) rfl ?_
  exact h
set_option maxRecDepth 20000 in
theorem E_X1_readTest_24 {Γ : Nat × (Nat → Int32)} {d : Nat} {Q : mQ} {σ : mS} (a1 : Int32) (h : mCall Γ M_X1_readSingle (d + 1) 0 0 [.ref 24, .int a1] 60 mSH σ (mRt Γ M_X1_readTest (d + 2) Q 60 0 0 5 [(0, .ref 24), (1, .int a1)] [])) : mCall Γ M_X1_readTest (d + 2) 0 0 [.ref 24, .int a1] 60 mSH σ Q := by
  refine mCall_of rfl (by decide) (Nat.le_of_ble_eq_true rfl) (mOkC (mOk_lo (Nat.le_of_ble_eq_true rfl)) (mOkC mOk_i mOkN)) ?_
  show mK Γ M_X1_readTest (d + 2) Q 60 0 0 0 [(0, .ref 24), (1, .int a1)] [] 60 mSH σ
  refine mK_aload_n dX1_readTest_0 rfl rfl (.head _) ?_
  refine mK_iload_n dX1_readTest_1 rfl rfl (.tail _ (.head _)) ?_
  refine mK_invV (J := M_X1_readSingle) (k := 1) (as := [.int a1]) (st := []) (c1 := 0) (s1 := 0) dX1_readTest_2 rfl jw_X1_readSingle jn_X1_readSingle rfl (Nat.le_of_ble_eq_true rfl) (Nat.zero_le _) (Nat.zero_le _) rfl kw_432 kw_434 kw_12 (b := 24) (Nat.le_of_ble_eq_true rfl) (Nat.le_of_ble_eq_true rfl) rfl ?_
  exact h
set_option maxRecDepth 20000 in
theorem T_X1_readTest_24_5a {Γ : Nat × (Nat → Int32)} {d n0 bc bs : Nat} {Q : mQ} {σ : mS} (x1 : Int32) (h : mK Γ M_X1_readTest (d + 2) Q n0 bc bs 7 [(0, .ref 24), (1, .int x1), (2, .int 0)] [] 60 mSH σ) : mRt Γ M_X1_readTest (d + 2) Q n0 bc bs 5 [(0, .ref 24), (1, .int x1)] [] (.inl none) 60 mSH σ := by
  show mK Γ M_X1_readTest (d + 2) Q n0 bc bs 5 [(0, .ref 24), (1, .int x1)] [] 60 mSH σ
  refine mK_iconst dX1_readTest_5 rfl qic_0 ?_
  refine ru_istore_n (lv1 := [(0, .ref 24), (1, .int x1), (2, .int 0)]) dX1_readTest_6 rfl rfl (by decide) rfl ?_
  exact h
set_option maxRecDepth 20000 in
theorem T_X1_readTest_24_7 {Γ : Nat × (Nat → Int32)} {d n0 bc bs : Nat} {Q : mQ} {σ : mS} (x1 : Int32) (x2 : Int32) (h : ((400 ≤ x2 → Q (.inl none) 60 mSH σ) ∧ (¬ (400 ≤ x2) → mCall Γ M_X1_takes (d + 1) 0 0 [.ref 24, .ref 1019] 60 mSH σ (mRt Γ M_X1_readTest (d + 2) Q n0 bc bs 21 [(0, .ref 24), (1, .int x1), (2, .int x2)] [])))) : mK Γ M_X1_readTest (d + 2) Q n0 bc bs 7 [(0, .ref 24), (1, .int x1), (2, .int x2)] [] 60 mSH σ := by
  refine mK_iload_n dX1_readTest_7 rfl rfl (.tail _ (.tail _ (.head _))) ?_
  refine mK_sipush dX1_readTest_8 rfl qsi_400 ?_
  refine mK_icmp_ge (tgt := 45) dX1_readTest_11 rfl (by decide) (fun c1 => ?_) (fun c1 => ?_)
  · exact mK_vret dX1_readTest_45 rfl (h.1 c1)
  · refine mK_aload_n dX1_readTest_14 rfl rfl (.head _) ?_
    refine mK_getE (i := 19) dX1_readTest_15 rfl (by decide) kw_450 ?_
    refine mK_invV (J := M_X1_takes) (k := 1) (as := [.ref 1019]) (st := []) (c1 := 0) (s1 := 0) dX1_readTest_18 rfl jw_X1_takes jn_X1_takes rfl (Nat.le_of_ble_eq_true rfl) (Nat.zero_le _) (Nat.zero_le _) rfl kw_388 kw_390 kw_6 (b := 24) (Nat.le_of_ble_eq_true rfl) (Nat.le_of_ble_eq_true rfl) rfl ?_
    exact (h.2 c1)
set_option maxRecDepth 20000 in
theorem T_X1_readTest_24_21a {Γ : Nat × (Nat → Int32)} {d n0 bc bs : Nat} {Q : mQ} {σ : mS} (x1 : Int32) (x2 : Int32) (r : Int32) (h : ((r = 0 → mCall Γ M_X1_takes (d + 1) 0 0 [.ref 24, .ref 1020] 60 mSH σ (mRt Γ M_X1_readTest (d + 2) Q n0 bc bs 31 [(0, .ref 24), (1, .int x1), (2, .int x2)] [])) ∧ (¬ (r = 0) → mCall Γ M_X1_readSingle (d + 1) 0 0 [.ref 24, .int x1] 60 mSH σ (mRt Γ M_X1_readTest (d + 2) Q n0 bc bs 39 [(0, .ref 24), (1, .int x1), (2, .int x2)] [])))) : mRt Γ M_X1_readTest (d + 2) Q n0 bc bs 21 [(0, .ref 24), (1, .int x1), (2, .int x2)] [] (.inl (some (.int r))) 60 mSH σ := by
  show mK Γ M_X1_readTest (d + 2) Q n0 bc bs 21 [(0, .ref 24), (1, .int x1), (2, .int x2)] [.int r] 60 mSH σ
  refine ru_if_ne (tgt := 34) dX1_readTest_21 rfl (by decide) (fun c1 => ?_) (fun c1 => ?_)
  · refine mK_aload_n dX1_readTest_34 rfl rfl (.head _) ?_
    refine mK_iload_n dX1_readTest_35 rfl rfl (.tail _ (.head _)) ?_
    refine mK_invV (J := M_X1_readSingle) (k := 1) (as := [.int x1]) (st := []) (c1 := 0) (s1 := 0) dX1_readTest_36 rfl jw_X1_readSingle jn_X1_readSingle rfl (Nat.le_of_ble_eq_true rfl) (Nat.zero_le _) (Nat.zero_le _) rfl kw_432 kw_434 kw_12 (b := 24) (Nat.le_of_ble_eq_true rfl) (Nat.le_of_ble_eq_true rfl) rfl ?_
    exact (h.2 c1)
  · refine mK_aload_n dX1_readTest_24 rfl rfl (.head _) ?_
    refine mK_getE (i := 20) dX1_readTest_25 rfl (by decide) kw_452 ?_
    refine mK_invV (J := M_X1_takes) (k := 1) (as := [.ref 1020]) (st := []) (c1 := 0) (s1 := 0) dX1_readTest_28 rfl jw_X1_takes jn_X1_takes rfl (Nat.le_of_ble_eq_true rfl) (Nat.zero_le _) (Nat.zero_le _) rfl kw_388 kw_390 kw_6 (b := 24) (Nat.le_of_ble_eq_true rfl) (Nat.le_of_ble_eq_true rfl) rfl ?_
    exact (h.1 c1)
set_option maxRecDepth 20000 in
theorem T_X1_readTest_24_31a {Γ : Nat × (Nat → Int32)} {d n0 bc bs : Nat} {Q : mQ} {σ : mS} (x1 : Int32) (x2 : Int32) (r : Int32) (h : ((r = 0 → Q (.inl none) 60 mSH σ) ∧ (¬ (r = 0) → mCall Γ M_X1_readSingle (d + 1) 0 0 [.ref 24, .int x1] 60 mSH σ (mRt Γ M_X1_readTest (d + 2) Q n0 bc bs 39 [(0, .ref 24), (1, .int x1), (2, .int x2)] [])))) : mRt Γ M_X1_readTest (d + 2) Q n0 bc bs 31 [(0, .ref 24), (1, .int x1), (2, .int x2)] [] (.inl (some (.int r))) 60 mSH σ := by
  show mK Γ M_X1_readTest (d + 2) Q n0 bc bs 31 [(0, .ref 24), (1, .int x1), (2, .int x2)] [.int r] 60 mSH σ
  refine mK_if_eq (tgt := 45) dX1_readTest_31 rfl (by decide) (fun c1 => ?_) (fun c1 => ?_)
  · exact mK_vret dX1_readTest_45 rfl (h.1 c1)
  · refine mK_aload_n dX1_readTest_34 rfl rfl (.head _) ?_
    refine mK_iload_n dX1_readTest_35 rfl rfl (.tail _ (.head _)) ?_
    refine mK_invV (J := M_X1_readSingle) (k := 1) (as := [.int x1]) (st := []) (c1 := 0) (s1 := 0) dX1_readTest_36 rfl jw_X1_readSingle jn_X1_readSingle rfl (Nat.le_of_ble_eq_true rfl) (Nat.zero_le _) (Nat.zero_le _) rfl kw_432 kw_434 kw_12 (b := 24) (Nat.le_of_ble_eq_true rfl) (Nat.le_of_ble_eq_true rfl) rfl ?_
    exact (h.2 c1)
set_option maxRecDepth 20000 in
theorem T_X1_readTest_24_39a {Γ : Nat × (Nat → Int32)} {d n0 bc bs : Nat} {Q : mQ} {σ : mS} (x1 : Int32) (x2 : Int32) (h : mK Γ M_X1_readTest (d + 2) Q n0 bc bs 7 [(0, .ref 24), (1, .int x1), (2, .int (x2 + 1))] [] 60 mSH σ) : mRt Γ M_X1_readTest (d + 2) Q n0 bc bs 39 [(0, .ref 24), (1, .int x1), (2, .int x2)] [] (.inl none) 60 mSH σ := by
  show mK Γ M_X1_readTest (d + 2) Q n0 bc bs 39 [(0, .ref 24), (1, .int x1), (2, .int x2)] [] 60 mSH σ
  refine ru_iinc (lv1 := [(0, .ref 24), (1, .int x1), (2, .int (x2 + 1))]) dX1_readTest_39 rfl (.tail _ (.tail _ (.head _))) qic_1 (by decide) rfl ?_
  refine mK_goto (tgt := 7) dX1_readTest_42 (by decide) ?_
  exact h
set_option maxRecDepth 20000 in
theorem E_X1_readMove_24 {Γ : Nat × (Nat → Int32)} {d : Nat} {Q : mQ} {σ : mS} (a1 : Nat) (ha_a1 : 1000 ≤ a1 ∧ a1 < 1028) (h : mCall Γ M_X1_need (d + 1) 0 0 [.ref 24, .ref 1024] 60 mSH σ (mRt Γ M_X1_readMove (d + 2) Q 60 0 0 7 [(0, .ref 24), (1, .ref a1)] [])) : mCall Γ M_X1_readMove (d + 2) 0 0 [.ref 24, .ref a1] 60 mSH σ Q := by
  refine mCall_of rfl (by decide) (Nat.le_of_ble_eq_true rfl) (mOkC (mOk_lo (Nat.le_of_ble_eq_true rfl)) (mOkC (mOk_hi (Nat.le_trans (by decide) ha_a1.1)) mOkN)) ?_
  show mK Γ M_X1_readMove (d + 2) Q 60 0 0 0 [(0, .ref 24), (1, .ref a1)] [] 60 mSH σ
  refine mK_aload_n dX1_readMove_0 rfl rfl (.head _) ?_
  refine mK_getE (i := 24) dX1_readMove_1 rfl (by decide) kw_392 ?_
  refine mK_invV (J := M_X1_need) (k := 1) (as := [.ref 1024]) (st := []) (c1 := 0) (s1 := 0) dX1_readMove_4 rfl jw_X1_need jn_X1_need rfl (Nat.le_of_ble_eq_true rfl) (Nat.zero_le _) (Nat.zero_le _) rfl kw_393 kw_395 kw_7 (b := 24) (Nat.le_of_ble_eq_true rfl) (Nat.le_of_ble_eq_true rfl) rfl ?_
  exact h
set_option maxRecDepth 20000 in
theorem T_X1_readMove_24_7a {Γ : Nat × (Nat → Int32)} {d n0 bc bs : Nat} {Q : mQ} {σ : mS} (x1 : Nat) (ha_x1 : 1000 ≤ x1 ∧ x1 < 1028) (h : mCall Γ M_X1_readNameBehind (d + 1) 0 0 [.ref 24, .ref 1007] 60 mSH σ (mRt Γ M_X1_readMove (d + 2) Q n0 bc bs 14 [(0, .ref 24), (1, .ref x1)] [])) : mRt Γ M_X1_readMove (d + 2) Q n0 bc bs 7 [(0, .ref 24), (1, .ref x1)] [] (.inl none) 60 mSH σ := by
  show mK Γ M_X1_readMove (d + 2) Q n0 bc bs 7 [(0, .ref 24), (1, .ref x1)] [] 60 mSH σ
  refine mK_aload_n dX1_readMove_7 rfl rfl (.head _) ?_
  refine mK_getE (i := 7) dX1_readMove_8 rfl (by decide) kw_422 ?_
  refine mK_invV (J := M_X1_readNameBehind) (k := 1) (as := [.ref 1007]) (st := []) (c1 := 0) (s1 := 0) dX1_readMove_11 rfl jw_X1_readNameBehind jn_X1_readNameBehind rfl (Nat.le_of_ble_eq_true rfl) (Nat.zero_le _) (Nat.zero_le _) rfl kw_408 kw_410 kw_9 (b := 24) (Nat.le_of_ble_eq_true rfl) (Nat.le_of_ble_eq_true rfl) rfl ?_
  exact h
set_option maxRecDepth 20000 in
theorem T_X1_readMove_24_14a {Γ : Nat × (Nat → Int32)} {d n0 bc bs : Nat} {Q : mQ} {σ : mS} (x1 : Nat) (ha_x1 : 1000 ≤ x1 ∧ x1 < 1028) (h : mCall Γ M_X1_readNameBehind (d + 1) 0 0 [.ref 24, .ref x1] 60 mSH σ (mRt Γ M_X1_readMove (d + 2) Q n0 bc bs 19 [(0, .ref 24), (1, .ref x1)] [])) : mRt Γ M_X1_readMove (d + 2) Q n0 bc bs 14 [(0, .ref 24), (1, .ref x1)] [] (.inl none) 60 mSH σ := by
  show mK Γ M_X1_readMove (d + 2) Q n0 bc bs 14 [(0, .ref 24), (1, .ref x1)] [] 60 mSH σ
  refine mK_aload_n dX1_readMove_14 rfl rfl (.head _) ?_
  refine mK_aload_n dX1_readMove_15 rfl rfl (.tail _ (.head _)) ?_
  refine mK_invV (J := M_X1_readNameBehind) (k := 1) (as := [.ref x1]) (st := []) (c1 := 0) (s1 := 0) dX1_readMove_16 rfl jw_X1_readNameBehind jn_X1_readNameBehind rfl (Nat.le_of_ble_eq_true rfl) (Nat.zero_le _) (Nat.zero_le _) rfl kw_408 kw_410 kw_9 (b := 24) (Nat.le_of_ble_eq_true rfl) (Nat.le_of_ble_eq_true rfl) rfl ?_
  exact h
set_option maxRecDepth 20000 in
theorem T_X1_readMove_24_19a {Γ : Nat × (Nat → Int32)} {d n0 bc bs : Nat} {Q : mQ} {σ : mS} (x1 : Nat) (ha_x1 : 1000 ≤ x1 ∧ x1 < 1028) (h : mCall Γ M_X1_readNumberBehind (d + 1) 0 0 [.ref 24, .ref 1010] 60 mSH σ (mRt Γ M_X1_readMove (d + 2) Q n0 bc bs 26 [(0, .ref 24), (1, .ref x1)] [])) : mRt Γ M_X1_readMove (d + 2) Q n0 bc bs 19 [(0, .ref 24), (1, .ref x1)] [] (.inl none) 60 mSH σ := by
  show mK Γ M_X1_readMove (d + 2) Q n0 bc bs 19 [(0, .ref 24), (1, .ref x1)] [] 60 mSH σ
  refine mK_aload_n dX1_readMove_19 rfl rfl (.head _) ?_
  refine mK_getE (i := 10) dX1_readMove_20 rfl (by decide) kw_424 ?_
  refine mK_invV (J := M_X1_readNumberBehind) (k := 1) (as := [.ref 1010]) (st := []) (c1 := 0) (s1 := 0) dX1_readMove_23 rfl jw_X1_readNumberBehind jn_X1_readNumberBehind rfl (Nat.le_of_ble_eq_true rfl) (Nat.zero_le _) (Nat.zero_le _) rfl kw_399 kw_401 kw_8 (b := 24) (Nat.le_of_ble_eq_true rfl) (Nat.le_of_ble_eq_true rfl) rfl ?_
  exact h
set_option maxRecDepth 20000 in
theorem T_X1_readMove_24_26a {Γ : Nat × (Nat → Int32)} {d n0 bc bs : Nat} {Q : mQ} {σ : mS} (x1 : Nat) (ha_x1 : 1000 ≤ x1 ∧ x1 < 1028) (h : mCall Γ M_X1_takes (d + 1) 0 0 [.ref 24, .ref 1011] 60 mSH σ (mRt Γ M_X1_readMove (d + 2) Q n0 bc bs 33 [(0, .ref 24), (1, .ref x1)] [])) : mRt Γ M_X1_readMove (d + 2) Q n0 bc bs 26 [(0, .ref 24), (1, .ref x1)] [] (.inl none) 60 mSH σ := by
  show mK Γ M_X1_readMove (d + 2) Q n0 bc bs 26 [(0, .ref 24), (1, .ref x1)] [] 60 mSH σ
  refine mK_aload_n dX1_readMove_26 rfl rfl (.head _) ?_
  refine mK_getE (i := 11) dX1_readMove_27 rfl (by decide) kw_426 ?_
  refine mK_invV (J := M_X1_takes) (k := 1) (as := [.ref 1011]) (st := []) (c1 := 0) (s1 := 0) dX1_readMove_30 rfl jw_X1_takes jn_X1_takes rfl (Nat.le_of_ble_eq_true rfl) (Nat.zero_le _) (Nat.zero_le _) rfl kw_388 kw_390 kw_6 (b := 24) (Nat.le_of_ble_eq_true rfl) (Nat.le_of_ble_eq_true rfl) rfl ?_
  exact h
set_option maxRecDepth 20000 in
theorem T_X1_readMove_24_33a {Γ : Nat × (Nat → Int32)} {d n0 bc bs : Nat} {Q : mQ} {σ : mS} (x1 : Nat) (r : Int32) (ha_x1 : 1000 ≤ x1 ∧ x1 < 1028) (h : ((r = 0 → Q (.inl none) 60 mSH σ) ∧ (¬ (r = 0) → mCall Γ M_X1_readTest (d + 1) 0 0 [.ref 24, .int 0] 60 mSH σ (mRt Γ M_X1_readMove (d + 2) Q n0 bc bs 41 [(0, .ref 24), (1, .ref x1)] [])))) : mRt Γ M_X1_readMove (d + 2) Q n0 bc bs 33 [(0, .ref 24), (1, .ref x1)] [] (.inl (some (.int r))) 60 mSH σ := by
  show mK Γ M_X1_readMove (d + 2) Q n0 bc bs 33 [(0, .ref 24), (1, .ref x1)] [.int r] 60 mSH σ
  refine mK_if_eq (tgt := 41) dX1_readMove_33 rfl (by decide) (fun c1 => ?_) (fun c1 => ?_)
  · exact mK_vret dX1_readMove_41 rfl (h.1 c1)
  · refine mK_aload_n dX1_readMove_36 rfl rfl (.head _) ?_
    refine mK_iconst dX1_readMove_37 rfl qic_0 ?_
    refine mK_invV (J := M_X1_readTest) (k := 1) (as := [.int 0]) (st := []) (c1 := 0) (s1 := 0) dX1_readMove_38 rfl jw_X1_readTest jn_X1_readTest rfl (Nat.le_of_ble_eq_true rfl) (Nat.zero_le _) (Nat.zero_le _) rfl kw_428 kw_430 kw_11 (b := 24) (Nat.le_of_ble_eq_true rfl) (Nat.le_of_ble_eq_true rfl) rfl ?_
    exact (h.2 c1)
set_option maxRecDepth 20000 in
theorem T_X1_readMove_24_41a {Γ : Nat × (Nat → Int32)} {d n0 bc bs : Nat} {Q : mQ} {σ : mS} (x1 : Nat) (ha_x1 : 1000 ≤ x1 ∧ x1 < 1028) (h : Q (.inl none) 60 mSH σ) : mRt Γ M_X1_readMove (d + 2) Q n0 bc bs 41 [(0, .ref 24), (1, .ref x1)] [] (.inl none) 60 mSH σ := by
  show mK Γ M_X1_readMove (d + 2) Q n0 bc bs 41 [(0, .ref 24), (1, .ref x1)] [] 60 mSH σ
  exact mK_vret dX1_readMove_41 rfl h
set_option maxRecDepth 20000 in
theorem E_X1_readLine_24 {Γ : Nat × (Nat → Int32)} {d : Nat} {Q : mQ} {σ : mS} (h : mCall Γ M_X1_takes (d + 1) 0 0 [.ref 24, .ref 1000] 60 mSH σ (mRt Γ M_X1_readLine (d + 2) Q 60 0 0 7 [(0, .ref 24)] [])) : mCall Γ M_X1_readLine (d + 2) 0 0 [.ref 24] 60 mSH σ Q := by
  refine mCall_of rfl (by decide) (Nat.le_of_ble_eq_true rfl) (mOkC (mOk_lo (Nat.le_of_ble_eq_true rfl)) mOkN) ?_
  show mK Γ M_X1_readLine (d + 2) Q 60 0 0 0 [(0, .ref 24)] [] 60 mSH σ
  refine mK_aload_n dX1_readLine_0 rfl rfl (.head _) ?_
  refine mK_getE (i := 0) dX1_readLine_1 rfl (by decide) kw_386 ?_
  refine mK_invV (J := M_X1_takes) (k := 1) (as := [.ref 1000]) (st := []) (c1 := 0) (s1 := 0) dX1_readLine_4 rfl jw_X1_takes jn_X1_takes rfl (Nat.le_of_ble_eq_true rfl) (Nat.zero_le _) (Nat.zero_le _) rfl kw_388 kw_390 kw_6 (b := 24) (Nat.le_of_ble_eq_true rfl) (Nat.le_of_ble_eq_true rfl) rfl ?_
  exact h
set_option maxRecDepth 20000 in
theorem T_X1_readLine_24_7a {Γ : Nat × (Nat → Int32)} {d n0 bc bs : Nat} {Q : mQ} {σ : mS} (r : Int32) (h : ((r = 0 → mCall Γ M_X1_takes (d + 1) 0 0 [.ref 24, .ref 1002] 60 mSH σ (mRt Γ M_X1_readLine (d + 2) Q n0 bc bs 34 [(0, .ref 24)] [])) ∧ (¬ (r = 0) → mCall Γ M_X1_need (d + 1) 0 0 [.ref 24, .ref 1024] 60 mSH σ (mRt Γ M_X1_readLine (d + 2) Q n0 bc bs 17 [(0, .ref 24)] [])))) : mRt Γ M_X1_readLine (d + 2) Q n0 bc bs 7 [(0, .ref 24)] [] (.inl (some (.int r))) 60 mSH σ := by
  show mK Γ M_X1_readLine (d + 2) Q n0 bc bs 7 [(0, .ref 24)] [.int r] 60 mSH σ
  refine mK_if_eq (tgt := 27) dX1_readLine_7 rfl (by decide) (fun c1 => ?_) (fun c1 => ?_)
  · refine mK_aload_n dX1_readLine_27 rfl rfl (.head _) ?_
    refine mK_getE (i := 2) dX1_readLine_28 rfl (by decide) kw_404 ?_
    refine mK_invV (J := M_X1_takes) (k := 1) (as := [.ref 1002]) (st := []) (c1 := 0) (s1 := 0) dX1_readLine_31 rfl jw_X1_takes jn_X1_takes rfl (Nat.le_of_ble_eq_true rfl) (Nat.zero_le _) (Nat.zero_le _) rfl kw_388 kw_390 kw_6 (b := 24) (Nat.le_of_ble_eq_true rfl) (Nat.le_of_ble_eq_true rfl) rfl ?_
    exact (h.1 c1)
  · refine mK_aload_n dX1_readLine_10 rfl rfl (.head _) ?_
    refine mK_getE (i := 24) dX1_readLine_11 rfl (by decide) kw_392 ?_
    refine mK_invV (J := M_X1_need) (k := 1) (as := [.ref 1024]) (st := []) (c1 := 0) (s1 := 0) dX1_readLine_14 rfl jw_X1_need jn_X1_need rfl (Nat.le_of_ble_eq_true rfl) (Nat.zero_le _) (Nat.zero_le _) rfl kw_393 kw_395 kw_7 (b := 24) (Nat.le_of_ble_eq_true rfl) (Nat.le_of_ble_eq_true rfl) rfl ?_
    exact (h.2 c1)
set_option maxRecDepth 20000 in
theorem T_X1_readLine_24_34a {Γ : Nat × (Nat → Int32)} {d n0 bc bs : Nat} {Q : mQ} {σ : mS} (r : Int32) (h : ((r = 0 → mCall Γ M_X1_takes (d + 1) 0 0 [.ref 24, .ref 1005] 60 mSH σ (mRt Γ M_X1_readLine (d + 2) Q n0 bc bs 68 [(0, .ref 24)] [])) ∧ (¬ (r = 0) → mCall Γ M_X1_need (d + 1) 0 0 [.ref 24, .ref 1024] 60 mSH σ (mRt Γ M_X1_readLine (d + 2) Q n0 bc bs 44 [(0, .ref 24)] [])))) : mRt Γ M_X1_readLine (d + 2) Q n0 bc bs 34 [(0, .ref 24)] [] (.inl (some (.int r))) 60 mSH σ := by
  show mK Γ M_X1_readLine (d + 2) Q n0 bc bs 34 [(0, .ref 24)] [.int r] 60 mSH σ
  refine mK_if_eq (tgt := 61) dX1_readLine_34 rfl (by decide) (fun c1 => ?_) (fun c1 => ?_)
  · refine mK_aload_n dX1_readLine_61 rfl rfl (.head _) ?_
    refine mK_getE (i := 5) dX1_readLine_62 rfl (by decide) kw_414 ?_
    refine mK_invV (J := M_X1_takes) (k := 1) (as := [.ref 1005]) (st := []) (c1 := 0) (s1 := 0) dX1_readLine_65 rfl jw_X1_takes jn_X1_takes rfl (Nat.le_of_ble_eq_true rfl) (Nat.zero_le _) (Nat.zero_le _) rfl kw_388 kw_390 kw_6 (b := 24) (Nat.le_of_ble_eq_true rfl) (Nat.le_of_ble_eq_true rfl) rfl ?_
    exact (h.1 c1)
  · refine mK_aload_n dX1_readLine_37 rfl rfl (.head _) ?_
    refine mK_getE (i := 24) dX1_readLine_38 rfl (by decide) kw_392 ?_
    refine mK_invV (J := M_X1_need) (k := 1) (as := [.ref 1024]) (st := []) (c1 := 0) (s1 := 0) dX1_readLine_41 rfl jw_X1_need jn_X1_need rfl (Nat.le_of_ble_eq_true rfl) (Nat.zero_le _) (Nat.zero_le _) rfl kw_393 kw_395 kw_7 (b := 24) (Nat.le_of_ble_eq_true rfl) (Nat.le_of_ble_eq_true rfl) rfl ?_
    exact (h.2 c1)
set_option maxRecDepth 20000 in
theorem T_X1_readLine_24_17a {Γ : Nat × (Nat → Int32)} {d n0 bc bs : Nat} {Q : mQ} {σ : mS} (h : mCall Γ M_X1_readNumberBehind (d + 1) 0 0 [.ref 24, .ref 1001] 60 mSH σ (mRt Γ M_X1_readLine (d + 2) Q n0 bc bs 24 [(0, .ref 24)] [])) : mRt Γ M_X1_readLine (d + 2) Q n0 bc bs 17 [(0, .ref 24)] [] (.inl none) 60 mSH σ := by
  show mK Γ M_X1_readLine (d + 2) Q n0 bc bs 17 [(0, .ref 24)] [] 60 mSH σ
  refine mK_aload_n dX1_readLine_17 rfl rfl (.head _) ?_
  refine mK_getE (i := 1) dX1_readLine_18 rfl (by decide) kw_397 ?_
  refine mK_invV (J := M_X1_readNumberBehind) (k := 1) (as := [.ref 1001]) (st := []) (c1 := 0) (s1 := 0) dX1_readLine_21 rfl jw_X1_readNumberBehind jn_X1_readNumberBehind rfl (Nat.le_of_ble_eq_true rfl) (Nat.zero_le _) (Nat.zero_le _) rfl kw_399 kw_401 kw_8 (b := 24) (Nat.le_of_ble_eq_true rfl) (Nat.le_of_ble_eq_true rfl) rfl ?_
  exact h
set_option maxRecDepth 20000 in
theorem T_X1_readLine_24_68a {Γ : Nat × (Nat → Int32)} {d n0 bc bs : Nat} {Q : mQ} {σ : mS} (r : Int32) (h : ((r = 0 → mCall Γ M_X1_takes (d + 1) 0 0 [.ref 24, .ref 1006] 60 mSH σ (mRt Γ M_X1_readLine (d + 2) Q n0 bc bs 88 [(0, .ref 24)] [])) ∧ (¬ (r = 0) → mCall Γ M_X1_readMove (d + 1) 0 0 [.ref 24, .ref 1008] 60 mSH σ (mRt Γ M_X1_readLine (d + 2) Q n0 bc bs 78 [(0, .ref 24)] [])))) : mRt Γ M_X1_readLine (d + 2) Q n0 bc bs 68 [(0, .ref 24)] [] (.inl (some (.int r))) 60 mSH σ := by
  show mK Γ M_X1_readLine (d + 2) Q n0 bc bs 68 [(0, .ref 24)] [.int r] 60 mSH σ
  refine mK_if_eq (tgt := 81) dX1_readLine_68 rfl (by decide) (fun c1 => ?_) (fun c1 => ?_)
  · refine mK_aload_n dX1_readLine_81 rfl rfl (.head _) ?_
    refine mK_getE (i := 6) dX1_readLine_82 rfl (by decide) kw_454 ?_
    refine mK_invV (J := M_X1_takes) (k := 1) (as := [.ref 1006]) (st := []) (c1 := 0) (s1 := 0) dX1_readLine_85 rfl jw_X1_takes jn_X1_takes rfl (Nat.le_of_ble_eq_true rfl) (Nat.zero_le _) (Nat.zero_le _) rfl kw_388 kw_390 kw_6 (b := 24) (Nat.le_of_ble_eq_true rfl) (Nat.le_of_ble_eq_true rfl) rfl ?_
    exact (h.1 c1)
  · refine mK_aload_n dX1_readLine_71 rfl rfl (.head _) ?_
    refine mK_getE (i := 8) dX1_readLine_72 rfl (by decide) kw_416 ?_
    refine mK_invV (J := M_X1_readMove) (k := 1) (as := [.ref 1008]) (st := []) (c1 := 0) (s1 := 0) dX1_readLine_75 rfl jw_X1_readMove jn_X1_readMove rfl (Nat.le_of_ble_eq_true rfl) (Nat.zero_le _) (Nat.zero_le _) rfl kw_418 kw_420 kw_10 (b := 24) (Nat.le_of_ble_eq_true rfl) (Nat.le_of_ble_eq_true rfl) rfl ?_
    exact (h.2 c1)
set_option maxRecDepth 20000 in
theorem T_X1_readLine_24_44a {Γ : Nat × (Nat → Int32)} {d n0 bc bs : Nat} {Q : mQ} {σ : mS} (h : mCall Γ M_X1_readNameBehind (d + 1) 0 0 [.ref 24, .ref 1003] 60 mSH σ (mRt Γ M_X1_readLine (d + 2) Q n0 bc bs 51 [(0, .ref 24)] [])) : mRt Γ M_X1_readLine (d + 2) Q n0 bc bs 44 [(0, .ref 24)] [] (.inl none) 60 mSH σ := by
  show mK Γ M_X1_readLine (d + 2) Q n0 bc bs 44 [(0, .ref 24)] [] 60 mSH σ
  refine mK_aload_n dX1_readLine_44 rfl rfl (.head _) ?_
  refine mK_getE (i := 3) dX1_readLine_45 rfl (by decide) kw_406 ?_
  refine mK_invV (J := M_X1_readNameBehind) (k := 1) (as := [.ref 1003]) (st := []) (c1 := 0) (s1 := 0) dX1_readLine_48 rfl jw_X1_readNameBehind jn_X1_readNameBehind rfl (Nat.le_of_ble_eq_true rfl) (Nat.zero_le _) (Nat.zero_le _) rfl kw_408 kw_410 kw_9 (b := 24) (Nat.le_of_ble_eq_true rfl) (Nat.le_of_ble_eq_true rfl) rfl ?_
  exact h
set_option maxRecDepth 20000 in
theorem T_X1_readLine_24_24a {Γ : Nat × (Nat → Int32)} {d n0 bc bs : Nat} {Q : mQ} {σ : mS} (h : mCall Γ M_X1_need (d + 1) 0 0 [.ref 24, .ref 1023] 60 mSH σ (mRt Γ M_X1_readLine (d + 2) Q n0 bc bs 143 [(0, .ref 24)] [])) : mRt Γ M_X1_readLine (d + 2) Q n0 bc bs 24 [(0, .ref 24)] [] (.inl none) 60 mSH σ := by
  show mK Γ M_X1_readLine (d + 2) Q n0 bc bs 24 [(0, .ref 24)] [] 60 mSH σ
  refine mK_goto (tgt := 136) dX1_readLine_24 (by decide) ?_
  refine mK_aload_n dX1_readLine_136 rfl rfl (.head _) ?_
  refine mK_getE (i := 23) dX1_readLine_137 rfl (by decide) kw_462 ?_
  refine mK_invV (J := M_X1_need) (k := 1) (as := [.ref 1023]) (st := []) (c1 := 0) (s1 := 0) dX1_readLine_140 rfl jw_X1_need jn_X1_need rfl (Nat.le_of_ble_eq_true rfl) (Nat.zero_le _) (Nat.zero_le _) rfl kw_393 kw_395 kw_7 (b := 24) (Nat.le_of_ble_eq_true rfl) (Nat.le_of_ble_eq_true rfl) rfl ?_
  exact h
set_option maxRecDepth 20000 in
theorem T_X1_readLine_24_88a {Γ : Nat × (Nat → Int32)} {d n0 bc bs : Nat} {Q : mQ} {σ : mS} (r : Int32) (h : ((r = 0 → mCall Γ M_X1_takes (d + 1) 0 0 [.ref 24, .ref 1012] 60 mSH σ (mRt Γ M_X1_readLine (d + 2) Q n0 bc bs 108 [(0, .ref 24)] [])) ∧ (¬ (r = 0) → mCall Γ M_X1_readMove (d + 1) 0 0 [.ref 24, .ref 1009] 60 mSH σ (mRt Γ M_X1_readLine (d + 2) Q n0 bc bs 98 [(0, .ref 24)] [])))) : mRt Γ M_X1_readLine (d + 2) Q n0 bc bs 88 [(0, .ref 24)] [] (.inl (some (.int r))) 60 mSH σ := by
  show mK Γ M_X1_readLine (d + 2) Q n0 bc bs 88 [(0, .ref 24)] [.int r] 60 mSH σ
  refine mK_if_eq (tgt := 101) dX1_readLine_88 rfl (by decide) (fun c1 => ?_) (fun c1 => ?_)
  · refine mK_aload_n dX1_readLine_101 rfl rfl (.head _) ?_
    refine mK_getE (i := 12) dX1_readLine_102 rfl (by decide) kw_458 ?_
    refine mK_invV (J := M_X1_takes) (k := 1) (as := [.ref 1012]) (st := []) (c1 := 0) (s1 := 0) dX1_readLine_105 rfl jw_X1_takes jn_X1_takes rfl (Nat.le_of_ble_eq_true rfl) (Nat.zero_le _) (Nat.zero_le _) rfl kw_388 kw_390 kw_6 (b := 24) (Nat.le_of_ble_eq_true rfl) (Nat.le_of_ble_eq_true rfl) rfl ?_
    exact (h.1 c1)
  · refine mK_aload_n dX1_readLine_91 rfl rfl (.head _) ?_
    refine mK_getE (i := 9) dX1_readLine_92 rfl (by decide) kw_456 ?_
    refine mK_invV (J := M_X1_readMove) (k := 1) (as := [.ref 1009]) (st := []) (c1 := 0) (s1 := 0) dX1_readLine_95 rfl jw_X1_readMove jn_X1_readMove rfl (Nat.le_of_ble_eq_true rfl) (Nat.zero_le _) (Nat.zero_le _) rfl kw_418 kw_420 kw_10 (b := 24) (Nat.le_of_ble_eq_true rfl) (Nat.le_of_ble_eq_true rfl) rfl ?_
    exact (h.2 c1)
set_option maxRecDepth 20000 in
theorem T_X1_readLine_24_78a {Γ : Nat × (Nat → Int32)} {d n0 bc bs : Nat} {Q : mQ} {σ : mS} (h : mCall Γ M_X1_need (d + 1) 0 0 [.ref 24, .ref 1023] 60 mSH σ (mRt Γ M_X1_readLine (d + 2) Q n0 bc bs 143 [(0, .ref 24)] [])) : mRt Γ M_X1_readLine (d + 2) Q n0 bc bs 78 [(0, .ref 24)] [] (.inl none) 60 mSH σ := by
  show mK Γ M_X1_readLine (d + 2) Q n0 bc bs 78 [(0, .ref 24)] [] 60 mSH σ
  refine mK_goto (tgt := 136) dX1_readLine_78 (by decide) ?_
  refine mK_aload_n dX1_readLine_136 rfl rfl (.head _) ?_
  refine mK_getE (i := 23) dX1_readLine_137 rfl (by decide) kw_462 ?_
  refine mK_invV (J := M_X1_need) (k := 1) (as := [.ref 1023]) (st := []) (c1 := 0) (s1 := 0) dX1_readLine_140 rfl jw_X1_need jn_X1_need rfl (Nat.le_of_ble_eq_true rfl) (Nat.zero_le _) (Nat.zero_le _) rfl kw_393 kw_395 kw_7 (b := 24) (Nat.le_of_ble_eq_true rfl) (Nat.le_of_ble_eq_true rfl) rfl ?_
  exact h
set_option maxRecDepth 20000 in
theorem T_X1_readLine_24_51a {Γ : Nat × (Nat → Int32)} {d n0 bc bs : Nat} {Q : mQ} {σ : mS} (h : mCall Γ M_X1_readNumberBehind (d + 1) 0 0 [.ref 24, .ref 1004] 60 mSH σ (mRt Γ M_X1_readLine (d + 2) Q n0 bc bs 58 [(0, .ref 24)] [])) : mRt Γ M_X1_readLine (d + 2) Q n0 bc bs 51 [(0, .ref 24)] [] (.inl none) 60 mSH σ := by
  show mK Γ M_X1_readLine (d + 2) Q n0 bc bs 51 [(0, .ref 24)] [] 60 mSH σ
  refine mK_aload_n dX1_readLine_51 rfl rfl (.head _) ?_
  refine mK_getE (i := 4) dX1_readLine_52 rfl (by decide) kw_412 ?_
  refine mK_invV (J := M_X1_readNumberBehind) (k := 1) (as := [.ref 1004]) (st := []) (c1 := 0) (s1 := 0) dX1_readLine_55 rfl jw_X1_readNumberBehind jn_X1_readNumberBehind rfl (Nat.le_of_ble_eq_true rfl) (Nat.zero_le _) (Nat.zero_le _) rfl kw_399 kw_401 kw_8 (b := 24) (Nat.le_of_ble_eq_true rfl) (Nat.le_of_ble_eq_true rfl) rfl ?_
  exact h
set_option maxRecDepth 20000 in
theorem T_X1_readLine_24_143a {Γ : Nat × (Nat → Int32)} {d n0 bc bs : Nat} {Q : mQ} {σ : mS} (h : Q (.inl none) 60 mSH σ) : mRt Γ M_X1_readLine (d + 2) Q n0 bc bs 143 [(0, .ref 24)] [] (.inl none) 60 mSH σ := by
  show mK Γ M_X1_readLine (d + 2) Q n0 bc bs 143 [(0, .ref 24)] [] 60 mSH σ
  exact mK_vret dX1_readLine_143 rfl h
set_option maxRecDepth 20000 in
theorem T_X1_readLine_24_108a {Γ : Nat × (Nat → Int32)} {d n0 bc bs : Nat} {Q : mQ} {σ : mS} (r : Int32) (h : ((r = 0 → mCall Γ M_X1_takes (d + 1) 0 0 [.ref 24, .ref 1013] 60 mSH σ (mRt Γ M_X1_readLine (d + 2) Q n0 bc bs 118 [(0, .ref 24)] [])) ∧ (¬ (r = 0) → mCall Γ M_X1_need (d + 1) 0 0 [.ref 24, .ref 1024] 60 mSH σ (mRt Γ M_X1_readLine (d + 2) Q n0 bc bs 128 [(0, .ref 24)] [])))) : mRt Γ M_X1_readLine (d + 2) Q n0 bc bs 108 [(0, .ref 24)] [] (.inl (some (.int r))) 60 mSH σ := by
  show mK Γ M_X1_readLine (d + 2) Q n0 bc bs 108 [(0, .ref 24)] [.int r] 60 mSH σ
  refine ru_if_ne (tgt := 121) dX1_readLine_108 rfl (by decide) (fun c1 => ?_) (fun c1 => ?_)
  · refine mK_aload_n dX1_readLine_121 rfl rfl (.head _) ?_
    refine mK_getE (i := 24) dX1_readLine_122 rfl (by decide) kw_392 ?_
    refine mK_invV (J := M_X1_need) (k := 1) (as := [.ref 1024]) (st := []) (c1 := 0) (s1 := 0) dX1_readLine_125 rfl jw_X1_need jn_X1_need rfl (Nat.le_of_ble_eq_true rfl) (Nat.zero_le _) (Nat.zero_le _) rfl kw_393 kw_395 kw_7 (b := 24) (Nat.le_of_ble_eq_true rfl) (Nat.le_of_ble_eq_true rfl) rfl ?_
    exact (h.2 c1)
  · refine mK_aload_n dX1_readLine_111 rfl rfl (.head _) ?_
    refine mK_getE (i := 13) dX1_readLine_112 rfl (by decide) kw_460 ?_
    refine mK_invV (J := M_X1_takes) (k := 1) (as := [.ref 1013]) (st := []) (c1 := 0) (s1 := 0) dX1_readLine_115 rfl jw_X1_takes jn_X1_takes rfl (Nat.le_of_ble_eq_true rfl) (Nat.zero_le _) (Nat.zero_le _) rfl kw_388 kw_390 kw_6 (b := 24) (Nat.le_of_ble_eq_true rfl) (Nat.le_of_ble_eq_true rfl) rfl ?_
    exact (h.1 c1)
set_option maxRecDepth 20000 in
theorem T_X1_readLine_24_98a {Γ : Nat × (Nat → Int32)} {d n0 bc bs : Nat} {Q : mQ} {σ : mS} (h : mCall Γ M_X1_need (d + 1) 0 0 [.ref 24, .ref 1023] 60 mSH σ (mRt Γ M_X1_readLine (d + 2) Q n0 bc bs 143 [(0, .ref 24)] [])) : mRt Γ M_X1_readLine (d + 2) Q n0 bc bs 98 [(0, .ref 24)] [] (.inl none) 60 mSH σ := by
  show mK Γ M_X1_readLine (d + 2) Q n0 bc bs 98 [(0, .ref 24)] [] 60 mSH σ
  refine mK_goto (tgt := 136) dX1_readLine_98 (by decide) ?_
  refine mK_aload_n dX1_readLine_136 rfl rfl (.head _) ?_
  refine mK_getE (i := 23) dX1_readLine_137 rfl (by decide) kw_462 ?_
  refine mK_invV (J := M_X1_need) (k := 1) (as := [.ref 1023]) (st := []) (c1 := 0) (s1 := 0) dX1_readLine_140 rfl jw_X1_need jn_X1_need rfl (Nat.le_of_ble_eq_true rfl) (Nat.zero_le _) (Nat.zero_le _) rfl kw_393 kw_395 kw_7 (b := 24) (Nat.le_of_ble_eq_true rfl) (Nat.le_of_ble_eq_true rfl) rfl ?_
  exact h
set_option maxRecDepth 20000 in
theorem T_X1_readLine_24_58a {Γ : Nat × (Nat → Int32)} {d n0 bc bs : Nat} {Q : mQ} {σ : mS} (h : mCall Γ M_X1_need (d + 1) 0 0 [.ref 24, .ref 1023] 60 mSH σ (mRt Γ M_X1_readLine (d + 2) Q n0 bc bs 143 [(0, .ref 24)] [])) : mRt Γ M_X1_readLine (d + 2) Q n0 bc bs 58 [(0, .ref 24)] [] (.inl none) 60 mSH σ := by
  show mK Γ M_X1_readLine (d + 2) Q n0 bc bs 58 [(0, .ref 24)] [] 60 mSH σ
  refine mK_goto (tgt := 136) dX1_readLine_58 (by decide) ?_
  refine mK_aload_n dX1_readLine_136 rfl rfl (.head _) ?_
  refine mK_getE (i := 23) dX1_readLine_137 rfl (by decide) kw_462 ?_
  refine mK_invV (J := M_X1_need) (k := 1) (as := [.ref 1023]) (st := []) (c1 := 0) (s1 := 0) dX1_readLine_140 rfl jw_X1_need jn_X1_need rfl (Nat.le_of_ble_eq_true rfl) (Nat.zero_le _) (Nat.zero_le _) rfl kw_393 kw_395 kw_7 (b := 24) (Nat.le_of_ble_eq_true rfl) (Nat.le_of_ble_eq_true rfl) rfl ?_
  exact h
set_option maxRecDepth 20000 in
theorem T_X1_readLine_24_118a {Γ : Nat × (Nat → Int32)} {d n0 bc bs : Nat} {Q : mQ} {σ : mS} (r : Int32) (h : ((r = 0 → mCall Γ M_X1_need (d + 1) 0 0 [.ref 24, .ref 1023] 60 mSH (mPI σ 24 2 0) (mRt Γ M_X1_readLine (d + 2) Q n0 bc bs 143 [(0, .ref 24)] [])) ∧ (¬ (r = 0) → mCall Γ M_X1_need (d + 1) 0 0 [.ref 24, .ref 1024] 60 mSH σ (mRt Γ M_X1_readLine (d + 2) Q n0 bc bs 128 [(0, .ref 24)] [])))) : mRt Γ M_X1_readLine (d + 2) Q n0 bc bs 118 [(0, .ref 24)] [] (.inl (some (.int r))) 60 mSH σ := by
  show mK Γ M_X1_readLine (d + 2) Q n0 bc bs 118 [(0, .ref 24)] [.int r] 60 mSH σ
  refine mK_if_eq (tgt := 131) dX1_readLine_118 rfl (by decide) (fun c1 => ?_) (fun c1 => ?_)
  · refine mK_aload_n dX1_readLine_131 rfl rfl (.head _) ?_
    refine mK_iconst dX1_readLine_132 rfl qic_0 ?_
    refine ru_putZ (k := 2) (ci := 1) dX1_readLine_133 rfl rfl (by decide) rfl kw_248 ?_
    refine mK_aload_n dX1_readLine_136 rfl rfl (.head _) ?_
    refine mK_getE (i := 23) dX1_readLine_137 rfl (by decide) kw_462 ?_
    refine mK_invV (J := M_X1_need) (k := 1) (as := [.ref 1023]) (st := []) (c1 := 0) (s1 := 0) dX1_readLine_140 rfl jw_X1_need jn_X1_need rfl (Nat.le_of_ble_eq_true rfl) (Nat.zero_le _) (Nat.zero_le _) rfl kw_393 kw_395 kw_7 (b := 24) (Nat.le_of_ble_eq_true rfl) (Nat.le_of_ble_eq_true rfl) rfl ?_
    exact (h.1 c1)
  · refine mK_aload_n dX1_readLine_121 rfl rfl (.head _) ?_
    refine mK_getE (i := 24) dX1_readLine_122 rfl (by decide) kw_392 ?_
    refine mK_invV (J := M_X1_need) (k := 1) (as := [.ref 1024]) (st := []) (c1 := 0) (s1 := 0) dX1_readLine_125 rfl jw_X1_need jn_X1_need rfl (Nat.le_of_ble_eq_true rfl) (Nat.zero_le _) (Nat.zero_le _) rfl kw_393 kw_395 kw_7 (b := 24) (Nat.le_of_ble_eq_true rfl) (Nat.le_of_ble_eq_true rfl) rfl ?_
    exact (h.2 c1)
set_option maxRecDepth 20000 in
theorem T_X1_readLine_24_128a {Γ : Nat × (Nat → Int32)} {d n0 bc bs : Nat} {Q : mQ} {σ : mS} (h : mCall Γ M_X1_need (d + 1) 0 0 [.ref 24, .ref 1023] 60 mSH σ (mRt Γ M_X1_readLine (d + 2) Q n0 bc bs 143 [(0, .ref 24)] [])) : mRt Γ M_X1_readLine (d + 2) Q n0 bc bs 128 [(0, .ref 24)] [] (.inl none) 60 mSH σ := by
  show mK Γ M_X1_readLine (d + 2) Q n0 bc bs 128 [(0, .ref 24)] [] 60 mSH σ
  refine mK_goto (tgt := 136) dX1_readLine_128 (by decide) ?_
  refine mK_aload_n dX1_readLine_136 rfl rfl (.head _) ?_
  refine mK_getE (i := 23) dX1_readLine_137 rfl (by decide) kw_462 ?_
  refine mK_invV (J := M_X1_need) (k := 1) (as := [.ref 1023]) (st := []) (c1 := 0) (s1 := 0) dX1_readLine_140 rfl jw_X1_need jn_X1_need rfl (Nat.le_of_ble_eq_true rfl) (Nat.zero_le _) (Nat.zero_le _) rfl kw_393 kw_395 kw_7 (b := 24) (Nat.le_of_ble_eq_true rfl) (Nat.le_of_ble_eq_true rfl) rfl ?_
  exact h
set_option maxRecDepth 20000 in
theorem E_X1_firstWrongPlace_24 {Γ : Nat × (Nat → Int32)} {d : Nat} {Q : mQ} {σ : mS} (h : mK Γ M_X1_firstWrongPlace (d + 2) Q 60 0 0 12 [(0, .ref 24), (1, .int 0)] [] 60 mSH (mPI (mPI σ 24 1 0) 24 2 1)) : mCall Γ M_X1_firstWrongPlace (d + 2) 0 0 [.ref 24] 60 mSH σ Q := by
  refine mCall_of rfl (by decide) (Nat.le_of_ble_eq_true rfl) (mOkC (mOk_lo (Nat.le_of_ble_eq_true rfl)) mOkN) ?_
  show mK Γ M_X1_firstWrongPlace (d + 2) Q 60 0 0 0 [(0, .ref 24)] [] 60 mSH σ
  refine mK_aload_n dX1_firstWrongPlace_0 rfl rfl (.head _) ?_
  refine mK_iconst dX1_firstWrongPlace_1 rfl qic_0 ?_
  refine ru_putI (k := 1) (ci := 1) dX1_firstWrongPlace_2 rfl rfl rfl kw_247 ?_
  refine mK_aload_n dX1_firstWrongPlace_5 rfl rfl (.head _) ?_
  refine mK_iconst dX1_firstWrongPlace_6 rfl qic_1 ?_
  refine ru_putZ (k := 2) (ci := 1) dX1_firstWrongPlace_7 rfl rfl (by decide) rfl kw_248 ?_
  refine mK_iconst dX1_firstWrongPlace_10 rfl qic_0 ?_
  refine ru_istore_n (lv1 := [(0, .ref 24), (1, .int 0)]) dX1_firstWrongPlace_11 rfl rfl (by decide) rfl ?_
  exact h
set_option maxRecDepth 20000 in
theorem T_X1_firstWrongPlace_24_12 {Γ : Nat × (Nat → Int32)} {d n0 bc bs : Nat} {Q : mQ} {σ : mS} (x1 : Int32) (h : ((400 ≤ x1 → (((σ.1 24 2) = 0 → mCall Γ M_X6_placeOf (d + 1) 0 0 [.ref 20, .int (σ.1 24 1)] 60 mSH σ (mRt Γ M_X1_firstWrongPlace (d + 2) Q n0 bc bs 68 [(0, .ref 24), (1, .int x1)] [])) ∧ (¬ ((σ.1 24 2) = 0) → Q (.inl (some (.int (-1)))) 60 mSH σ))) ∧ (¬ (400 ≤ x1) → (((σ.1 24 2) = 0 → mCall Γ M_X6_placeOf (d + 1) 0 0 [.ref 20, .int (σ.1 24 1)] 60 mSH σ (mRt Γ M_X1_firstWrongPlace (d + 2) Q n0 bc bs 68 [(0, .ref 24), (1, .int x1)] [])) ∧ (¬ ((σ.1 24 2) = 0) → mCall Γ M_X1_sees (d + 1) 0 0 [.ref 24, .ref 1026] 60 mSH σ (mRt Γ M_X1_firstWrongPlace (d + 2) Q n0 bc bs 33 [(0, .ref 24), (1, .int x1)] [])))))) : mK Γ M_X1_firstWrongPlace (d + 2) Q n0 bc bs 12 [(0, .ref 24), (1, .int x1)] [] 60 mSH σ := by
  refine mK_iload_n dX1_firstWrongPlace_12 rfl rfl (.tail _ (.head _)) ?_
  refine mK_sipush dX1_firstWrongPlace_13 rfl qsi_400 ?_
  refine mK_icmp_ge (tgt := 46) dX1_firstWrongPlace_16 rfl (by decide) (fun c1 => ?_) (fun c1 => ?_)
  · refine mK_aload_n dX1_firstWrongPlace_46 rfl rfl (.head _) ?_
    refine ru_getZ (k := 2) (ci := 1) dX1_firstWrongPlace_47 rfl rfl kw_248 ?_
    refine mK_if_eq (tgt := 57) dX1_firstWrongPlace_50 rfl (by decide) (fun c2 => ?_) (fun c2 => ?_)
    · refine mK_aload_n dX1_firstWrongPlace_57 rfl rfl (.head _) ?_
      refine ru_getR (k := 0) (ci := 1) (a := 20) dX1_firstWrongPlace_58 rfl rfl rfl kw_246 ?_
      refine mK_aload_n dX1_firstWrongPlace_61 rfl rfl (.head _) ?_
      refine ru_getI (k := 1) (ci := 1) dX1_firstWrongPlace_62 rfl rfl kw_247 ?_
      refine mK_invV (J := M_X6_placeOf) (k := 1) (as := [.int (σ.1 24 1)]) (st := []) (c1 := 0) (s1 := 0) dX1_firstWrongPlace_65 rfl jw_X6_placeOf jn_X6_placeOf rfl (Nat.le_of_ble_eq_true rfl) (Nat.zero_le _) (Nat.zero_le _) rfl kw_464 kw_465 kw_466 (b := 20) (Nat.le_of_ble_eq_true rfl) (Nat.le_of_ble_eq_true rfl) rfl ?_
      exact ((h.1 c1).1 c2)
    · refine mK_iconst dX1_firstWrongPlace_53 rfl qic_m1 ?_
      refine mK_goto (tgt := 68) dX1_firstWrongPlace_54 (by decide) ?_
      exact mK_iret dX1_firstWrongPlace_68 rfl ((h.1 c1).2 c2)
  · refine mK_aload_n dX1_firstWrongPlace_19 rfl rfl (.head _) ?_
    refine ru_getZ (k := 2) (ci := 1) dX1_firstWrongPlace_20 rfl rfl kw_248 ?_
    refine mK_if_eq (tgt := 46) dX1_firstWrongPlace_23 rfl (by decide) (fun c3 => ?_) (fun c3 => ?_)
    · refine mK_aload_n dX1_firstWrongPlace_46 rfl rfl (.head _) ?_
      refine ru_getZ (k := 2) (ci := 1) dX1_firstWrongPlace_47 rfl rfl kw_248 ?_
      refine mK_if_eq (tgt := 57) dX1_firstWrongPlace_50 rfl (by decide) (fun c4 => ?_) (fun c4 => ?_)
      · refine mK_aload_n dX1_firstWrongPlace_57 rfl rfl (.head _) ?_
        refine ru_getR (k := 0) (ci := 1) (a := 20) dX1_firstWrongPlace_58 rfl rfl rfl kw_246 ?_
        refine mK_aload_n dX1_firstWrongPlace_61 rfl rfl (.head _) ?_
        refine ru_getI (k := 1) (ci := 1) dX1_firstWrongPlace_62 rfl rfl kw_247 ?_
        refine mK_invV (J := M_X6_placeOf) (k := 1) (as := [.int (σ.1 24 1)]) (st := []) (c1 := 0) (s1 := 0) dX1_firstWrongPlace_65 rfl jw_X6_placeOf jn_X6_placeOf rfl (Nat.le_of_ble_eq_true rfl) (Nat.zero_le _) (Nat.zero_le _) rfl kw_464 kw_465 kw_466 (b := 20) (Nat.le_of_ble_eq_true rfl) (Nat.le_of_ble_eq_true rfl) rfl ?_
        exact ((h.2 c1).1 c3)
      · exact absurd c3 c4
    · refine mK_aload_n dX1_firstWrongPlace_26 rfl rfl (.head _) ?_
      refine mK_getE (i := 26) dX1_firstWrongPlace_27 rfl (by decide) kw_373 ?_
      refine mK_invV (J := M_X1_sees) (k := 1) (as := [.ref 1026]) (st := []) (c1 := 0) (s1 := 0) dX1_firstWrongPlace_30 rfl jw_X1_sees jn_X1_sees rfl (Nat.le_of_ble_eq_true rfl) (Nat.zero_le _) (Nat.zero_le _) rfl kw_374 kw_376 kw_4 (b := 24) (Nat.le_of_ble_eq_true rfl) (Nat.le_of_ble_eq_true rfl) rfl ?_
      exact ((h.2 c1).2 c3)
set_option maxRecDepth 20000 in
theorem T_X1_firstWrongPlace_24_68a {Γ : Nat × (Nat → Int32)} {d n0 bc bs : Nat} {Q : mQ} {σ : mS} (x1 : Int32) (r : Int32) (h : Q (.inl (some (.int r))) 60 mSH σ) : mRt Γ M_X1_firstWrongPlace (d + 2) Q n0 bc bs 68 [(0, .ref 24), (1, .int x1)] [] (.inl (some (.int r))) 60 mSH σ := by
  show mK Γ M_X1_firstWrongPlace (d + 2) Q n0 bc bs 68 [(0, .ref 24), (1, .int x1)] [.int r] 60 mSH σ
  exact mK_iret dX1_firstWrongPlace_68 rfl h
set_option maxRecDepth 20000 in
theorem T_X1_firstWrongPlace_24_33a {Γ : Nat × (Nat → Int32)} {d n0 bc bs : Nat} {Q : mQ} {σ : mS} (x1 : Int32) (r : Int32) (h : ((r = 0 → mCall Γ M_X1_readLine (d + 1) 0 0 [.ref 24] 60 mSH σ (mRt Γ M_X1_firstWrongPlace (d + 2) Q n0 bc bs 40 [(0, .ref 24), (1, .int x1)] [])) ∧ (¬ (r = 0) → (((σ.1 24 2) = 0 → mCall Γ M_X6_placeOf (d + 1) 0 0 [.ref 20, .int (σ.1 24 1)] 60 mSH σ (mRt Γ M_X1_firstWrongPlace (d + 2) Q n0 bc bs 68 [(0, .ref 24), (1, .int x1)] [])) ∧ (¬ ((σ.1 24 2) = 0) → Q (.inl (some (.int (-1)))) 60 mSH σ))))) : mRt Γ M_X1_firstWrongPlace (d + 2) Q n0 bc bs 33 [(0, .ref 24), (1, .int x1)] [] (.inl (some (.int r))) 60 mSH σ := by
  show mK Γ M_X1_firstWrongPlace (d + 2) Q n0 bc bs 33 [(0, .ref 24), (1, .int x1)] [.int r] 60 mSH σ
  refine ru_if_ne (tgt := 46) dX1_firstWrongPlace_33 rfl (by decide) (fun c1 => ?_) (fun c1 => ?_)
  · refine mK_aload_n dX1_firstWrongPlace_46 rfl rfl (.head _) ?_
    refine ru_getZ (k := 2) (ci := 1) dX1_firstWrongPlace_47 rfl rfl kw_248 ?_
    refine mK_if_eq (tgt := 57) dX1_firstWrongPlace_50 rfl (by decide) (fun c2 => ?_) (fun c2 => ?_)
    · refine mK_aload_n dX1_firstWrongPlace_57 rfl rfl (.head _) ?_
      refine ru_getR (k := 0) (ci := 1) (a := 20) dX1_firstWrongPlace_58 rfl rfl rfl kw_246 ?_
      refine mK_aload_n dX1_firstWrongPlace_61 rfl rfl (.head _) ?_
      refine ru_getI (k := 1) (ci := 1) dX1_firstWrongPlace_62 rfl rfl kw_247 ?_
      refine mK_invV (J := M_X6_placeOf) (k := 1) (as := [.int (σ.1 24 1)]) (st := []) (c1 := 0) (s1 := 0) dX1_firstWrongPlace_65 rfl jw_X6_placeOf jn_X6_placeOf rfl (Nat.le_of_ble_eq_true rfl) (Nat.zero_le _) (Nat.zero_le _) rfl kw_464 kw_465 kw_466 (b := 20) (Nat.le_of_ble_eq_true rfl) (Nat.le_of_ble_eq_true rfl) rfl ?_
      exact ((h.2 c1).1 c2)
    · refine mK_iconst dX1_firstWrongPlace_53 rfl qic_m1 ?_
      refine mK_goto (tgt := 68) dX1_firstWrongPlace_54 (by decide) ?_
      exact mK_iret dX1_firstWrongPlace_68 rfl ((h.2 c1).2 c2)
  · refine mK_aload_n dX1_firstWrongPlace_36 rfl rfl (.head _) ?_
    refine mK_invV (J := M_X1_readLine) (k := 0) (as := []) (st := []) (c1 := 0) (s1 := 0) dX1_firstWrongPlace_37 rfl jw_X1_readLine jn_X1_readLine rfl (Nat.le_of_ble_eq_true rfl) (Nat.zero_le _) (Nat.zero_le _) rfl kw_382 kw_384 kw_5 (b := 24) (Nat.le_of_ble_eq_true rfl) (Nat.le_of_ble_eq_true rfl) rfl ?_
    exact (h.1 c1)
set_option maxRecDepth 20000 in
theorem T_X1_firstWrongPlace_24_40a {Γ : Nat × (Nat → Int32)} {d n0 bc bs : Nat} {Q : mQ} {σ : mS} (x1 : Int32) (h : mK Γ M_X1_firstWrongPlace (d + 2) Q n0 bc bs 12 [(0, .ref 24), (1, .int (x1 + 1))] [] 60 mSH σ) : mRt Γ M_X1_firstWrongPlace (d + 2) Q n0 bc bs 40 [(0, .ref 24), (1, .int x1)] [] (.inl none) 60 mSH σ := by
  show mK Γ M_X1_firstWrongPlace (d + 2) Q n0 bc bs 40 [(0, .ref 24), (1, .int x1)] [] 60 mSH σ
  refine ru_iinc (lv1 := [(0, .ref 24), (1, .int (x1 + 1))]) dX1_firstWrongPlace_40 rfl (.tail _ (.head _)) qic_1 (by decide) rfl ?_
  refine mK_goto (tgt := 12) dX1_firstWrongPlace_43 (by decide) ?_
  exact h
