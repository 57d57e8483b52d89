set_option maxRecDepth 20000 in
theorem LC_advise {Γ : Nat × (Nat → Int32)} {d : Nat} {Q : mQ} {n0 bc bs i : Nat} {σ : mS} (h : Rel σ) (hL : Γ.1 ≤ 3072) (hi : i + 6 ≤ Γ.1) (hb : 130 ≤ bc) (hs : 700 ≤ bs) (K : ∀ ρ, Rel ρ → mK Γ M_L_law (d + 38) Q n0 (bc - 130) (bs - 700) 1214 (lLL i) [] 60 mSH ρ) : mK Γ M_L_law (d + 38) Q n0 bc bs 910 (lLL i) [] 60 mSH σ := by
  refine mK_aload_n dL_law_910 rfl rfl (.tail _ (.head _)) ?_
  refine mK_aload_n dL_law_911 rfl rfl (.head _) ?_
  refine mK_iload dL_law_912 rfl (.tail _ (.tail _ (.tail _ (.tail _ (.head _))))) ?_
  refine mK_iconst dL_law_914 rfl qic_1 ?_
  refine mK_iadd dL_law_915 rfl ?_
  refine mK_sld dL_law_916 rfl (scr_in1 hi hL) ?_
  show mK Γ M_L_law (d + 38) Q n0 bc bs 917 [(0, .ref 1300), (1, .ref 0), (2, .ref 26), (3, .ref 59), (4, .int (nI i))] [.int (sA1 Γ i), .ref 0] 60 mSH σ
  refine mK_aload_n dL_law_917 rfl rfl (.head _) ?_
  refine mK_iload dL_law_918 rfl (.tail _ (.tail _ (.tail _ (.tail _ (.head _))))) ?_
  refine mK_iconst dL_law_920 rfl qic_2 ?_
  refine mK_iadd dL_law_921 rfl ?_
  refine mK_sld dL_law_922 rfl (scr_in2 hi hL) ?_
  show mK Γ M_L_law (d + 38) Q n0 bc bs 923 [(0, .ref 1300), (1, .ref 0), (2, .ref 26), (3, .ref 59), (4, .int (nI i))] [.int (sA2 Γ i), .int (sA1 Γ i), .ref 0] 60 mSH σ
  refine mK_aload_n dL_law_923 rfl rfl (.tail _ (.tail _ (.tail _ (.head _)))) ?_
  refine mK_invSH (J := M_L_advise) (k := 4) (as := [.ref 0, .int (sA1 Γ i), .int (sA2 Γ i), .ref 59]) (st := []) (c1 := 2) (s1 := 12) dL_law_924 rfl jv_L_advise jn_L_advise rfl (Nat.le_of_ble_eq_true rfl) (by omega) (by omega) rfl (by decide) kw_1022 kw_1023 ?_
  refine W_advise (d := d + 36) (sA1 Γ i) (sA2 Γ i) (mCall_mono (P_advise (d := d + 24) h (sA1 Γ i) (sA2 Γ i)) (fun o M th τ hq => wr_end hq (fun k v τ' e m => ?_)))
  show mK Γ M_L_law (d + 38) Q n0 (bc - 2) (bs - 12) 927 [(0, .ref 1300), (1, .ref 0), (2, .ref 26), (3, .ref 59), (4, .int (nI i))] [.int k] 60 mSH τ'
  refine ru_istore (lv1 := [(0, .ref 1300), (1, .ref 0), (2, .ref 26), (3, .ref 59), (4, .int (nI i)), (5, .int k)]) dL_law_927 rfl (Nat.le_of_ble_eq_true rfl) rfl ?_
  refine mK_aload_n dL_law_929 rfl rfl (.tail _ (.tail _ (.head _))) ?_
  refine mK_aload_n dL_law_930 rfl rfl (.head _) ?_
  refine mK_iload dL_law_931 rfl (.tail _ (.tail _ (.tail _ (.tail _ (.head _))))) ?_
  refine mK_iconst dL_law_933 rfl qic_1 ?_
  refine mK_iadd dL_law_934 rfl ?_
  refine mK_sld dL_law_935 rfl (scr_in1 hi hL) ?_
  show mK Γ M_L_law (d + 38) Q n0 (bc - 2) (bs - 12) 936 [(0, .ref 1300), (1, .ref 0), (2, .ref 26), (3, .ref 59), (4, .int (nI i)), (5, .int k)] [.int (sA1 Γ i), .ref 26] 60 mSH τ'
  refine mK_aload_n dL_law_936 rfl rfl (.head _) ?_
  refine mK_iload dL_law_937 rfl (.tail _ (.tail _ (.tail _ (.tail _ (.head _))))) ?_
  refine mK_iconst dL_law_939 rfl qic_2 ?_
  refine mK_iadd dL_law_940 rfl ?_
  refine mK_sld dL_law_941 rfl (scr_in2 hi hL) ?_
  show mK Γ M_L_law (d + 38) Q n0 (bc - 2) (bs - 12) 942 [(0, .ref 1300), (1, .ref 0), (2, .ref 26), (3, .ref 59), (4, .int (nI i)), (5, .int k)] [.int (sA2 Γ i), .int (sA1 Γ i), .ref 26] 60 mSH τ'
  refine mK_invV (J := M_X9_advise) (k := 2) (as := [.int (sA1 Γ i), .int (sA2 Γ i)]) (st := []) (c1 := 0) (s1 := 0) (b := 26) dL_law_942 rfl jw_X9_advise jn_X9_advise rfl (Nat.le_of_ble_eq_true rfl) (by omega) (by omega) rfl kw_1547 kw_1548 kw_1549 (Nat.le_of_ble_eq_true rfl) (Nat.le_of_ble_eq_true rfl) rfl ?_
  refine mCall_up (d := d + 36) (by omega) (m _ (fun ρ hρ => ?_))
  obtain ⟨hR, hk, h59⟩ := hρ
  show mK Γ M_L_law (d + 38) Q n0 (bc - 2 - 0) (bs - 12 - 0) 945 [(0, .ref 1300), (1, .ref 0), (2, .ref 26), (3, .ref 59), (4, .int (nI i)), (5, .int k)] [.int v] 60 mSH ρ
  refine ru_istore (lv1 := [(0, .ref 1300), (1, .ref 0), (2, .ref 26), (3, .ref 59), (4, .int (nI i)), (5, .int k), (6, .int v)]) dL_law_945 rfl (Nat.le_of_ble_eq_true rfl) rfl ?_
  refine mK_aload_n dL_law_947 rfl rfl (.tail _ (.tail _ (.head _))) ?_
  refine mK_invV (J := M_X9_thrown) (k := 0) (as := []) (st := []) (c1 := 0) (s1 := 0) (b := 26) dL_law_948 rfl jw_X9_thrown jn_X9_thrown rfl (Nat.le_of_ble_eq_true rfl) (by omega) (by omega) rfl kw_1200 kw_1201 kw_1202 (Nat.le_of_ble_eq_true rfl) (Nat.le_of_ble_eq_true rfl) rfl ?_
  refine S_X9_thrown_26 (d := d + 36) ?_
  show mK Γ M_L_law (d + 38) Q n0 (bc - 2 - 0 - 0) (bs - 12 - 0 - 0) 951 [(0, .ref 1300), (1, .ref 0), (2, .ref 26), (3, .ref 59), (4, .int (nI i)), (5, .int k), (6, .int v)] [.int (ρ.1 26 0)] 60 mSH ρ
  refine mK_iload dL_law_951 rfl (.tail _ (.tail _ (.tail _ (.tail _ (.tail _ (.head _)))))) ?_
  refine mK_icmp_eq (tgt := 958) dL_law_953 rfl (by decide) (fun _ => ?_) (fun q => absurd hk q)
  refine mK_iload dL_law_958 rfl (.tail _ (.tail _ (.tail _ (.tail _ (.tail _ (.head _)))))) ?_
  have fin : mK Γ M_L_law (d + 38) Q n0 (bc - 2 - 0 - 0) (bs - 12 - 0 - 0) 975 [(0, .ref 1300), (1, .ref 0), (2, .ref 26), (3, .ref 59), (4, .int (nI i)), (5, .int k), (6, .int v)] [] 60 mSH ρ := by
    refine mK_goto (tgt := 1214) dL_law_975 (by decide) ?_
    exact ru_pick [0, 1, 2, 3, 4] rfl (mK_bud (by omega) (by omega) (K ρ hR))
  refine ru_if_ne (tgt := 975) dL_law_960 rfl (by decide) (fun _ => fin) (fun q => ?_)
  have hx : ρ.2.1 59 0 = v.toInt64 := by rw [h59]; exact e q
  refine mK_aload_n dL_law_963 rfl rfl (.tail _ (.tail _ (.tail _ (.head _)))) ?_
  refine mK_iconst dL_law_964 rfl qic_0 ?_
  refine ru_lald (j := 59) (n := 1) dL_law_965 rfl rfl vin01 ?_
  show mK Γ M_L_law (d + 38) Q n0 (bc - 2 - 0 - 0) (bs - 12 - 0 - 0) 966 [(0, .ref 1300), (1, .ref 0), (2, .ref 26), (3, .ref 59), (4, .int (nI i)), (5, .int k), (6, .int v)] [.long (ρ.2.1 59 0)] 60 mSH ρ
  refine mK_iload dL_law_966 rfl (.tail _ (.tail _ (.tail _ (.tail _ (.tail _ (.tail _ (.head _))))))) ?_
  refine mK_i2l dL_law_968 rfl ?_
  exact ru_lif_eq (tgt := 975) dL_law_969 rfl dL_law_970 rfl (by decide) (fun _ => fin) (fun q => absurd hx q)
set_option maxRecDepth 20000 in
theorem LC_least {Γ : Nat × (Nat → Int32)} {d : Nat} {Q : mQ} {n0 bc bs i : Nat} {σ : mS} (h : Rel σ) (hL : Γ.1 ≤ 3072) (hi : i + 6 ≤ Γ.1) (hb : 130 ≤ bc) (hs : 700 ≤ bs) (K : ∀ ρ, Rel ρ → mK Γ M_L_law (d + 38) Q n0 (bc - 130) (bs - 700) 1214 (lLL i) [] 60 mSH ρ) : mK Γ M_L_law (d + 38) Q n0 bc bs 978 (lLL i) [] 60 mSH σ := by
  refine mK_aload_n dL_law_978 rfl rfl (.tail _ (.head _)) ?_
  refine mK_aload_n dL_law_979 rfl rfl (.head _) ?_
  refine mK_iload dL_law_980 rfl (.tail _ (.tail _ (.tail _ (.tail _ (.head _))))) ?_
  refine mK_iconst dL_law_982 rfl qic_1 ?_
  refine mK_iadd dL_law_983 rfl ?_
  refine mK_sld dL_law_984 rfl (scr_in1 hi hL) ?_
  show mK Γ M_L_law (d + 38) Q n0 bc bs 985 [(0, .ref 1300), (1, .ref 0), (2, .ref 26), (3, .ref 59), (4, .int (nI i))] [.int (sA1 Γ i), .ref 0] 60 mSH σ
  refine mK_aload_n dL_law_985 rfl rfl (.tail _ (.tail _ (.tail _ (.head _)))) ?_
  refine mK_invSH (J := M_L_least) (k := 3) (as := [.ref 0, .int (sA1 Γ i), .ref 59]) (st := []) (c1 := 1) (s1 := 6) dL_law_986 rfl jv_L_least jn_L_least rfl (Nat.le_of_ble_eq_true rfl) (by omega) (by omega) rfl (by decide) kw_1036 kw_1037 ?_
  refine W_least (d := d + 36) (sA1 Γ i) (mCall_mono (P_least (d := d + 24) h (sA1 Γ i)) (fun o M th τ hq => wr_end hq (fun k v τ' e m => ?_)))
  show mK Γ M_L_law (d + 38) Q n0 (bc - 1) (bs - 6) 989 [(0, .ref 1300), (1, .ref 0), (2, .ref 26), (3, .ref 59), (4, .int (nI i))] [.int k] 60 mSH τ'
  refine ru_istore (lv1 := [(0, .ref 1300), (1, .ref 0), (2, .ref 26), (3, .ref 59), (4, .int (nI i)), (5, .int k)]) dL_law_989 rfl (Nat.le_of_ble_eq_true rfl) rfl ?_
  refine mK_aload_n dL_law_991 rfl rfl (.tail _ (.tail _ (.head _))) ?_
  refine mK_aload_n dL_law_992 rfl rfl (.head _) ?_
  refine mK_iload dL_law_993 rfl (.tail _ (.tail _ (.tail _ (.tail _ (.head _))))) ?_
  refine mK_iconst dL_law_995 rfl qic_1 ?_
  refine mK_iadd dL_law_996 rfl ?_
  refine mK_sld dL_law_997 rfl (scr_in1 hi hL) ?_
  show mK Γ M_L_law (d + 38) Q n0 (bc - 1) (bs - 6) 998 [(0, .ref 1300), (1, .ref 0), (2, .ref 26), (3, .ref 59), (4, .int (nI i)), (5, .int k)] [.int (sA1 Γ i), .ref 26] 60 mSH τ'
  refine mK_invV (J := M_X9_least) (k := 1) (as := [.int (sA1 Γ i)]) (st := []) (c1 := 0) (s1 := 0) (b := 26) dL_law_998 rfl jw_X9_least jn_X9_least rfl (Nat.le_of_ble_eq_true rfl) (by omega) (by omega) rfl kw_1555 kw_1556 kw_1557 (Nat.le_of_ble_eq_true rfl) (Nat.le_of_ble_eq_true rfl) rfl ?_
  refine mCall_up (d := d + 36) (by omega) (m _ (fun ρ hρ => ?_))
  obtain ⟨hR, hk, h59⟩ := hρ
  show mK Γ M_L_law (d + 38) Q n0 (bc - 1 - 0) (bs - 6 - 0) 1001 [(0, .ref 1300), (1, .ref 0), (2, .ref 26), (3, .ref 59), (4, .int (nI i)), (5, .int k)] [.int v] 60 mSH ρ
  refine ru_istore (lv1 := [(0, .ref 1300), (1, .ref 0), (2, .ref 26), (3, .ref 59), (4, .int (nI i)), (5, .int k), (6, .int v)]) dL_law_1001 rfl (Nat.le_of_ble_eq_true rfl) rfl ?_
  refine mK_aload_n dL_law_1003 rfl rfl (.tail _ (.tail _ (.head _))) ?_
  refine mK_invV (J := M_X9_thrown) (k := 0) (as := []) (st := []) (c1 := 0) (s1 := 0) (b := 26) dL_law_1004 rfl jw_X9_thrown jn_X9_thrown rfl (Nat.le_of_ble_eq_true rfl) (by omega) (by omega) rfl kw_1200 kw_1201 kw_1202 (Nat.le_of_ble_eq_true rfl) (Nat.le_of_ble_eq_true rfl) rfl ?_
  refine S_X9_thrown_26 (d := d + 36) ?_
  show mK Γ M_L_law (d + 38) Q n0 (bc - 1 - 0 - 0) (bs - 6 - 0 - 0) 1007 [(0, .ref 1300), (1, .ref 0), (2, .ref 26), (3, .ref 59), (4, .int (nI i)), (5, .int k), (6, .int v)] [.int (ρ.1 26 0)] 60 mSH ρ
  refine mK_iload dL_law_1007 rfl (.tail _ (.tail _ (.tail _ (.tail _ (.tail _ (.head _)))))) ?_
  refine mK_icmp_eq (tgt := 1014) dL_law_1009 rfl (by decide) (fun _ => ?_) (fun q => absurd hk q)
  refine mK_iload dL_law_1014 rfl (.tail _ (.tail _ (.tail _ (.tail _ (.tail _ (.head _)))))) ?_
  have fin : mK Γ M_L_law (d + 38) Q n0 (bc - 1 - 0 - 0) (bs - 6 - 0 - 0) 1031 [(0, .ref 1300), (1, .ref 0), (2, .ref 26), (3, .ref 59), (4, .int (nI i)), (5, .int k), (6, .int v)] [] 60 mSH ρ := by
    refine mK_goto (tgt := 1214) dL_law_1031 (by decide) ?_
    exact ru_pick [0, 1, 2, 3, 4] rfl (mK_bud (by omega) (by omega) (K ρ hR))
  refine ru_if_ne (tgt := 1031) dL_law_1016 rfl (by decide) (fun _ => fin) (fun q => ?_)
  have hx : ρ.2.1 59 0 = v.toInt64 := by rw [h59]; exact e q
  refine mK_aload_n dL_law_1019 rfl rfl (.tail _ (.tail _ (.tail _ (.head _)))) ?_
  refine mK_iconst dL_law_1020 rfl qic_0 ?_
  refine ru_lald (j := 59) (n := 1) dL_law_1021 rfl rfl vin01 ?_
  show mK Γ M_L_law (d + 38) Q n0 (bc - 1 - 0 - 0) (bs - 6 - 0 - 0) 1022 [(0, .ref 1300), (1, .ref 0), (2, .ref 26), (3, .ref 59), (4, .int (nI i)), (5, .int k), (6, .int v)] [.long (ρ.2.1 59 0)] 60 mSH ρ
  refine mK_iload dL_law_1022 rfl (.tail _ (.tail _ (.tail _ (.tail _ (.tail _ (.tail _ (.head _))))))) ?_
  refine mK_i2l dL_law_1024 rfl ?_
  exact ru_lif_eq (tgt := 1031) dL_law_1025 rfl dL_law_1026 rfl (by decide) (fun _ => fin) (fun q => absurd hx q)
set_option maxRecDepth 20000 in
theorem LC_frees {Γ : Nat × (Nat → Int32)} {d : Nat} {Q : mQ} {n0 bc bs i : Nat} {σ : mS} (h : Rel σ) (hL : Γ.1 ≤ 3072) (hi : i + 6 ≤ Γ.1) (hb : 130 ≤ bc) (hs : 700 ≤ bs) (K : ∀ ρ, Rel ρ → mK Γ M_L_law (d + 38) Q n0 (bc - 130) (bs - 700) 1214 (lLL i) [] 60 mSH ρ) : mK Γ M_L_law (d + 38) Q n0 bc bs 1034 (lLL i) [] 60 mSH σ := by
  refine mK_aload_n dL_law_1034 rfl rfl (.tail _ (.head _)) ?_
  refine mK_aload_n dL_law_1035 rfl rfl (.head _) ?_
  refine mK_iload dL_law_1036 rfl (.tail _ (.tail _ (.tail _ (.tail _ (.head _))))) ?_
  refine mK_iconst dL_law_1038 rfl qic_1 ?_
  refine mK_iadd dL_law_1039 rfl ?_
  refine mK_sld dL_law_1040 rfl (scr_in1 hi hL) ?_
  show mK Γ M_L_law (d + 38) Q n0 bc bs 1041 [(0, .ref 1300), (1, .ref 0), (2, .ref 26), (3, .ref 59), (4, .int (nI i))] [.int (sA1 Γ i), .ref 0] 60 mSH σ
  refine mK_aload_n dL_law_1041 rfl rfl (.tail _ (.tail _ (.tail _ (.head _)))) ?_
  refine mK_invSH (J := M_L_frees) (k := 3) (as := [.ref 0, .int (sA1 Γ i), .ref 59]) (st := []) (c1 := 1) (s1 := 6) dL_law_1042 rfl jv_L_frees jn_L_frees rfl (Nat.le_of_ble_eq_true rfl) (by omega) (by omega) rfl (by decide) kw_1044 kw_1045 ?_
  refine W_frees (d := d + 36) (sA1 Γ i) (mCall_mono (P_frees (d := d + 24) h (sA1 Γ i)) (fun o M th τ hq => wr_end hq (fun k v τ' e m => ?_)))
  show mK Γ M_L_law (d + 38) Q n0 (bc - 1) (bs - 6) 1045 [(0, .ref 1300), (1, .ref 0), (2, .ref 26), (3, .ref 59), (4, .int (nI i))] [.int k] 60 mSH τ'
  refine ru_istore (lv1 := [(0, .ref 1300), (1, .ref 0), (2, .ref 26), (3, .ref 59), (4, .int (nI i)), (5, .int k)]) dL_law_1045 rfl (Nat.le_of_ble_eq_true rfl) rfl ?_
  refine mK_aload_n dL_law_1047 rfl rfl (.tail _ (.tail _ (.head _))) ?_
  refine mK_aload_n dL_law_1048 rfl rfl (.head _) ?_
  refine mK_iload dL_law_1049 rfl (.tail _ (.tail _ (.tail _ (.tail _ (.head _))))) ?_
  refine mK_iconst dL_law_1051 rfl qic_1 ?_
  refine mK_iadd dL_law_1052 rfl ?_
  refine mK_sld dL_law_1053 rfl (scr_in1 hi hL) ?_
  show mK Γ M_L_law (d + 38) Q n0 (bc - 1) (bs - 6) 1054 [(0, .ref 1300), (1, .ref 0), (2, .ref 26), (3, .ref 59), (4, .int (nI i)), (5, .int k)] [.int (sA1 Γ i), .ref 26] 60 mSH τ'
  refine mK_invV (J := M_X9_frees) (k := 1) (as := [.int (sA1 Γ i)]) (st := []) (c1 := 0) (s1 := 0) (b := 26) dL_law_1054 rfl jw_X9_frees jn_X9_frees rfl (Nat.le_of_ble_eq_true rfl) (by omega) (by omega) rfl kw_1559 kw_1560 kw_1561 (Nat.le_of_ble_eq_true rfl) (Nat.le_of_ble_eq_true rfl) rfl ?_
  refine mCall_up (d := d + 36) (by omega) (m _ (fun ρ hρ => ?_))
  obtain ⟨hR, hk, h59⟩ := hρ
  show mK Γ M_L_law (d + 38) Q n0 (bc - 1 - 0) (bs - 6 - 0) 1057 [(0, .ref 1300), (1, .ref 0), (2, .ref 26), (3, .ref 59), (4, .int (nI i)), (5, .int k)] [.int v] 60 mSH ρ
  refine ru_istore (lv1 := [(0, .ref 1300), (1, .ref 0), (2, .ref 26), (3, .ref 59), (4, .int (nI i)), (5, .int k), (6, .int v)]) dL_law_1057 rfl (Nat.le_of_ble_eq_true rfl) rfl ?_
  refine mK_aload_n dL_law_1059 rfl rfl (.tail _ (.tail _ (.head _))) ?_
  refine mK_invV (J := M_X9_thrown) (k := 0) (as := []) (st := []) (c1 := 0) (s1 := 0) (b := 26) dL_law_1060 rfl jw_X9_thrown jn_X9_thrown rfl (Nat.le_of_ble_eq_true rfl) (by omega) (by omega) rfl kw_1200 kw_1201 kw_1202 (Nat.le_of_ble_eq_true rfl) (Nat.le_of_ble_eq_true rfl) rfl ?_
  refine S_X9_thrown_26 (d := d + 36) ?_
  show mK Γ M_L_law (d + 38) Q n0 (bc - 1 - 0 - 0) (bs - 6 - 0 - 0) 1063 [(0, .ref 1300), (1, .ref 0), (2, .ref 26), (3, .ref 59), (4, .int (nI i)), (5, .int k), (6, .int v)] [.int (ρ.1 26 0)] 60 mSH ρ
  refine mK_iload dL_law_1063 rfl (.tail _ (.tail _ (.tail _ (.tail _ (.tail _ (.head _)))))) ?_
  refine mK_icmp_eq (tgt := 1070) dL_law_1065 rfl (by decide) (fun _ => ?_) (fun q => absurd hk q)
  refine mK_iload dL_law_1070 rfl (.tail _ (.tail _ (.tail _ (.tail _ (.tail _ (.head _)))))) ?_
  have fin : mK Γ M_L_law (d + 38) Q n0 (bc - 1 - 0 - 0) (bs - 6 - 0 - 0) 1087 [(0, .ref 1300), (1, .ref 0), (2, .ref 26), (3, .ref 59), (4, .int (nI i)), (5, .int k), (6, .int v)] [] 60 mSH ρ := by
    refine mK_goto (tgt := 1214) dL_law_1087 (by decide) ?_
    exact ru_pick [0, 1, 2, 3, 4] rfl (mK_bud (by omega) (by omega) (K ρ hR))
  refine ru_if_ne (tgt := 1087) dL_law_1072 rfl (by decide) (fun _ => fin) (fun q => ?_)
  have hx : ρ.2.1 59 0 = v.toInt64 := by rw [h59]; exact e q
  refine mK_aload_n dL_law_1075 rfl rfl (.tail _ (.tail _ (.tail _ (.head _)))) ?_
  refine mK_iconst dL_law_1076 rfl qic_0 ?_
  refine ru_lald (j := 59) (n := 1) dL_law_1077 rfl rfl vin01 ?_
  show mK Γ M_L_law (d + 38) Q n0 (bc - 1 - 0 - 0) (bs - 6 - 0 - 0) 1078 [(0, .ref 1300), (1, .ref 0), (2, .ref 26), (3, .ref 59), (4, .int (nI i)), (5, .int k), (6, .int v)] [.long (ρ.2.1 59 0)] 60 mSH ρ
  refine mK_iload dL_law_1078 rfl (.tail _ (.tail _ (.tail _ (.tail _ (.tail _ (.tail _ (.head _))))))) ?_
  refine mK_i2l dL_law_1080 rfl ?_
  exact ru_lif_eq (tgt := 1087) dL_law_1081 rfl dL_law_1082 rfl (by decide) (fun _ => fin) (fun q => absurd hx q)
set_option maxRecDepth 20000 in
theorem LC_byteAt {Γ : Nat × (Nat → Int32)} {d : Nat} {Q : mQ} {n0 bc bs i : Nat} {σ : mS} (h : Rel σ) (hL : Γ.1 ≤ 3072) (hi : i + 6 ≤ Γ.1) (hb : 130 ≤ bc) (hs : 700 ≤ bs) (K : ∀ ρ, Rel ρ → mK Γ M_L_law (d + 38) Q n0 (bc - 130) (bs - 700) 1214 (lLL i) [] 60 mSH ρ) : mK Γ M_L_law (d + 38) Q n0 bc bs 1103 (lLL i) [] 60 mSH σ := by
  refine mK_aload_n dL_law_1103 rfl rfl (.tail _ (.head _)) ?_
  refine mK_aload_n dL_law_1104 rfl rfl (.head _) ?_
  refine mK_iload dL_law_1105 rfl (.tail _ (.tail _ (.tail _ (.tail _ (.head _))))) ?_
  refine mK_iconst dL_law_1107 rfl qic_1 ?_
  refine mK_iadd dL_law_1108 rfl ?_
  refine mK_sld dL_law_1109 rfl (scr_in1 hi hL) ?_
  show mK Γ M_L_law (d + 38) Q n0 bc bs 1110 [(0, .ref 1300), (1, .ref 0), (2, .ref 26), (3, .ref 59), (4, .int (nI i))] [.int (sA1 Γ i), .ref 0] 60 mSH σ
  refine mK_aload_n dL_law_1110 rfl rfl (.tail _ (.tail _ (.tail _ (.head _)))) ?_
  refine mK_invSH (J := M_L_byteAt) (k := 3) (as := [.ref 0, .int (sA1 Γ i), .ref 59]) (st := []) (c1 := 1) (s1 := 6) dL_law_1111 rfl jv_L_byteAt jn_L_byteAt rfl (Nat.le_of_ble_eq_true rfl) (by omega) (by omega) rfl (by decide) kw_1059 kw_1060 ?_
  refine W_byteAt (d := d + 36) (sA1 Γ i) (mCall_mono (P_byteAt (d := d + 24) h (sA1 Γ i)) (fun o M th τ hq => wr_end hq (fun k v τ' e m => ?_)))
  show mK Γ M_L_law (d + 38) Q n0 (bc - 1) (bs - 6) 1114 [(0, .ref 1300), (1, .ref 0), (2, .ref 26), (3, .ref 59), (4, .int (nI i))] [.int k] 60 mSH τ'
  refine ru_istore (lv1 := [(0, .ref 1300), (1, .ref 0), (2, .ref 26), (3, .ref 59), (4, .int (nI i)), (5, .int k)]) dL_law_1114 rfl (Nat.le_of_ble_eq_true rfl) rfl ?_
  refine mK_aload_n dL_law_1116 rfl rfl (.tail _ (.tail _ (.head _))) ?_
  refine mK_aload_n dL_law_1117 rfl rfl (.head _) ?_
  refine mK_iload dL_law_1118 rfl (.tail _ (.tail _ (.tail _ (.tail _ (.head _))))) ?_
  refine mK_iconst dL_law_1120 rfl qic_1 ?_
  refine mK_iadd dL_law_1121 rfl ?_
  refine mK_sld dL_law_1122 rfl (scr_in1 hi hL) ?_
  show mK Γ M_L_law (d + 38) Q n0 (bc - 1) (bs - 6) 1123 [(0, .ref 1300), (1, .ref 0), (2, .ref 26), (3, .ref 59), (4, .int (nI i)), (5, .int k)] [.int (sA1 Γ i), .ref 26] 60 mSH τ'
  refine mK_invV (J := M_X9_byteAt) (k := 1) (as := [.int (sA1 Γ i)]) (st := []) (c1 := 0) (s1 := 0) (b := 26) dL_law_1123 rfl jw_X9_byteAt jn_X9_byteAt rfl (Nat.le_of_ble_eq_true rfl) (by omega) (by omega) rfl kw_1584 kw_1585 kw_1586 (Nat.le_of_ble_eq_true rfl) (Nat.le_of_ble_eq_true rfl) rfl ?_
  refine mCall_up (d := d + 36) (by omega) (m _ (fun ρ hρ => ?_))
  obtain ⟨hR, hk, h59⟩ := hρ
  show mK Γ M_L_law (d + 38) Q n0 (bc - 1 - 0) (bs - 6 - 0) 1126 [(0, .ref 1300), (1, .ref 0), (2, .ref 26), (3, .ref 59), (4, .int (nI i)), (5, .int k)] [.int v] 60 mSH ρ
  refine ru_istore (lv1 := [(0, .ref 1300), (1, .ref 0), (2, .ref 26), (3, .ref 59), (4, .int (nI i)), (5, .int k), (6, .int v)]) dL_law_1126 rfl (Nat.le_of_ble_eq_true rfl) rfl ?_
  refine mK_aload_n dL_law_1128 rfl rfl (.tail _ (.tail _ (.head _))) ?_
  refine mK_invV (J := M_X9_thrown) (k := 0) (as := []) (st := []) (c1 := 0) (s1 := 0) (b := 26) dL_law_1129 rfl jw_X9_thrown jn_X9_thrown rfl (Nat.le_of_ble_eq_true rfl) (by omega) (by omega) rfl kw_1200 kw_1201 kw_1202 (Nat.le_of_ble_eq_true rfl) (Nat.le_of_ble_eq_true rfl) rfl ?_
  refine S_X9_thrown_26 (d := d + 36) ?_
  show mK Γ M_L_law (d + 38) Q n0 (bc - 1 - 0 - 0) (bs - 6 - 0 - 0) 1132 [(0, .ref 1300), (1, .ref 0), (2, .ref 26), (3, .ref 59), (4, .int (nI i)), (5, .int k), (6, .int v)] [.int (ρ.1 26 0)] 60 mSH ρ
  refine mK_iload dL_law_1132 rfl (.tail _ (.tail _ (.tail _ (.tail _ (.tail _ (.head _)))))) ?_
  refine mK_icmp_eq (tgt := 1139) dL_law_1134 rfl (by decide) (fun _ => ?_) (fun q => absurd hk q)
  refine mK_iload dL_law_1139 rfl (.tail _ (.tail _ (.tail _ (.tail _ (.tail _ (.head _)))))) ?_
  have fin : mK Γ M_L_law (d + 38) Q n0 (bc - 1 - 0 - 0) (bs - 6 - 0 - 0) 1156 [(0, .ref 1300), (1, .ref 0), (2, .ref 26), (3, .ref 59), (4, .int (nI i)), (5, .int k), (6, .int v)] [] 60 mSH ρ := by
    refine mK_goto (tgt := 1214) dL_law_1156 (by decide) ?_
    exact ru_pick [0, 1, 2, 3, 4] rfl (mK_bud (by omega) (by omega) (K ρ hR))
  refine ru_if_ne (tgt := 1156) dL_law_1141 rfl (by decide) (fun _ => fin) (fun q => ?_)
  have hx : ρ.2.1 59 0 = v.toInt64 := by rw [h59]; exact e q
  refine mK_aload_n dL_law_1144 rfl rfl (.tail _ (.tail _ (.tail _ (.head _)))) ?_
  refine mK_iconst dL_law_1145 rfl qic_0 ?_
  refine ru_lald (j := 59) (n := 1) dL_law_1146 rfl rfl vin01 ?_
  show mK Γ M_L_law (d + 38) Q n0 (bc - 1 - 0 - 0) (bs - 6 - 0 - 0) 1147 [(0, .ref 1300), (1, .ref 0), (2, .ref 26), (3, .ref 59), (4, .int (nI i)), (5, .int k), (6, .int v)] [.long (ρ.2.1 59 0)] 60 mSH ρ
  refine mK_iload dL_law_1147 rfl (.tail _ (.tail _ (.tail _ (.tail _ (.tail _ (.tail _ (.head _))))))) ?_
  refine mK_i2l dL_law_1149 rfl ?_
  exact ru_lif_eq (tgt := 1156) dL_law_1150 rfl dL_law_1151 rfl (by decide) (fun _ => fin) (fun q => absurd hx q)
set_option maxRecDepth 20000 in
theorem LC_sheet {Γ : Nat × (Nat → Int32)} {d : Nat} {Q : mQ} {n0 bc bs i : Nat} {σ : mS} (h : Rel σ) (hL : Γ.1 ≤ 3072) (hi : i + 6 ≤ Γ.1) (hb : 130 ≤ bc) (hs : 700 ≤ bs) (K : ∀ ρ, Rel ρ → mK Γ M_L_law (d + 38) Q n0 (bc - 130) (bs - 700) 1214 (lLL i) [] 60 mSH ρ) : mK Γ M_L_law (d + 38) Q n0 bc bs 1090 (lLL i) [] 60 mSH σ := by
  refine mK_aload_n dL_law_1090 rfl rfl (.tail _ (.head _)) ?_
  refine mK_invV (J := M_X7_sheet) (k := 0) (as := []) (st := []) (c1 := 0) (s1 := 0) (b := 0) dL_law_1091 rfl jw_X7_sheet jn_X7_sheet rfl (Nat.le_of_ble_eq_true rfl) (by omega) (by omega) rfl kw_718 kw_719 kw_720 (Nat.le_of_ble_eq_true rfl) (Nat.le_of_ble_eq_true rfl) rfl ?_
  refine mCall_up (d := d + 36) (by omega) (mCall_mono (PN_sheet (d := d + 24) h) (fun o M th τ hq => ?_))
  obtain ⟨rfl, rfl, v, rfl, m⟩ := PN_of hq
  show mK Γ M_L_law (d + 38) Q n0 (bc - 0) (bs - 0) 1094 [(0, .ref 1300), (1, .ref 0), (2, .ref 26), (3, .ref 59), (4, .int (nI i))] [.int v] 60 mSH τ
  refine mK_aload_n dL_law_1094 rfl rfl (.tail _ (.tail _ (.head _))) ?_
  refine mK_invV (J := M_X9_sheet) (k := 0) (as := []) (st := [.int v]) (c1 := 0) (s1 := 0) (b := 26) dL_law_1095 rfl jw_X9_sheet jn_X9_sheet rfl (Nat.le_of_ble_eq_true rfl) (by omega) (by omega) rfl kw_1571 kw_1572 kw_1573 (Nat.le_of_ble_eq_true rfl) (Nat.le_of_ble_eq_true rfl) rfl ?_
  refine mCall_up (d := d + 36) (by omega) (m τ (e59_r τ) _ (fun ρ hρ => ?_))
  have hR : Rel ρ := hρ.1
  show mK Γ M_L_law (d + 38) Q n0 (bc - 0 - 0) (bs - 0 - 0) 1098 [(0, .ref 1300), (1, .ref 0), (2, .ref 26), (3, .ref 59), (4, .int (nI i))] [.int v, .int v] 60 mSH ρ
  exact mK_icmp_eq (tgt := 1214) dL_law_1098 rfl (by decide) (fun _ => ru_pick [0, 1, 2, 3, 4] rfl (mK_bud (by omega) (by omega) (K ρ hR))) (fun q => absurd rfl q)
set_option maxRecDepth 20000 in
theorem LC_share {Γ : Nat × (Nat → Int32)} {d : Nat} {Q : mQ} {n0 bc bs i : Nat} {σ : mS} (h : Rel σ) (hL : Γ.1 ≤ 3072) (hi : i + 6 ≤ Γ.1) (hb : 130 ≤ bc) (hs : 700 ≤ bs) (K : ∀ ρ, Rel ρ → mK Γ M_L_law (d + 38) Q n0 (bc - 130) (bs - 700) 1214 (lLL i) [] 60 mSH ρ) : mK Γ M_L_law (d + 38) Q n0 bc bs 1159 (lLL i) [] 60 mSH σ := by
  refine mK_aload_n dL_law_1159 rfl rfl (.tail _ (.head _)) ?_
  refine mK_invV (J := M_X7_share) (k := 0) (as := []) (st := []) (c1 := 0) (s1 := 0) (b := 0) dL_law_1160 rfl jw_X7_share jn_X7_share rfl (Nat.le_of_ble_eq_true rfl) (by omega) (by omega) rfl kw_747 kw_748 kw_749 (Nat.le_of_ble_eq_true rfl) (Nat.le_of_ble_eq_true rfl) rfl ?_
  refine mCall_up (d := d + 36) (by omega) (mCall_mono (P_share (d := d + 24) h) (fun o M th τ hq => ?_))
  obtain ⟨rfl, rfl, _, ⟨v, rfl, hvv⟩, rfl, m⟩ := hq
  show mK Γ M_L_law (d + 38) Q n0 (bc - 0) (bs - 0) 1163 [(0, .ref 1300), (1, .ref 0), (2, .ref 26), (3, .ref 59), (4, .int (nI i))] [.double v] 60 mSH τ
  refine ru_dstore (lv1 := [(0, .ref 1300), (1, .ref 0), (2, .ref 26), (3, .ref 59), (4, .int (nI i)), (5, .double v)]) dL_law_1163 rfl (Nat.le_of_ble_eq_true rfl) rfl ?_
  refine mK_aload_n dL_law_1165 rfl rfl (.tail _ (.tail _ (.head _))) ?_
  refine mK_invV (J := M_X9_share) (k := 0) (as := []) (st := []) (c1 := 0) (s1 := 0) (b := 26) dL_law_1166 rfl jw_X9_share jn_X9_share rfl (Nat.le_of_ble_eq_true rfl) (by omega) (by omega) rfl kw_1588 kw_1589 kw_1590 (Nat.le_of_ble_eq_true rfl) (Nat.le_of_ble_eq_true rfl) rfl ?_
  refine mCall_up (d := d + 36) (by omega) (m τ (e59_r τ) _ (fun ρ hρ => ?_))
  have hR : Rel ρ := hρ.1
  show mK Γ M_L_law (d + 38) Q n0 (bc - 0 - 0) (bs - 0 - 0) 1169 [(0, .ref 1300), (1, .ref 0), (2, .ref 26), (3, .ref 59), (4, .int (nI i)), (5, .double v)] [.double v] 60 mSH ρ
  refine ru_dstore (lv1 := [(0, .ref 1300), (1, .ref 0), (2, .ref 26), (3, .ref 59), (4, .int (nI i)), (5, .double v), (7, .double v)]) dL_law_1169 rfl (Nat.le_of_ble_eq_true rfl) rfl ?_
  refine mK_dload dL_law_1171 rfl (.tail _ (.tail _ (.tail _ (.tail _ (.tail _ (.head _)))))) ?_
  refine mK_dload dL_law_1173 rfl (.tail _ (.tail _ (.tail _ (.tail _ (.tail _ (.tail _ (.head _))))))) ?_
  refine mK_dcmp dL_law_1175 rfl ?_
  rw [hvv]
  refine mK_if_eq (tgt := 1197) dL_law_1176 rfl (by decide) (fun _ => ?_) (fun q => absurd (by decide) q)
  refine mK_goto (tgt := 1214) dL_law_1197 (by decide) ?_
  exact ru_pick [0, 1, 2, 3, 4] rfl (mK_bud (by omega) (by omega) (K ρ hR))
set_option maxRecDepth 20000 in
theorem LC_digest {Γ : Nat × (Nat → Int32)} {d : Nat} {Q : mQ} {n0 bc bs i : Nat} {σ : mS} (h : Rel σ) (hL : Γ.1 ≤ 3072) (hi : i + 6 ≤ Γ.1) (hb : 130 ≤ bc) (hs : 700 ≤ bs) (K : ∀ ρ, Rel ρ → mK Γ M_L_law (d + 38) Q n0 (bc - 130) (bs - 700) 1214 (lLL i) [] 60 mSH ρ) : mK Γ M_L_law (d + 38) Q n0 bc bs 1200 (lLL i) [] 60 mSH σ := by
  refine mK_aload_n dL_law_1200 rfl rfl (.tail _ (.head _)) ?_
  refine mK_invV (J := M_X7_digest) (k := 0) (as := []) (st := []) (c1 := 0) (s1 := 0) (b := 0) dL_law_1201 rfl jw_X7_digest jn_X7_digest rfl (Nat.le_of_ble_eq_true rfl) (by omega) (by omega) rfl kw_769 kw_770 kw_771 (Nat.le_of_ble_eq_true rfl) (Nat.le_of_ble_eq_true rfl) rfl ?_
  refine mCall_up (d := d + 36) (by omega) (mCall_mono (P_digest (d := d + 24) h) (fun o M th τ hq => ?_))
  obtain ⟨rfl, rfl, _, ⟨v, rfl⟩, rfl, m⟩ := hq
  show mK Γ M_L_law (d + 38) Q n0 (bc - 0) (bs - 0) 1204 [(0, .ref 1300), (1, .ref 0), (2, .ref 26), (3, .ref 59), (4, .int (nI i))] [.long v] 60 mSH τ
  refine mK_aload_n dL_law_1204 rfl rfl (.tail _ (.tail _ (.head _))) ?_
  refine mK_invV (J := M_X9_digest) (k := 0) (as := []) (st := [.long v]) (c1 := 120) (s1 := 636) (b := 26) dL_law_1205 rfl jw_X9_digest jn_X9_digest rfl (Nat.le_of_ble_eq_true rfl) (by omega) (by omega) rfl kw_1592 kw_1593 kw_1594 (Nat.le_of_ble_eq_true rfl) (Nat.le_of_ble_eq_true rfl) rfl ?_
  refine mCall_up (d := d + 36) (by omega) (m τ (e59_r τ) _ (fun ρ hρ => ?_))
  have hR : Rel ρ := hρ.1
  show mK Γ M_L_law (d + 38) Q n0 (bc - 0 - 120) (bs - 0 - 636) 1208 [(0, .ref 1300), (1, .ref 0), (2, .ref 26), (3, .ref 59), (4, .int (nI i))] [.long v, .long v] 60 mSH ρ
  exact ru_lif_eq (tgt := 1214) dL_law_1208 rfl dL_law_1209 rfl (by decide) (fun _ => ru_pick [0, 1, 2, 3, 4] rfl (mK_bud (by omega) (by omega) (K ρ hR))) (fun q => absurd rfl q)
