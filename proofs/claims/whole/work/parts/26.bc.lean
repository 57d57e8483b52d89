theorem mK_lushr {Γ : Nat × (Nat → Int32)} {I : mM} {d : Nat} {Q : mQ} {n0 bc bs pc : Nat} {lv : List (Nat × Value)} {st : List Value} {N : Nat} {sh : mH} {σ : mS} {x : Int64} {y : Int32} {pc1 : Nat} (hd : decode I.2.1 pc = .ok (.lushr, 1)) (hp : pc + 1 = pc1)  (k : mK Γ I d Q n0 bc bs (pc1) lv (.long (x.toUInt64 >>> (y.toInt64.toUInt64 &&& Int64.toUInt64 63)).toInt64 :: st) N sh σ) : mK Γ I d Q n0 bc bs (pc) lv (.int y :: .long x :: st) N sh σ := by
  subst hp
  intro p l e R s m args below meth c H locs cells slots ls D cd ad ad0 aC A mc ms hX hY hS hl hag hb hc
  exact lv_lushr hX.1.1 hX.1.2.1 hd rfl (k p l e R s m args below meth c H locs cells slots ls D cd ad ad0 aC A mc ms hX hY hS hl hag hb (hc.pop.pop.push mOk_l))
abbrev M_J13_bitCount_95d88 : mM := (yJ13_bitCount_95d88, cJ13_bitCount_95d88, 2, (Option.some FieldType.int), [])
theorem qbi_127 : (Int8.ofInt 127).toInt32 = 127 := by decide
def kwLx0 : List Cond := [Cond.constantLong "java/lang/Long" (314 : Nat) (6148914691236517205 : Int64), Cond.constantLong "java/lang/Long" (316 : Nat) (3689348814741910323 : Int64), Cond.constantLong "java/lang/Long" (318 : Nat) (1085102592571150095 : Int64)]
set_option maxRecDepth 20000 in
theorem kwGx0 : ∀ w ∈ kwLx0, w ∈ mBig := mBig_of (goodIn_r _ [762, 763, 764] rfl (by decide +kernel)) (by decide +kernel)
theorem kw_762 : Cond.constantLong "java/lang/Long" (314 : Nat) (6148914691236517205 : Int64) ∈ mBig := kwGx0 _ (List.mem_of_getElem? (i := 0) rfl)
theorem kw_763 : Cond.constantLong "java/lang/Long" (316 : Nat) (3689348814741910323 : Int64) ∈ mBig := kwGx0 _ (List.mem_of_getElem? (i := 1) rfl)
theorem kw_764 : Cond.constantLong "java/lang/Long" (318 : Nat) (1085102592571150095 : Int64) ∈ mBig := kwGx0 _ (List.mem_of_getElem? (i := 2) rfl)
theorem jw_J13_bitCount_95d88 : mJw M_J13_bitCount_95d88 := ⟨kw_761, kw_109, rfl, ⟨by decide, by decide⟩, by decide⟩
theorem jn_J13_bitCount_95d88 : mJn M_J13_bitCount_95d88 1 := by unfold mJn; decide +kernel
theorem dJ13_bitCount_95d88_0 : decode cJ13_bitCount_95d88 0 = .ok (.lload_n 0, 1) := by decide +kernel
theorem dJ13_bitCount_95d88_1 : decode cJ13_bitCount_95d88 1 = .ok (.lload_n 0, 1) := by decide +kernel
theorem dJ13_bitCount_95d88_2 : decode cJ13_bitCount_95d88 2 = .ok (.iconst 1, 1) := by decide +kernel
theorem dJ13_bitCount_95d88_3 : decode cJ13_bitCount_95d88 3 = .ok (.lushr, 1) := by decide +kernel
theorem dJ13_bitCount_95d88_4 : decode cJ13_bitCount_95d88 4 = .ok (.ldc2_w 314, 3) := by decide +kernel
theorem dJ13_bitCount_95d88_7 : decode cJ13_bitCount_95d88 7 = .ok (.land, 1) := by decide +kernel
theorem dJ13_bitCount_95d88_8 : decode cJ13_bitCount_95d88 8 = .ok (.lsub, 1) := by decide +kernel
theorem dJ13_bitCount_95d88_9 : decode cJ13_bitCount_95d88 9 = .ok (.lstore_n 0, 1) := by decide +kernel
theorem dJ13_bitCount_95d88_10 : decode cJ13_bitCount_95d88 10 = .ok (.lload_n 0, 1) := by decide +kernel
theorem dJ13_bitCount_95d88_11 : decode cJ13_bitCount_95d88 11 = .ok (.ldc2_w 316, 3) := by decide +kernel
theorem dJ13_bitCount_95d88_14 : decode cJ13_bitCount_95d88 14 = .ok (.land, 1) := by decide +kernel
theorem dJ13_bitCount_95d88_15 : decode cJ13_bitCount_95d88 15 = .ok (.lload_n 0, 1) := by decide +kernel
theorem dJ13_bitCount_95d88_16 : decode cJ13_bitCount_95d88 16 = .ok (.iconst 2, 1) := by decide +kernel
theorem dJ13_bitCount_95d88_17 : decode cJ13_bitCount_95d88 17 = .ok (.lushr, 1) := by decide +kernel
theorem dJ13_bitCount_95d88_18 : decode cJ13_bitCount_95d88 18 = .ok (.ldc2_w 316, 3) := by decide +kernel
theorem dJ13_bitCount_95d88_21 : decode cJ13_bitCount_95d88 21 = .ok (.land, 1) := by decide +kernel
theorem dJ13_bitCount_95d88_22 : decode cJ13_bitCount_95d88 22 = .ok (.ladd, 1) := by decide +kernel
theorem dJ13_bitCount_95d88_23 : decode cJ13_bitCount_95d88 23 = .ok (.lstore_n 0, 1) := by decide +kernel
theorem dJ13_bitCount_95d88_24 : decode cJ13_bitCount_95d88 24 = .ok (.lload_n 0, 1) := by decide +kernel
theorem dJ13_bitCount_95d88_25 : decode cJ13_bitCount_95d88 25 = .ok (.lload_n 0, 1) := by decide +kernel
theorem dJ13_bitCount_95d88_26 : decode cJ13_bitCount_95d88 26 = .ok (.iconst 4, 1) := by decide +kernel
theorem dJ13_bitCount_95d88_27 : decode cJ13_bitCount_95d88 27 = .ok (.lushr, 1) := by decide +kernel
theorem dJ13_bitCount_95d88_28 : decode cJ13_bitCount_95d88 28 = .ok (.ladd, 1) := by decide +kernel
theorem dJ13_bitCount_95d88_29 : decode cJ13_bitCount_95d88 29 = .ok (.ldc2_w 318, 3) := by decide +kernel
theorem dJ13_bitCount_95d88_32 : decode cJ13_bitCount_95d88 32 = .ok (.land, 1) := by decide +kernel
theorem dJ13_bitCount_95d88_33 : decode cJ13_bitCount_95d88 33 = .ok (.lstore_n 0, 1) := by decide +kernel
theorem dJ13_bitCount_95d88_34 : decode cJ13_bitCount_95d88 34 = .ok (.lload_n 0, 1) := by decide +kernel
theorem dJ13_bitCount_95d88_35 : decode cJ13_bitCount_95d88 35 = .ok (.lload_n 0, 1) := by decide +kernel
theorem dJ13_bitCount_95d88_36 : decode cJ13_bitCount_95d88 36 = .ok (.bipush 8, 2) := by decide +kernel
theorem dJ13_bitCount_95d88_38 : decode cJ13_bitCount_95d88 38 = .ok (.lushr, 1) := by decide +kernel
theorem dJ13_bitCount_95d88_39 : decode cJ13_bitCount_95d88 39 = .ok (.ladd, 1) := by decide +kernel
theorem dJ13_bitCount_95d88_40 : decode cJ13_bitCount_95d88 40 = .ok (.lstore_n 0, 1) := by decide +kernel
theorem dJ13_bitCount_95d88_41 : decode cJ13_bitCount_95d88 41 = .ok (.lload_n 0, 1) := by decide +kernel
theorem dJ13_bitCount_95d88_42 : decode cJ13_bitCount_95d88 42 = .ok (.lload_n 0, 1) := by decide +kernel
theorem dJ13_bitCount_95d88_43 : decode cJ13_bitCount_95d88 43 = .ok (.bipush 16, 2) := by decide +kernel
theorem dJ13_bitCount_95d88_45 : decode cJ13_bitCount_95d88 45 = .ok (.lushr, 1) := by decide +kernel
theorem dJ13_bitCount_95d88_46 : decode cJ13_bitCount_95d88 46 = .ok (.ladd, 1) := by decide +kernel
theorem dJ13_bitCount_95d88_47 : decode cJ13_bitCount_95d88 47 = .ok (.lstore_n 0, 1) := by decide +kernel
theorem dJ13_bitCount_95d88_48 : decode cJ13_bitCount_95d88 48 = .ok (.lload_n 0, 1) := by decide +kernel
theorem dJ13_bitCount_95d88_49 : decode cJ13_bitCount_95d88 49 = .ok (.lload_n 0, 1) := by decide +kernel
theorem dJ13_bitCount_95d88_50 : decode cJ13_bitCount_95d88 50 = .ok (.bipush 32, 2) := by decide +kernel
theorem dJ13_bitCount_95d88_52 : decode cJ13_bitCount_95d88 52 = .ok (.lushr, 1) := by decide +kernel
theorem dJ13_bitCount_95d88_53 : decode cJ13_bitCount_95d88 53 = .ok (.ladd, 1) := by decide +kernel
theorem dJ13_bitCount_95d88_54 : decode cJ13_bitCount_95d88 54 = .ok (.lstore_n 0, 1) := by decide +kernel
theorem dJ13_bitCount_95d88_55 : decode cJ13_bitCount_95d88 55 = .ok (.lload_n 0, 1) := by decide +kernel
theorem dJ13_bitCount_95d88_56 : decode cJ13_bitCount_95d88 56 = .ok (.l2i, 1) := by decide +kernel
theorem dJ13_bitCount_95d88_57 : decode cJ13_bitCount_95d88 57 = .ok (.bipush 127, 2) := by decide +kernel
theorem dJ13_bitCount_95d88_59 : decode cJ13_bitCount_95d88 59 = .ok (.iand, 1) := by decide +kernel
theorem dJ13_bitCount_95d88_60 : decode cJ13_bitCount_95d88 60 = .ok (.ireturn, 1) := by decide +kernel
set_option maxRecDepth 20000 in
theorem E_J13_bitCount_95d88 {Γ : Nat × (Nat → Int32)} {d : Nat} {Q : mQ} {σ : mS} (a1 : Int64) (h : mK Γ M_J13_bitCount_95d88 (d + 1) Q 60 0 0 10 [(0, .long (a1 - ((Int64.toUInt64 a1 >>> (Int64.toUInt64 (Int32.toInt64 1) &&& Int64.toUInt64 63)).toInt64 &&& 6148914691236517205)))] [] 60 mSH σ) : mCall Γ M_J13_bitCount_95d88 (d + 1) 0 0 [.long a1] 60 mSH σ Q := by
  refine mCall_of rfl (by decide) (Nat.le_of_ble_eq_true rfl) (mOkC mOk_l mOkN) ?_
  show mK Γ M_J13_bitCount_95d88 (d + 1) Q 60 0 0 0 [(0, .long a1)] [] 60 mSH σ
  refine mK_lload_n dJ13_bitCount_95d88_0 rfl rfl (.head _) ?_
  refine mK_lload_n dJ13_bitCount_95d88_1 rfl rfl (.head _) ?_
  refine mK_iconst dJ13_bitCount_95d88_2 rfl qic_1 ?_
  refine mK_lushr dJ13_bitCount_95d88_3 rfl ?_
  refine mK_ldc2 dJ13_bitCount_95d88_4 rfl kw_762 ?_
  refine mK_land dJ13_bitCount_95d88_7 rfl ?_
  refine mK_lsub dJ13_bitCount_95d88_8 rfl ?_
  refine ru_lstore_n (lv1 := [(0, .long (a1 - ((Int64.toUInt64 a1 >>> (Int64.toUInt64 (Int32.toInt64 1) &&& Int64.toUInt64 63)).toInt64 &&& 6148914691236517205)))]) dJ13_bitCount_95d88_9 rfl rfl (by decide) rfl ?_
  exact h
set_option maxRecDepth 20000 in
theorem T_J13_bitCount_95d88_10 {Γ : Nat × (Nat → Int32)} {d n0 bc bs : Nat} {Q : mQ} {σ : mS} (x0 : Int64) (h : mK Γ M_J13_bitCount_95d88 (d + 1) Q n0 bc bs 24 [(0, .long ((x0 &&& 3689348814741910323) + ((Int64.toUInt64 x0 >>> (Int64.toUInt64 (Int32.toInt64 2) &&& Int64.toUInt64 63)).toInt64 &&& 3689348814741910323)))] [] 60 mSH σ) : mK Γ M_J13_bitCount_95d88 (d + 1) Q n0 bc bs 10 [(0, .long x0)] [] 60 mSH σ := by
  refine mK_lload_n dJ13_bitCount_95d88_10 rfl rfl (.head _) ?_
  refine mK_ldc2 dJ13_bitCount_95d88_11 rfl kw_763 ?_
  refine mK_land dJ13_bitCount_95d88_14 rfl ?_
  refine mK_lload_n dJ13_bitCount_95d88_15 rfl rfl (.head _) ?_
  refine mK_iconst dJ13_bitCount_95d88_16 rfl qic_2 ?_
  refine mK_lushr dJ13_bitCount_95d88_17 rfl ?_
  refine mK_ldc2 dJ13_bitCount_95d88_18 rfl kw_763 ?_
  refine mK_land dJ13_bitCount_95d88_21 rfl ?_
  refine mK_ladd dJ13_bitCount_95d88_22 rfl ?_
  refine ru_lstore_n (lv1 := [(0, .long ((x0 &&& 3689348814741910323) + ((Int64.toUInt64 x0 >>> (Int64.toUInt64 (Int32.toInt64 2) &&& Int64.toUInt64 63)).toInt64 &&& 3689348814741910323)))]) dJ13_bitCount_95d88_23 rfl rfl (by decide) rfl ?_
  exact h
set_option maxRecDepth 20000 in
theorem T_J13_bitCount_95d88_24 {Γ : Nat × (Nat → Int32)} {d n0 bc bs : Nat} {Q : mQ} {σ : mS} (x0 : Int64) (h : mK Γ M_J13_bitCount_95d88 (d + 1) Q n0 bc bs 34 [(0, .long ((x0 + (Int64.toUInt64 x0 >>> (Int64.toUInt64 (Int32.toInt64 4) &&& Int64.toUInt64 63)).toInt64) &&& 1085102592571150095))] [] 60 mSH σ) : mK Γ M_J13_bitCount_95d88 (d + 1) Q n0 bc bs 24 [(0, .long x0)] [] 60 mSH σ := by
  refine mK_lload_n dJ13_bitCount_95d88_24 rfl rfl (.head _) ?_
  refine mK_lload_n dJ13_bitCount_95d88_25 rfl rfl (.head _) ?_
  refine mK_iconst dJ13_bitCount_95d88_26 rfl qic_4 ?_
  refine mK_lushr dJ13_bitCount_95d88_27 rfl ?_
  refine mK_ladd dJ13_bitCount_95d88_28 rfl ?_
  refine mK_ldc2 dJ13_bitCount_95d88_29 rfl kw_764 ?_
  refine mK_land dJ13_bitCount_95d88_32 rfl ?_
  refine ru_lstore_n (lv1 := [(0, .long ((x0 + (Int64.toUInt64 x0 >>> (Int64.toUInt64 (Int32.toInt64 4) &&& Int64.toUInt64 63)).toInt64) &&& 1085102592571150095))]) dJ13_bitCount_95d88_33 rfl rfl (by decide) rfl ?_
  exact h
set_option maxRecDepth 20000 in
theorem T_J13_bitCount_95d88_34 {Γ : Nat × (Nat → Int32)} {d n0 bc bs : Nat} {Q : mQ} {σ : mS} (x0 : Int64) (h : mK Γ M_J13_bitCount_95d88 (d + 1) Q n0 bc bs 41 [(0, .long (x0 + (Int64.toUInt64 x0 >>> (Int64.toUInt64 (Int32.toInt64 8) &&& Int64.toUInt64 63)).toInt64))] [] 60 mSH σ) : mK Γ M_J13_bitCount_95d88 (d + 1) Q n0 bc bs 34 [(0, .long x0)] [] 60 mSH σ := by
  refine mK_lload_n dJ13_bitCount_95d88_34 rfl rfl (.head _) ?_
  refine mK_lload_n dJ13_bitCount_95d88_35 rfl rfl (.head _) ?_
  refine mK_bipush dJ13_bitCount_95d88_36 rfl qbi_8 ?_
  refine mK_lushr dJ13_bitCount_95d88_38 rfl ?_
  refine mK_ladd dJ13_bitCount_95d88_39 rfl ?_
  refine ru_lstore_n (lv1 := [(0, .long (x0 + (Int64.toUInt64 x0 >>> (Int64.toUInt64 (Int32.toInt64 8) &&& Int64.toUInt64 63)).toInt64))]) dJ13_bitCount_95d88_40 rfl rfl (by decide) rfl ?_
  exact h
set_option maxRecDepth 20000 in
theorem T_J13_bitCount_95d88_41 {Γ : Nat × (Nat → Int32)} {d n0 bc bs : Nat} {Q : mQ} {σ : mS} (x0 : Int64) (h : mK Γ M_J13_bitCount_95d88 (d + 1) Q n0 bc bs 48 [(0, .long (x0 + (Int64.toUInt64 x0 >>> (Int64.toUInt64 (Int32.toInt64 16) &&& Int64.toUInt64 63)).toInt64))] [] 60 mSH σ) : mK Γ M_J13_bitCount_95d88 (d + 1) Q n0 bc bs 41 [(0, .long x0)] [] 60 mSH σ := by
  refine mK_lload_n dJ13_bitCount_95d88_41 rfl rfl (.head _) ?_
  refine mK_lload_n dJ13_bitCount_95d88_42 rfl rfl (.head _) ?_
  refine mK_bipush dJ13_bitCount_95d88_43 rfl qbi_16 ?_
  refine mK_lushr dJ13_bitCount_95d88_45 rfl ?_
  refine mK_ladd dJ13_bitCount_95d88_46 rfl ?_
  refine ru_lstore_n (lv1 := [(0, .long (x0 + (Int64.toUInt64 x0 >>> (Int64.toUInt64 (Int32.toInt64 16) &&& Int64.toUInt64 63)).toInt64))]) dJ13_bitCount_95d88_47 rfl rfl (by decide) rfl ?_
  exact h
set_option maxRecDepth 20000 in
theorem T_J13_bitCount_95d88_48 {Γ : Nat × (Nat → Int32)} {d n0 bc bs : Nat} {Q : mQ} {σ : mS} (x0 : Int64) (h : mK Γ M_J13_bitCount_95d88 (d + 1) Q n0 bc bs 55 [(0, .long (x0 + (Int64.toUInt64 x0 >>> (Int64.toUInt64 (Int32.toInt64 32) &&& Int64.toUInt64 63)).toInt64))] [] 60 mSH σ) : mK Γ M_J13_bitCount_95d88 (d + 1) Q n0 bc bs 48 [(0, .long x0)] [] 60 mSH σ := by
  refine mK_lload_n dJ13_bitCount_95d88_48 rfl rfl (.head _) ?_
  refine mK_lload_n dJ13_bitCount_95d88_49 rfl rfl (.head _) ?_
  refine mK_bipush dJ13_bitCount_95d88_50 rfl qbi_32 ?_
  refine mK_lushr dJ13_bitCount_95d88_52 rfl ?_
  refine mK_ladd dJ13_bitCount_95d88_53 rfl ?_
  refine ru_lstore_n (lv1 := [(0, .long (x0 + (Int64.toUInt64 x0 >>> (Int64.toUInt64 (Int32.toInt64 32) &&& Int64.toUInt64 63)).toInt64))]) dJ13_bitCount_95d88_54 rfl rfl (by decide) rfl ?_
  exact h
set_option maxRecDepth 20000 in
theorem T_J13_bitCount_95d88_55 {Γ : Nat × (Nat → Int32)} {d n0 bc bs : Nat} {Q : mQ} {σ : mS} (x0 : Int64) (h : Q (.inl (some (.int ((Int64.toInt32 x0) &&& 127)))) 60 mSH σ) : mK Γ M_J13_bitCount_95d88 (d + 1) Q n0 bc bs 55 [(0, .long x0)] [] 60 mSH σ := by
  refine mK_lload_n dJ13_bitCount_95d88_55 rfl rfl (.head _) ?_
  refine mK_l2i dJ13_bitCount_95d88_56 rfl ?_
  refine mK_bipush dJ13_bitCount_95d88_57 rfl qbi_127 ?_
  refine mK_iand dJ13_bitCount_95d88_59 rfl ?_
  exact mK_iret dJ13_bitCount_95d88_60 rfl h
