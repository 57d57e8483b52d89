/-! ===== Int32 by its bits: bt x i ===== -/
def bt (x : Int32) (i : Nat) : Bool := x.toBitVec.getLsbD i
theorem b_ext {x y : Int32} (h : ∀ i, i < 32 → bt x i = bt y i) : x = y := Int32.toBitVec_inj.mp (BitVec.eq_of_getLsbD_eq (fun i hi => h i hi))
theorem b_or (x y : Int32) (i : Nat) : bt (x ||| y) i = (bt x i || bt y i) := by unfold bt; rw [Int32.toBitVec_or, BitVec.getLsbD_or]
theorem b_and (x y : Int32) (i : Nat) : bt (x &&& y) i = (bt x i && bt y i) := by unfold bt; rw [Int32.toBitVec_and, BitVec.getLsbD_and]
theorem b_xor (x y : Int32) (i : Nat) : bt (x ^^^ y) i = (bt x i ^^ bt y i) := by unfold bt; rw [Int32.toBitVec_xor, BitVec.getLsbD_xor]
theorem b_big {x : Int32} {i : Nat} (h : 32 ≤ i) : bt x i = false := BitVec.getLsbD_of_ge _ _ h
theorem b_255 (i : Nat) : bt 255 i = decide (i < 8) := by
  rcases Nat.lt_or_ge i 32 with h | h
  · exact (by decide +kernel : ∀ i, i < 32 → bt 255 i = decide (i < 8)) i h
  · rw [b_big h, decide_eq_false (by omega)]
theorem b_65535 (i : Nat) : bt 65535 i = decide (i < 16) := by
  rcases Nat.lt_or_ge i 32 with h | h
  · exact (by decide +kernel : ∀ i, i < 32 → bt 65535 i = decide (i < 16)) i h
  · rw [b_big h, decide_eq_false (by omega)]
theorem b_m1 : ∀ i, i < 32 → bt (-1) i = true := by decide +kernel
theorem b_0 (i : Nat) : bt 0 i = false := BitVec.getLsbD_zero
theorem s_l : ∀ n, n < 32 → ((nI n &&& 31).toBitVec.smod 32).toNat = n := by decide +kernel
theorem s_u : ∀ n, n < 32 → (((nI n).toUInt32 &&& Int32.toUInt32 31).toBitVec % 32).toNat = n := by decide +kernel
theorem b_shl (n : Nat) (hn : n < 32) (x : Int32) {i : Nat} (hi : i < 32) : bt (x <<< (nI n &&& 31)) i = (decide (n ≤ i) && bt x (i - n)) := by
  unfold bt
  rw [Int32.toBitVec_shiftLeft]
  show (x.toBitVec <<< ((nI n &&& 31).toBitVec.smod 32).toNat).getLsbD i = _
  rw [s_l n hn, BitVec.getLsbD_shiftLeft]
  rcases Nat.lt_or_ge i n with h | h
  · simp [h, Nat.not_le.mpr h]
  · simp [hi, h, Nat.not_lt.mpr h]
theorem b_ushr (n : Nat) (hn : n < 32) (x : Int32) (i : Nat) : bt ((x.toUInt32 >>> ((nI n).toUInt32 &&& Int32.toUInt32 31)).toInt32) i = bt x (n + i) := by
  show (x.toUInt32 >>> ((nI n).toUInt32 &&& Int32.toUInt32 31)).toBitVec.getLsbD i = x.toUInt32.toBitVec.getLsbD (n + i)
  rw [UInt32.toBitVec_shiftRight]
  show (x.toUInt32.toBitVec >>> (((nI n).toUInt32 &&& Int32.toUInt32 31).toBitVec % 32).toNat).getLsbD i = _
  rw [s_u n hn, BitVec.getLsbD_ushiftRight]
theorem b_sshr (n : Nat) (hn : n < 32) (x : Int32) {i : Nat} (hi : i < 32) : bt (x >>> (nI n &&& 31)) i = if n + i < 32 then bt x (n + i) else bt x 31 := by
  unfold bt
  rw [Int32.toBitVec_shiftRight]
  show (x.toBitVec.sshiftRight ((nI n &&& 31).toBitVec.smod 32).toNat).getLsbD i = _
  rw [s_l n hn, BitVec.getLsbD_sshiftRight, BitVec.msb_eq_getLsbD_last]
  simp [hi]
theorem b_shl8 (x : Int32) {i : Nat} (hi : i < 32) : bt (x <<< ((8 : Int32) &&& 31)) i = (decide (8 ≤ i) && bt x (i - 8)) := b_shl 8 (by omega) x hi
theorem b_shl16 (x : Int32) {i : Nat} (hi : i < 32) : bt (x <<< ((16 : Int32) &&& 31)) i = (decide (16 ≤ i) && bt x (i - 16)) := b_shl 16 (by omega) x hi
theorem b_shl24 (x : Int32) {i : Nat} (hi : i < 32) : bt (x <<< ((24 : Int32) &&& 31)) i = (decide (24 ≤ i) && bt x (i - 24)) := b_shl 24 (by omega) x hi
theorem b_sshr8 (x : Int32) {i : Nat} (hi : i < 32) : bt (x >>> ((8 : Int32) &&& 31)) i = if 8 + i < 32 then bt x (8 + i) else bt x 31 := b_sshr 8 (by omega) x hi
/-! ===== a byte read unsigned ===== -/
theorem bp_b (x : Int32) : x.toInt8.toInt32 &&& 255 = x &&& 255 := by
  apply Int32.toBitVec_inj.mp
  rw [Int32.toBitVec_and, Int32.toBitVec_and, Int8.toBitVec_toInt32, Int32.toBitVec_toInt8]
  apply BitVec.eq_of_getLsbD_eq
  intro i hi
  rw [BitVec.getLsbD_and, BitVec.getLsbD_and]
  have hm : ∀ i < 32, 8 ≤ i → (255 : Int32).toBitVec.getLsbD i = false := by decide
  rcases Nat.lt_or_ge i 8 with z | z
  · rw [BitVec.getLsbD_signExtend, BitVec.getLsbD_signExtend, if_pos z, if_pos hi]
    simp only [z, hi, decide_true, Bool.true_and]
  · rw [hm i hi z]; simp

set_option maxRecDepth 20000 in
theorem E_X7_digest_0 {Γ : Nat × (Nat → Int32)} {d : Nat} {Q : mQ} {σ : mS} (h : mK Γ M_X7_digest (d + 2) Q 60 0 0 6 [(0, .ref 0), (1, .long 719), (3, .int 0)] [] 60 mSH σ) : mCall Γ M_X7_digest (d + 2) 0 0 [.ref 0] 60 mSH σ Q := by
  refine mCall_of rfl (by decide) (Nat.le_of_ble_eq_true rfl) (mOkC (mOk_lo (Nat.le_of_ble_eq_true rfl)) mOkN) ?_
  show mK Γ M_X7_digest (d + 2) Q 60 0 0 0 [(0, .ref 0)] [] 60 mSH σ
  refine mK_ldc2 dX7_digest_0 rfl kw_773 ?_
  refine ru_lstore_n (lv1 := [(0, .ref 0), (1, .long 719)]) dX7_digest_3 rfl rfl (by decide) rfl ?_
  refine mK_iconst dX7_digest_4 rfl qic_0 ?_
  refine ru_istore_n (lv1 := [(0, .ref 0), (1, .long 719), (3, .int 0)]) dX7_digest_5 rfl rfl (by decide) rfl ?_
  exact h
set_option maxRecDepth 20000 in
theorem T_X7_digest_0_6 {Γ : Nat × (Nat → Int32)} {d n0 bc bs : Nat} {Q : mQ} {σ : mS} (x1 : Int64) (x3 : Int32) (h : ((12 ≤ x3 → mK Γ M_X7_digest (d + 2) Q n0 bc bs 33 [(0, .ref 0), (1, .long x1), (3, .int 0)] [] 60 mSH σ) ∧ (¬ (12 ≤ x3) → mCall Γ M_X7_count (d + 1) 0 0 [.ref 0, .int x3] 60 mSH σ (mRt Γ M_X7_digest (d + 2) Q n0 bc bs 22 [(0, .ref 0), (1, .long x1), (3, .int x3)] [.long (x1 * 31)])))) : mK Γ M_X7_digest (d + 2) Q n0 bc bs 6 [(0, .ref 0), (1, .long x1), (3, .int x3)] [] 60 mSH σ := by
  refine mK_iload_n dX7_digest_6 rfl rfl (.tail _ (.tail _ (.head _))) ?_
  refine mK_bipush dX7_digest_7 rfl qbi_12 ?_
  refine mK_icmp_ge (tgt := 31) dX7_digest_9 rfl (by decide) (fun c1 => ?_) (fun c1 => ?_)
  · refine mK_iconst dX7_digest_31 rfl qic_0 ?_
    refine ru_istore_n (lv1 := [(0, .ref 0), (1, .long x1), (3, .int 0)]) dX7_digest_32 rfl rfl (by decide) rfl ?_
    exact (h.1 c1)
  · refine mK_lload_n dX7_digest_12 rfl rfl (.tail _ (.head _)) ?_
    refine mK_ldc2 dX7_digest_13 rfl kw_774 ?_
    refine mK_lmul dX7_digest_16 rfl ?_
    refine mK_aload_n dX7_digest_17 rfl rfl (.head _) ?_
    refine mK_iload_n dX7_digest_18 rfl rfl (.tail _ (.tail _ (.head _))) ?_
    refine mK_invV (J := M_X7_count) (k := 1) (as := [.int x3]) (st := [.long (x1 * 31)]) (c1 := 0) (s1 := 0) dX7_digest_19 rfl jw_X7_count jn_X7_count rfl (Nat.le_of_ble_eq_true rfl) (Nat.zero_le _) (Nat.zero_le _) rfl kw_775 kw_776 kw_777 (b := 0) (Nat.le_of_ble_eq_true rfl) (Nat.le_of_ble_eq_true rfl) rfl ?_
    exact (h.2 c1)
set_option maxRecDepth 20000 in
theorem T_X7_digest_0_33 {Γ : Nat × (Nat → Int32)} {d n0 bc bs : Nat} {Q : mQ} {σ : mS} (x1 : Int64) (x3 : Int32) (h : (((f_X0_speakers_5 σ) ≤ x3 → mK Γ M_X7_digest (d + 2) Q n0 bc bs 83 [(0, .ref 0), (1, .long x1), (3, .int 0)] [] 60 mSH σ) ∧ (¬ ((f_X0_speakers_5 σ) ≤ x3) → mK Γ M_X7_digest (d + 2) Q n0 bc bs 47 [(0, .ref 0), (1, .long x1), (3, .int x3), (4, .int 0)] [] 60 mSH σ))) : mK Γ M_X7_digest (d + 2) Q n0 bc bs 33 [(0, .ref 0), (1, .long x1), (3, .int x3)] [] 60 mSH σ := by
  refine mK_iload_n dX7_digest_33 rfl rfl (.tail _ (.tail _ (.head _))) ?_
  refine mK_aload_n dX7_digest_34 rfl rfl (.head _) ?_
  refine ru_getR (k := 2) (ci := 6) (a := 5) dX7_digest_35 rfl rfl rfl kw_283 ?_
  refine mK_invV (J := M_X0_speakers) (k := 0) (as := []) (st := [.int x3]) (c1 := 0) (s1 := 0) dX7_digest_38 rfl jw_X0_speakers jn_X0_speakers rfl (Nat.le_of_ble_eq_true rfl) (Nat.zero_le _) (Nat.zero_le _) rfl kw_701 kw_503 kw_504 (b := 5) (Nat.le_of_ble_eq_true rfl) (Nat.le_of_ble_eq_true rfl) rfl ?_
  refine S_X0_speakers_5  ?_
  show mK Γ M_X7_digest (d + 2) Q n0 bc bs 41 [(0, .ref 0), (1, .long x1), (3, .int x3)] [.int (f_X0_speakers_5 σ), .int x3] 60 mSH σ
  refine mK_icmp_ge (tgt := 81) dX7_digest_41 rfl (by decide) (fun c1 => ?_) (fun c1 => ?_)
  · refine mK_iconst dX7_digest_81 rfl qic_0 ?_
    refine ru_istore_n (lv1 := [(0, .ref 0), (1, .long x1), (3, .int 0)]) dX7_digest_82 rfl rfl (by decide) rfl ?_
    exact (h.1 c1)
  · refine mK_iconst dX7_digest_44 rfl qic_0 ?_
    refine ru_istore (lv1 := [(0, .ref 0), (1, .long x1), (3, .int x3), (4, .int 0)]) dX7_digest_45 rfl (by decide) rfl ?_
    exact (h.2 c1)
set_option maxRecDepth 20000 in
theorem T_X7_digest_0_22a {Γ : Nat × (Nat → Int32)} {d n0 bc bs : Nat} {Q : mQ} {σ : mS} (x1 : Int64) (x3 : Int32) (y0 : Int64) (r : Int32) (h : mK Γ M_X7_digest (d + 2) Q n0 bc bs 6 [(0, .ref 0), (1, .long (y0 + (Int32.toInt64 r))), (3, .int (x3 + 1))] [] 60 mSH σ) : mRt Γ M_X7_digest (d + 2) Q n0 bc bs 22 [(0, .ref 0), (1, .long x1), (3, .int x3)] [.long y0] (.inl (some (.int r))) 60 mSH σ := by
  show mK Γ M_X7_digest (d + 2) Q n0 bc bs 22 [(0, .ref 0), (1, .long x1), (3, .int x3)] [.int r, .long y0] 60 mSH σ
  refine mK_i2l dX7_digest_22 rfl ?_
  refine mK_ladd dX7_digest_23 rfl ?_
  refine ru_lstore_n (lv1 := [(0, .ref 0), (1, .long (y0 + (Int32.toInt64 r))), (3, .int x3)]) dX7_digest_24 rfl rfl (by decide) rfl ?_
  refine ru_iinc (lv1 := [(0, .ref 0), (1, .long (y0 + (Int32.toInt64 r))), (3, .int (x3 + 1))]) dX7_digest_25 rfl (.tail _ (.tail _ (.head _))) qic_1 (by decide) rfl ?_
  refine mK_goto (tgt := 6) dX7_digest_28 (by decide) ?_
  exact h
set_option maxRecDepth 20000 in
theorem T_X7_digest_0_83 {Γ : Nat × (Nat → Int32)} {d n0 bc bs : Nat} {Q : mQ} {σ : mS} (x1 : Int64) (x3 : Int32) (h : (((f_X0_items_5 σ) ≤ x3 → mK Γ M_X7_digest (d + 2) Q n0 bc bs 159 [(0, .ref 0), (1, .long x1), (3, .int 0)] [] 60 mSH σ) ∧ (¬ ((f_X0_items_5 σ) ≤ x3) → mK Γ M_X7_digest (d + 2) Q n0 bc bs 97 [(0, .ref 0), (1, .long x1), (3, .int x3), (4, .int 0)] [] 60 mSH σ))) : mK Γ M_X7_digest (d + 2) Q n0 bc bs 83 [(0, .ref 0), (1, .long x1), (3, .int x3)] [] 60 mSH σ := by
  refine mK_iload_n dX7_digest_83 rfl rfl (.tail _ (.tail _ (.head _))) ?_
  refine mK_aload_n dX7_digest_84 rfl rfl (.head _) ?_
  refine ru_getR (k := 2) (ci := 6) (a := 5) dX7_digest_85 rfl rfl rfl kw_283 ?_
  refine mK_invV (J := M_X0_items) (k := 0) (as := []) (st := [.int x3]) (c1 := 0) (s1 := 0) dX7_digest_88 rfl jw_X0_items jn_X0_items rfl (Nat.le_of_ble_eq_true rfl) (Nat.zero_le _) (Nat.zero_le _) rfl kw_722 kw_529 kw_530 (b := 5) (Nat.le_of_ble_eq_true rfl) (Nat.le_of_ble_eq_true rfl) rfl ?_
  refine S_X0_items_5  ?_
  show mK Γ M_X7_digest (d + 2) Q n0 bc bs 91 [(0, .ref 0), (1, .long x1), (3, .int x3)] [.int (f_X0_items_5 σ), .int x3] 60 mSH σ
  refine mK_icmp_ge (tgt := 157) dX7_digest_91 rfl (by decide) (fun c1 => ?_) (fun c1 => ?_)
  · refine mK_iconst dX7_digest_157 rfl qic_0 ?_
    refine ru_istore_n (lv1 := [(0, .ref 0), (1, .long x1), (3, .int 0)]) dX7_digest_158 rfl rfl (by decide) rfl ?_
    exact (h.1 c1)
  · refine mK_iconst dX7_digest_94 rfl qic_0 ?_
    refine ru_istore (lv1 := [(0, .ref 0), (1, .long x1), (3, .int x3), (4, .int 0)]) dX7_digest_95 rfl (by decide) rfl ?_
    exact (h.2 c1)
set_option maxRecDepth 20000 in
theorem T_X7_digest_0_47 {Γ : Nat × (Nat → Int32)} {d n0 bc bs : Nat} {Q : mQ} {σ : mS} (x1 : Int64) (x3 : Int32) (x4 : Int32) (h : ((7 ≤ x4 → mK Γ M_X7_digest (d + 2) Q n0 bc bs 33 [(0, .ref 0), (1, .long x1), (3, .int (x3 + 1))] [] 60 mSH σ) ∧ (¬ (7 ≤ x4) → mCall Γ M_X7_speaker (d + 1) 0 0 [.ref 0, .int x3, .int x4] 60 mSH σ (mRt Γ M_X7_digest (d + 2) Q n0 bc bs 66 [(0, .ref 0), (1, .long x1), (3, .int x3), (4, .int x4)] [.long (x1 * 31)])))) : mK Γ M_X7_digest (d + 2) Q n0 bc bs 47 [(0, .ref 0), (1, .long x1), (3, .int x3), (4, .int x4)] [] 60 mSH σ := by
  refine mK_iload dX7_digest_47 rfl (.tail _ (.tail _ (.tail _ (.head _)))) ?_
  refine mK_bipush dX7_digest_49 rfl qbi_7 ?_
  refine mK_icmp_ge (tgt := 75) dX7_digest_51 rfl (by decide) (fun c1 => ?_) (fun c1 => ?_)
  · refine ru_iinc (lv1 := [(0, .ref 0), (1, .long x1), (3, .int (x3 + 1)), (4, .int x4)]) dX7_digest_75 rfl (.tail _ (.tail _ (.head _))) qic_1 (by decide) rfl ?_
    refine mK_goto (tgt := 33) dX7_digest_78 (by decide) ?_
    exact ru_pick [0, 1, 2] rfl (h.1 c1)
  · refine mK_lload_n dX7_digest_54 rfl rfl (.tail _ (.head _)) ?_
    refine mK_ldc2 dX7_digest_55 rfl kw_774 ?_
    refine mK_lmul dX7_digest_58 rfl ?_
    refine mK_aload_n dX7_digest_59 rfl rfl (.head _) ?_
    refine mK_iload_n dX7_digest_60 rfl rfl (.tail _ (.tail _ (.head _))) ?_
    refine mK_iload dX7_digest_61 rfl (.tail _ (.tail _ (.tail _ (.head _)))) ?_
    refine mK_invV (J := M_X7_speaker) (k := 2) (as := [.int x3, .int x4]) (st := [.long (x1 * 31)]) (c1 := 0) (s1 := 0) dX7_digest_63 rfl jw_X7_speaker jn_X7_speaker rfl (Nat.le_of_ble_eq_true rfl) (Nat.zero_le _) (Nat.zero_le _) rfl kw_856 kw_857 kw_858 (b := 0) (Nat.le_of_ble_eq_true rfl) (Nat.le_of_ble_eq_true rfl) rfl ?_
    exact (h.2 c1)
set_option maxRecDepth 20000 in
theorem T_X7_digest_0_159 {Γ : Nat × (Nat → Int32)} {d n0 bc bs : Nat} {Q : mQ} {σ : mS} (x1 : Int64) (x3 : Int32) (h : (((f_X3_length_3 σ) ≤ x3 → Q (.inl (some (.long x1))) 60 mSH σ) ∧ (¬ ((f_X3_length_3 σ) ≤ x3) → mK Γ M_X7_digest (d + 2) Q n0 bc bs 159 [(0, .ref 0), (1, .long ((x1 * 31) + (Int32.toInt64 (f_X3_at_3 σ x3)))), (3, .int (x3 + 1))] [] 60 mSH σ))) : mK Γ M_X7_digest (d + 2) Q n0 bc bs 159 [(0, .ref 0), (1, .long x1), (3, .int x3)] [] 60 mSH σ := by
  refine mK_iload_n dX7_digest_159 rfl rfl (.tail _ (.tail _ (.head _))) ?_
  refine mK_aload_n dX7_digest_160 rfl rfl (.head _) ?_
  refine ru_getR (k := 1) (ci := 6) (a := 3) dX7_digest_161 rfl rfl rfl kw_282 ?_
  refine mK_invV (J := M_X3_length) (k := 0) (as := []) (st := [.int x3]) (c1 := 0) (s1 := 0) dX7_digest_164 rfl jw_X3_length jn_X3_length rfl (Nat.le_of_ble_eq_true rfl) (Nat.zero_le _) (Nat.zero_le _) rfl kw_746 kw_321 kw_322 (b := 3) (Nat.le_of_ble_eq_true rfl) (Nat.le_of_ble_eq_true rfl) rfl ?_
  refine S_X3_length_3  ?_
  show mK Γ M_X7_digest (d + 2) Q n0 bc bs 167 [(0, .ref 0), (1, .long x1), (3, .int x3)] [.int (f_X3_length_3 σ), .int x3] 60 mSH σ
  refine mK_icmp_ge (tgt := 192) dX7_digest_167 rfl (by decide) (fun c1 => ?_) (fun c1 => ?_)
  · refine mK_lload_n dX7_digest_192 rfl rfl (.tail _ (.head _)) ?_
    exact mK_lret dX7_digest_193 rfl (h.1 c1)
  · refine mK_lload_n dX7_digest_170 rfl rfl (.tail _ (.head _)) ?_
    refine mK_ldc2 dX7_digest_171 rfl kw_774 ?_
    refine mK_lmul dX7_digest_174 rfl ?_
    refine mK_aload_n dX7_digest_175 rfl rfl (.head _) ?_
    refine ru_getR (k := 1) (ci := 6) (a := 3) dX7_digest_176 rfl rfl rfl kw_282 ?_
    refine mK_iload_n dX7_digest_179 rfl rfl (.tail _ (.tail _ (.head _))) ?_
    refine mK_invV (J := M_X3_at) (k := 1) (as := [.int x3]) (st := [.long (x1 * 31)]) (c1 := 0) (s1 := 0) dX7_digest_180 rfl jw_X3_at jn_X3_at rfl (Nat.le_of_ble_eq_true rfl) (Nat.zero_le _) (Nat.zero_le _) rfl kw_913 kw_325 kw_326 (b := 3) (Nat.le_of_ble_eq_true rfl) (Nat.le_of_ble_eq_true rfl) rfl ?_
    refine S_X3_at_3 x3 ?_
    show mK Γ M_X7_digest (d + 2) Q n0 bc bs 183 [(0, .ref 0), (1, .long x1), (3, .int x3)] [.int (f_X3_at_3 σ x3), .long (x1 * 31)] 60 mSH σ
    refine mK_i2l dX7_digest_183 rfl ?_
    refine mK_ladd dX7_digest_184 rfl ?_
    refine ru_lstore_n (lv1 := [(0, .ref 0), (1, .long ((x1 * 31) + (Int32.toInt64 (f_X3_at_3 σ x3)))), (3, .int x3)]) dX7_digest_185 rfl rfl (by decide) rfl ?_
    refine ru_iinc (lv1 := [(0, .ref 0), (1, .long ((x1 * 31) + (Int32.toInt64 (f_X3_at_3 σ x3)))), (3, .int (x3 + 1))]) dX7_digest_186 rfl (.tail _ (.tail _ (.head _))) qic_1 (by decide) rfl ?_
    refine mK_goto (tgt := 159) dX7_digest_189 (by decide) ?_
    exact (h.2 c1)
set_option maxRecDepth 20000 in
theorem T_X7_digest_0_97 {Γ : Nat × (Nat → Int32)} {d n0 bc bs : Nat} {Q : mQ} {σ : mS} (x1 : Int64) (x3 : Int32) (x4 : Int32) (h : ((11 ≤ x4 → mCall Γ M_X7_why (d + 1) 0 0 [.ref 0, .int x3] 60 mSH σ (mRt Γ M_X7_digest (d + 2) Q n0 bc bs 135 [(0, .ref 0), (1, .long x1), (3, .int x3), (4, .int x4)] [.long (x1 * 31)])) ∧ (¬ (11 ≤ x4) → mCall Γ M_X7_item (d + 1) 0 0 [.ref 0, .int x3, .int x4] 60 mSH σ (mRt Γ M_X7_digest (d + 2) Q n0 bc bs 116 [(0, .ref 0), (1, .long x1), (3, .int x3), (4, .int x4)] [.long (x1 * 31)])))) : mK Γ M_X7_digest (d + 2) Q n0 bc bs 97 [(0, .ref 0), (1, .long x1), (3, .int x3), (4, .int x4)] [] 60 mSH σ := by
  refine mK_iload dX7_digest_97 rfl (.tail _ (.tail _ (.tail _ (.head _)))) ?_
  refine mK_bipush dX7_digest_99 rfl qbi_11 ?_
  refine mK_icmp_ge (tgt := 125) dX7_digest_101 rfl (by decide) (fun c1 => ?_) (fun c1 => ?_)
  · refine mK_lload_n dX7_digest_125 rfl rfl (.tail _ (.head _)) ?_
    refine mK_ldc2 dX7_digest_126 rfl kw_774 ?_
    refine mK_lmul dX7_digest_129 rfl ?_
    refine mK_aload_n dX7_digest_130 rfl rfl (.head _) ?_
    refine mK_iload_n dX7_digest_131 rfl rfl (.tail _ (.tail _ (.head _))) ?_
    refine mK_invV (J := M_X7_why) (k := 1) (as := [.int x3]) (st := [.long (x1 * 31)]) (c1 := 0) (s1 := 0) dX7_digest_132 rfl jw_X7_why jn_X7_why rfl (Nat.le_of_ble_eq_true rfl) (Nat.zero_le _) (Nat.zero_le _) rfl kw_905 kw_906 kw_907 (b := 0) (Nat.le_of_ble_eq_true rfl) (Nat.le_of_ble_eq_true rfl) rfl ?_
    exact (h.1 c1)
  · refine mK_lload_n dX7_digest_104 rfl rfl (.tail _ (.head _)) ?_
    refine mK_ldc2 dX7_digest_105 rfl kw_774 ?_
    refine mK_lmul dX7_digest_108 rfl ?_
    refine mK_aload_n dX7_digest_109 rfl rfl (.head _) ?_
    refine mK_iload_n dX7_digest_110 rfl rfl (.tail _ (.tail _ (.head _))) ?_
    refine mK_iload dX7_digest_111 rfl (.tail _ (.tail _ (.tail _ (.head _)))) ?_
    refine mK_invV (J := M_X7_item) (k := 2) (as := [.int x3, .int x4]) (st := [.long (x1 * 31)]) (c1 := 0) (s1 := 0) dX7_digest_113 rfl jw_X7_item jn_X7_item rfl (Nat.le_of_ble_eq_true rfl) (Nat.zero_le _) (Nat.zero_le _) rfl kw_878 kw_879 kw_880 (b := 0) (Nat.le_of_ble_eq_true rfl) (Nat.le_of_ble_eq_true rfl) rfl ?_
    exact (h.2 c1)
set_option maxRecDepth 20000 in
theorem T_X7_digest_0_66a {Γ : Nat × (Nat → Int32)} {d n0 bc bs : Nat} {Q : mQ} {σ : mS} (x1 : Int64) (x3 : Int32) (x4 : Int32) (y0 : Int64) (r : Int32) (h : mK Γ M_X7_digest (d + 2) Q n0 bc bs 47 [(0, .ref 0), (1, .long (y0 + (Int32.toInt64 r))), (3, .int x3), (4, .int (x4 + 1))] [] 60 mSH σ) : mRt Γ M_X7_digest (d + 2) Q n0 bc bs 66 [(0, .ref 0), (1, .long x1), (3, .int x3), (4, .int x4)] [.long y0] (.inl (some (.int r))) 60 mSH σ := by
  show mK Γ M_X7_digest (d + 2) Q n0 bc bs 66 [(0, .ref 0), (1, .long x1), (3, .int x3), (4, .int x4)] [.int r, .long y0] 60 mSH σ
  refine mK_i2l dX7_digest_66 rfl ?_
  refine mK_ladd dX7_digest_67 rfl ?_
  refine ru_lstore_n (lv1 := [(0, .ref 0), (1, .long (y0 + (Int32.toInt64 r))), (3, .int x3), (4, .int x4)]) dX7_digest_68 rfl rfl (by decide) rfl ?_
  refine ru_iinc (lv1 := [(0, .ref 0), (1, .long (y0 + (Int32.toInt64 r))), (3, .int x3), (4, .int (x4 + 1))]) dX7_digest_69 rfl (.tail _ (.tail _ (.tail _ (.head _)))) qic_1 (by decide) rfl ?_
  refine mK_goto (tgt := 47) dX7_digest_72 (by decide) ?_
  exact h
set_option maxRecDepth 20000 in
theorem T_X7_digest_0_135a {Γ : Nat × (Nat → Int32)} {d n0 bc bs : Nat} {Q : mQ} {σ : mS} (x1 : Int64) (x3 : Int32) (x4 : Int32) (y0 : Int64) (r : Int32) (h : mCall Γ M_X7_far (d + 1) 0 0 [.ref 0, .int x3] 60 mSH σ (mRt Γ M_X7_digest (d + 2) Q n0 bc bs 148 [(0, .ref 0), (1, .long (y0 + (Int32.toInt64 r))), (3, .int x3), (4, .int x4)] [.long ((y0 + (Int32.toInt64 r)) * 31)])) : mRt Γ M_X7_digest (d + 2) Q n0 bc bs 135 [(0, .ref 0), (1, .long x1), (3, .int x3), (4, .int x4)] [.long y0] (.inl (some (.int r))) 60 mSH σ := by
  show mK Γ M_X7_digest (d + 2) Q n0 bc bs 135 [(0, .ref 0), (1, .long x1), (3, .int x3), (4, .int x4)] [.int r, .long y0] 60 mSH σ
  refine mK_i2l dX7_digest_135 rfl ?_
  refine mK_ladd dX7_digest_136 rfl ?_
  refine ru_lstore_n (lv1 := [(0, .ref 0), (1, .long (y0 + (Int32.toInt64 r))), (3, .int x3), (4, .int x4)]) dX7_digest_137 rfl rfl (by decide) rfl ?_
  refine mK_lload_n dX7_digest_138 rfl rfl (.tail _ (.head _)) ?_
  refine mK_ldc2 dX7_digest_139 rfl kw_774 ?_
  refine mK_lmul dX7_digest_142 rfl ?_
  refine mK_aload_n dX7_digest_143 rfl rfl (.head _) ?_
  refine mK_iload_n dX7_digest_144 rfl rfl (.tail _ (.tail _ (.head _))) ?_
  refine mK_invV (J := M_X7_far) (k := 1) (as := [.int x3]) (st := [.long ((y0 + (Int32.toInt64 r)) * 31)]) (c1 := 0) (s1 := 0) dX7_digest_145 rfl jw_X7_far jn_X7_far rfl (Nat.le_of_ble_eq_true rfl) (Nat.zero_le _) (Nat.zero_le _) rfl kw_909 kw_910 kw_911 (b := 0) (Nat.le_of_ble_eq_true rfl) (Nat.le_of_ble_eq_true rfl) rfl ?_
  exact h
set_option maxRecDepth 20000 in
theorem T_X7_digest_0_116a {Γ : Nat × (Nat → Int32)} {d n0 bc bs : Nat} {Q : mQ} {σ : mS} (x1 : Int64) (x3 : Int32) (x4 : Int32) (y0 : Int64) (r : Int32) (h : mK Γ M_X7_digest (d + 2) Q n0 bc bs 97 [(0, .ref 0), (1, .long (y0 + (Int32.toInt64 r))), (3, .int x3), (4, .int (x4 + 1))] [] 60 mSH σ) : mRt Γ M_X7_digest (d + 2) Q n0 bc bs 116 [(0, .ref 0), (1, .long x1), (3, .int x3), (4, .int x4)] [.long y0] (.inl (some (.int r))) 60 mSH σ := by
  show mK Γ M_X7_digest (d + 2) Q n0 bc bs 116 [(0, .ref 0), (1, .long x1), (3, .int x3), (4, .int x4)] [.int r, .long y0] 60 mSH σ
  refine mK_i2l dX7_digest_116 rfl ?_
  refine mK_ladd dX7_digest_117 rfl ?_
  refine ru_lstore_n (lv1 := [(0, .ref 0), (1, .long (y0 + (Int32.toInt64 r))), (3, .int x3), (4, .int x4)]) dX7_digest_118 rfl rfl (by decide) rfl ?_
  refine ru_iinc (lv1 := [(0, .ref 0), (1, .long (y0 + (Int32.toInt64 r))), (3, .int x3), (4, .int (x4 + 1))]) dX7_digest_119 rfl (.tail _ (.tail _ (.tail _ (.head _)))) qic_1 (by decide) rfl ?_
  refine mK_goto (tgt := 97) dX7_digest_122 (by decide) ?_
  exact h
set_option maxRecDepth 20000 in
theorem T_X7_digest_0_148a {Γ : Nat × (Nat → Int32)} {d n0 bc bs : Nat} {Q : mQ} {σ : mS} (x1 : Int64) (x3 : Int32) (x4 : Int32) (y0 : Int64) (r : Int32) (h : mK Γ M_X7_digest (d + 2) Q n0 bc bs 83 [(0, .ref 0), (1, .long (y0 + (Int32.toInt64 r))), (3, .int (x3 + 1))] [] 60 mSH σ) : mRt Γ M_X7_digest (d + 2) Q n0 bc bs 148 [(0, .ref 0), (1, .long x1), (3, .int x3), (4, .int x4)] [.long y0] (.inl (some (.int r))) 60 mSH σ := by
  show mK Γ M_X7_digest (d + 2) Q n0 bc bs 148 [(0, .ref 0), (1, .long x1), (3, .int x3), (4, .int x4)] [.int r, .long y0] 60 mSH σ
  refine mK_i2l dX7_digest_148 rfl ?_
  refine mK_ladd dX7_digest_149 rfl ?_
  refine ru_lstore_n (lv1 := [(0, .ref 0), (1, .long (y0 + (Int32.toInt64 r))), (3, .int x3), (4, .int x4)]) dX7_digest_150 rfl rfl (by decide) rfl ?_
  refine ru_iinc (lv1 := [(0, .ref 0), (1, .long (y0 + (Int32.toInt64 r))), (3, .int (x3 + 1)), (4, .int x4)]) dX7_digest_151 rfl (.tail _ (.tail _ (.head _))) qic_1 (by decide) rfl ?_
  refine mK_goto (tgt := 83) dX7_digest_154 (by decide) ?_
  exact ru_pick [0, 1, 2] rfl h
set_option maxRecDepth 20000 in
theorem E_X9_digest_26 {Γ : Nat × (Nat → Int32)} {d : Nat} {Q : mQ} {σ : mS} (h : mK Γ M_X9_digest (d + 2) Q 60 120 636 11 [(0, .ref 26), (1, .long 719), (3, .int 0)] [] 60 mSH (mPI σ 26 0 0)) : mCall Γ M_X9_digest (d + 2) 120 636 [.ref 26] 60 mSH σ Q := by
  refine mCall_of rfl (by decide) (Nat.le_of_ble_eq_true rfl) (mOkC (mOk_lo (Nat.le_of_ble_eq_true rfl)) mOkN) ?_
  show mK Γ M_X9_digest (d + 2) Q 60 120 636 0 [(0, .ref 26)] [] 60 mSH σ
  refine mK_aload_n dX9_digest_0 rfl rfl (.head _) ?_
  refine mK_iconst dX9_digest_1 rfl qic_0 ?_
  refine ru_putI (k := 0) (ci := 8) dX9_digest_2 rfl rfl rfl kw_1127 ?_
  refine mK_ldc2 dX9_digest_5 rfl kw_1596 ?_
  refine ru_lstore_n (lv1 := [(0, .ref 26), (1, .long 719)]) dX9_digest_8 rfl rfl (by decide) rfl ?_
  refine mK_iconst dX9_digest_9 rfl qic_0 ?_
  refine ru_istore_n (lv1 := [(0, .ref 26), (1, .long 719), (3, .int 0)]) dX9_digest_10 rfl rfl (by decide) rfl ?_
  exact h
set_option maxRecDepth 20000 in
theorem T_X9_digest_26_11 {Γ : Nat × (Nat → Int32)} {d n0 bc bs : Nat} {Q : mQ} {σ : mS} (x1 : Int64) (x3 : Int32) (h : ((11 < x3 → mK Γ M_X9_digest (d + 2) Q n0 bc bs 38 [(0, .ref 26), (1, .long x1), (3, .int 0)] [] 60 mSH σ) ∧ (¬ (11 < x3) → ((0 + 3 ≤ bc ∧ 0 + 18 ≤ bs) ∧ mCall Γ M_X9_counted (d + 1) 3 18 [.ref 26, .int x3] 60 mSH σ (mRt Γ M_X9_digest (d + 2) Q n0 (bc - 3) (bs - 18) 27 [(0, .ref 26), (1, .long x1), (3, .int x3)] [.long (x1 * 31)]))))) : mK Γ M_X9_digest (d + 2) Q n0 bc bs 11 [(0, .ref 26), (1, .long x1), (3, .int x3)] [] 60 mSH σ := by
  refine mK_iload_n dX9_digest_11 rfl rfl (.tail _ (.tail _ (.head _))) ?_
  refine mK_bipush dX9_digest_12 rfl qbi_11 ?_
  refine mK_icmp_gt (tgt := 36) dX9_digest_14 rfl (by decide) (fun c1 => ?_) (fun c1 => ?_)
  · refine mK_iconst dX9_digest_36 rfl qic_0 ?_
    refine ru_istore_n (lv1 := [(0, .ref 26), (1, .long x1), (3, .int 0)]) dX9_digest_37 rfl rfl (by decide) rfl ?_
    exact (h.1 c1)
  · refine mK_lload_n dX9_digest_17 rfl rfl (.tail _ (.head _)) ?_
    refine mK_ldc2 dX9_digest_18 rfl kw_1597 ?_
    refine mK_lmul dX9_digest_21 rfl ?_
    refine mK_aload_n dX9_digest_22 rfl rfl (.head _) ?_
    refine mK_iload_n dX9_digest_23 rfl rfl (.tail _ (.tail _ (.head _))) ?_
    refine mK_invV (J := M_X9_counted) (k := 1) (as := [.int x3]) (st := [.long (x1 * 31)]) (c1 := 3) (s1 := 18) dX9_digest_24 rfl jw_X9_counted jn_X9_counted rfl (Nat.le_of_ble_eq_true rfl) (by have := ((h.2 c1).1); omega) (by have := ((h.2 c1).1); omega) rfl kw_1465 kw_1467 kw_70 (b := 26) (Nat.le_of_ble_eq_true rfl) (Nat.le_of_ble_eq_true rfl) rfl ?_
    exact (h.2 c1).2
set_option maxRecDepth 20000 in
theorem T_X9_digest_26_38 {Γ : Nat × (Nat → Int32)} {d n0 bc bs : Nat} {Q : mQ} {σ : mS} (x1 : Int64) (x3 : Int32) (h : (((σ.1 32 0) ≤ x3 → mK Γ M_X9_digest (d + 2) Q n0 bc bs 88 [(0, .ref 26), (1, .long x1), (3, .int 0)] [] 60 mSH σ) ∧ (¬ ((σ.1 32 0) ≤ x3) → mK Γ M_X9_digest (d + 2) Q n0 bc bs 52 [(0, .ref 26), (1, .long x1), (3, .int x3), (4, .int 0)] [] 60 mSH σ))) : mK Γ M_X9_digest (d + 2) Q n0 bc bs 38 [(0, .ref 26), (1, .long x1), (3, .int x3)] [] 60 mSH σ := by
  refine mK_iload_n dX9_digest_38 rfl rfl (.tail _ (.tail _ (.head _))) ?_
  refine mK_aload_n dX9_digest_39 rfl rfl (.head _) ?_
  refine ru_getR (k := 11) (ci := 8) (a := 32) dX9_digest_40 rfl rfl rfl kw_1138 ?_
  refine ru_getIN (k := 0) (ci := 7) dX9_digest_43 rfl rfl kn_1080 ?_
  refine mK_icmp_ge (tgt := 86) dX9_digest_46 rfl (by decide) (fun c1 => ?_) (fun c1 => ?_)
  · refine mK_iconst dX9_digest_86 rfl qic_0 ?_
    refine ru_istore_n (lv1 := [(0, .ref 26), (1, .long x1), (3, .int 0)]) dX9_digest_87 rfl rfl (by decide) rfl ?_
    exact (h.1 c1)
  · refine mK_iconst dX9_digest_49 rfl qic_0 ?_
    refine ru_istore (lv1 := [(0, .ref 26), (1, .long x1), (3, .int x3), (4, .int 0)]) dX9_digest_50 rfl (by decide) rfl ?_
    exact (h.2 c1)
set_option maxRecDepth 20000 in
theorem T_X9_digest_26_27a {Γ : Nat × (Nat → Int32)} {d n0 bc bs : Nat} {Q : mQ} {σ : mS} (x1 : Int64) (x3 : Int32) (y0 : Int64) (r : Int32) (h : mK Γ M_X9_digest (d + 2) Q n0 bc bs 11 [(0, .ref 26), (1, .long (y0 + (Int32.toInt64 r))), (3, .int (x3 + 1))] [] 60 mSH σ) : mRt Γ M_X9_digest (d + 2) Q n0 bc bs 27 [(0, .ref 26), (1, .long x1), (3, .int x3)] [.long y0] (.inl (some (.int r))) 60 mSH σ := by
  show mK Γ M_X9_digest (d + 2) Q n0 bc bs 27 [(0, .ref 26), (1, .long x1), (3, .int x3)] [.int r, .long y0] 60 mSH σ
  refine mK_i2l dX9_digest_27 rfl ?_
  refine mK_ladd dX9_digest_28 rfl ?_
  refine ru_lstore_n (lv1 := [(0, .ref 26), (1, .long (y0 + (Int32.toInt64 r))), (3, .int x3)]) dX9_digest_29 rfl rfl (by decide) rfl ?_
  refine ru_iinc (lv1 := [(0, .ref 26), (1, .long (y0 + (Int32.toInt64 r))), (3, .int (x3 + 1))]) dX9_digest_30 rfl (.tail _ (.tail _ (.head _))) qic_1 (by decide) rfl ?_
  refine mK_goto (tgt := 11) dX9_digest_33 (by decide) ?_
  exact h
set_option maxRecDepth 20000 in
theorem T_X9_digest_26_88 {Γ : Nat × (Nat → Int32)} {d n0 bc bs : Nat} {Q : mQ} {σ : mS} (x1 : Int64) (x3 : Int32) (h : (((σ.1 32 3) ≤ x3 → mK Γ M_X9_digest (d + 2) Q n0 bc bs 162 [(0, .ref 26), (1, .long x1), (3, .int 0)] [] 60 mSH σ) ∧ (¬ ((σ.1 32 3) ≤ x3) → mK Γ M_X9_digest (d + 2) Q n0 bc bs 102 [(0, .ref 26), (1, .long x1), (3, .int x3), (4, .int 0)] [] 60 mSH σ))) : mK Γ M_X9_digest (d + 2) Q n0 bc bs 88 [(0, .ref 26), (1, .long x1), (3, .int x3)] [] 60 mSH σ := by
  refine mK_iload_n dX9_digest_88 rfl rfl (.tail _ (.tail _ (.head _))) ?_
  refine mK_aload_n dX9_digest_89 rfl rfl (.head _) ?_
  refine ru_getR (k := 11) (ci := 8) (a := 32) dX9_digest_90 rfl rfl rfl kw_1138 ?_
  refine ru_getIN (k := 3) (ci := 7) dX9_digest_93 rfl rfl kn_1086 ?_
  refine mK_icmp_ge (tgt := 160) dX9_digest_96 rfl (by decide) (fun c1 => ?_) (fun c1 => ?_)
  · refine mK_iconst dX9_digest_160 rfl qic_0 ?_
    refine ru_istore_n (lv1 := [(0, .ref 26), (1, .long x1), (3, .int 0)]) dX9_digest_161 rfl rfl (by decide) rfl ?_
    exact (h.1 c1)
  · refine mK_iconst dX9_digest_99 rfl qic_0 ?_
    refine ru_istore (lv1 := [(0, .ref 26), (1, .long x1), (3, .int x3), (4, .int 0)]) dX9_digest_100 rfl (by decide) rfl ?_
    exact (h.2 c1)
set_option maxRecDepth 20000 in
theorem T_X9_digest_26_52 {Γ : Nat × (Nat → Int32)} {d n0 bc bs : Nat} {Q : mQ} {σ : mS} (x1 : Int64) (x3 : Int32) (x4 : Int32) (h : ((6 < x4 → mK Γ M_X9_digest (d + 2) Q n0 bc bs 38 [(0, .ref 26), (1, .long x1), (3, .int (x3 + 1))] [] 60 mSH σ) ∧ (¬ (6 < x4) → ((0 + 2 ≤ bc ∧ 0 + 10 ≤ bs) ∧ mCall Γ M_X9_speakerTold (d + 1) 2 10 [.ref 26, .int x3, .int x4] 60 mSH σ (mRt Γ M_X9_digest (d + 2) Q n0 (bc - 2) (bs - 10) 71 [(0, .ref 26), (1, .long x1), (3, .int x3), (4, .int x4)] [.long (x1 * 31)]))))) : mK Γ M_X9_digest (d + 2) Q n0 bc bs 52 [(0, .ref 26), (1, .long x1), (3, .int x3), (4, .int x4)] [] 60 mSH σ := by
  refine mK_iload dX9_digest_52 rfl (.tail _ (.tail _ (.tail _ (.head _)))) ?_
  refine mK_bipush dX9_digest_54 rfl qbi_6 ?_
  refine mK_icmp_gt (tgt := 80) dX9_digest_56 rfl (by decide) (fun c1 => ?_) (fun c1 => ?_)
  · refine ru_iinc (lv1 := [(0, .ref 26), (1, .long x1), (3, .int (x3 + 1)), (4, .int x4)]) dX9_digest_80 rfl (.tail _ (.tail _ (.head _))) qic_1 (by decide) rfl ?_
    refine mK_goto (tgt := 38) dX9_digest_83 (by decide) ?_
    exact ru_pick [0, 1, 2] rfl (h.1 c1)
  · refine mK_lload_n dX9_digest_59 rfl rfl (.tail _ (.head _)) ?_
    refine mK_ldc2 dX9_digest_60 rfl kw_1597 ?_
    refine mK_lmul dX9_digest_63 rfl ?_
    refine mK_aload_n dX9_digest_64 rfl rfl (.head _) ?_
    refine mK_iload_n dX9_digest_65 rfl rfl (.tail _ (.tail _ (.head _))) ?_
    refine mK_iload dX9_digest_66 rfl (.tail _ (.tail _ (.tail _ (.head _)))) ?_
    refine mK_invV (J := M_X9_speakerTold) (k := 2) (as := [.int x3, .int x4]) (st := [.long (x1 * 31)]) (c1 := 2) (s1 := 10) dX9_digest_68 rfl jw_X9_speakerTold jn_X9_speakerTold rfl (Nat.le_of_ble_eq_true rfl) (by have := ((h.2 c1).1); omega) (by have := ((h.2 c1).1); omega) rfl kw_1477 kw_1479 kw_72 (b := 26) (Nat.le_of_ble_eq_true rfl) (Nat.le_of_ble_eq_true rfl) rfl ?_
    exact (h.2 c1).2
set_option maxRecDepth 20000 in
theorem T_X9_digest_26_162 {Γ : Nat × (Nat → Int32)} {d n0 bc bs : Nat} {Q : mQ} {σ : mS} (x1 : Int64) (x3 : Int32) (h : (((σ.1 26 4) ≤ x3 → Q (.inl (some (.long x1))) 60 mSH σ) ∧ (¬ ((σ.1 26 4) ≤ x3) → ((vp_in x3 1280) ∧ mK Γ M_X9_digest (d + 2) Q n0 bc bs 162 [(0, .ref 26), (1, .long ((x1 * 31) + (Int32.toInt64 (σ.1 28 (x3).toNatClampNeg)))), (3, .int (x3 + 1))] [] 60 mSH σ)))) : mK Γ M_X9_digest (d + 2) Q n0 bc bs 162 [(0, .ref 26), (1, .long x1), (3, .int x3)] [] 60 mSH σ := by
  refine mK_iload_n dX9_digest_162 rfl rfl (.tail _ (.tail _ (.head _))) ?_
  refine mK_aload_n dX9_digest_163 rfl rfl (.head _) ?_
  refine ru_getI (k := 4) (ci := 8) dX9_digest_164 rfl rfl kw_1131 ?_
  refine mK_icmp_ge (tgt := 190) dX9_digest_167 rfl (by decide) (fun c1 => ?_) (fun c1 => ?_)
  · refine mK_lload_n dX9_digest_190 rfl rfl (.tail _ (.head _)) ?_
    exact mK_lret dX9_digest_191 rfl (h.1 c1)
  · refine mK_lload_n dX9_digest_170 rfl rfl (.tail _ (.head _)) ?_
    refine mK_ldc2 dX9_digest_171 rfl kw_1597 ?_
    refine mK_lmul dX9_digest_174 rfl ?_
    refine mK_aload_n dX9_digest_175 rfl rfl (.head _) ?_
    refine ru_getR (k := 5) (ci := 8) (a := 28) dX9_digest_176 rfl rfl rfl kw_1132 ?_
    refine mK_iload_n dX9_digest_179 rfl rfl (.tail _ (.tail _ (.head _))) ?_
    refine ru_iald (n := 1280) dX9_digest_180 rfl rfl ((h.2 c1).1) ?_
    refine mK_i2l dX9_digest_181 rfl ?_
    refine mK_ladd dX9_digest_182 rfl ?_
    refine ru_lstore_n (lv1 := [(0, .ref 26), (1, .long ((x1 * 31) + (Int32.toInt64 (σ.1 28 (x3).toNatClampNeg)))), (3, .int x3)]) dX9_digest_183 rfl rfl (by decide) rfl ?_
    refine ru_iinc (lv1 := [(0, .ref 26), (1, .long ((x1 * 31) + (Int32.toInt64 (σ.1 28 (x3).toNatClampNeg)))), (3, .int (x3 + 1))]) dX9_digest_184 rfl (.tail _ (.tail _ (.head _))) qic_1 (by decide) rfl ?_
    refine mK_goto (tgt := 162) dX9_digest_187 (by decide) ?_
    exact (h.2 c1).2
set_option maxRecDepth 20000 in
theorem T_X9_digest_26_102 {Γ : Nat × (Nat → Int32)} {d n0 bc bs : Nat} {Q : mQ} {σ : mS} (x1 : Int64) (x3 : Int32) (x4 : Int32) (h : ((10 < x4 → mCall Γ M_X9_whyOf (d + 1) 0 0 [.ref 26, .int x3] 60 mSH σ (mRt Γ M_X9_digest (d + 2) Q n0 bc bs 140 [(0, .ref 26), (1, .long x1), (3, .int x3), (4, .int x4)] [.long (x1 * 31)])) ∧ (¬ (10 < x4) → mCall Γ M_X9_itemTold (d + 1) 0 0 [.ref 26, .int x3, .int x4] 60 mSH σ (mRt Γ M_X9_digest (d + 2) Q n0 bc bs 121 [(0, .ref 26), (1, .long x1), (3, .int x3), (4, .int x4)] [.long (x1 * 31)])))) : mK Γ M_X9_digest (d + 2) Q n0 bc bs 102 [(0, .ref 26), (1, .long x1), (3, .int x3), (4, .int x4)] [] 60 mSH σ := by
  refine mK_iload dX9_digest_102 rfl (.tail _ (.tail _ (.tail _ (.head _)))) ?_
  refine mK_bipush dX9_digest_104 rfl qbi_10 ?_
  refine mK_icmp_gt (tgt := 130) dX9_digest_106 rfl (by decide) (fun c1 => ?_) (fun c1 => ?_)
  · refine mK_lload_n dX9_digest_130 rfl rfl (.tail _ (.head _)) ?_
    refine mK_ldc2 dX9_digest_131 rfl kw_1597 ?_
    refine mK_lmul dX9_digest_134 rfl ?_
    refine mK_aload_n dX9_digest_135 rfl rfl (.head _) ?_
    refine mK_iload_n dX9_digest_136 rfl rfl (.tail _ (.tail _ (.head _))) ?_
    refine mK_invV (J := M_X9_whyOf) (k := 1) (as := [.int x3]) (st := [.long (x1 * 31)]) (c1 := 0) (s1 := 0) dX9_digest_137 rfl jw_X9_whyOf jn_X9_whyOf rfl (Nat.le_of_ble_eq_true rfl) (Nat.zero_le _) (Nat.zero_le _) rfl kw_1515 kw_1517 kw_78 (b := 26) (Nat.le_of_ble_eq_true rfl) (Nat.le_of_ble_eq_true rfl) rfl ?_
    exact (h.1 c1)
  · refine mK_lload_n dX9_digest_109 rfl rfl (.tail _ (.head _)) ?_
    refine mK_ldc2 dX9_digest_110 rfl kw_1597 ?_
    refine mK_lmul dX9_digest_113 rfl ?_
    refine mK_aload_n dX9_digest_114 rfl rfl (.head _) ?_
    refine mK_iload_n dX9_digest_115 rfl rfl (.tail _ (.tail _ (.head _))) ?_
    refine mK_iload dX9_digest_116 rfl (.tail _ (.tail _ (.tail _ (.head _)))) ?_
    refine mK_invV (J := M_X9_itemTold) (k := 2) (as := [.int x3, .int x4]) (st := [.long (x1 * 31)]) (c1 := 0) (s1 := 0) dX9_digest_118 rfl jw_X9_itemTold jn_X9_itemTold rfl (Nat.le_of_ble_eq_true rfl) (Nat.zero_le _) (Nat.zero_le _) rfl kw_1499 kw_1501 kw_76 (b := 26) (Nat.le_of_ble_eq_true rfl) (Nat.le_of_ble_eq_true rfl) rfl ?_
    exact (h.2 c1)
set_option maxRecDepth 20000 in
theorem T_X9_digest_26_71a {Γ : Nat × (Nat → Int32)} {d n0 bc bs : Nat} {Q : mQ} {σ : mS} (x1 : Int64) (x3 : Int32) (x4 : Int32) (y0 : Int64) (r : Int32) (h : mK Γ M_X9_digest (d + 2) Q n0 bc bs 52 [(0, .ref 26), (1, .long (y0 + (Int32.toInt64 r))), (3, .int x3), (4, .int (x4 + 1))] [] 60 mSH σ) : mRt Γ M_X9_digest (d + 2) Q n0 bc bs 71 [(0, .ref 26), (1, .long x1), (3, .int x3), (4, .int x4)] [.long y0] (.inl (some (.int r))) 60 mSH σ := by
  show mK Γ M_X9_digest (d + 2) Q n0 bc bs 71 [(0, .ref 26), (1, .long x1), (3, .int x3), (4, .int x4)] [.int r, .long y0] 60 mSH σ
  refine mK_i2l dX9_digest_71 rfl ?_
  refine mK_ladd dX9_digest_72 rfl ?_
  refine ru_lstore_n (lv1 := [(0, .ref 26), (1, .long (y0 + (Int32.toInt64 r))), (3, .int x3), (4, .int x4)]) dX9_digest_73 rfl rfl (by decide) rfl ?_
  refine ru_iinc (lv1 := [(0, .ref 26), (1, .long (y0 + (Int32.toInt64 r))), (3, .int x3), (4, .int (x4 + 1))]) dX9_digest_74 rfl (.tail _ (.tail _ (.tail _ (.head _)))) qic_1 (by decide) rfl ?_
  refine mK_goto (tgt := 52) dX9_digest_77 (by decide) ?_
  exact h
set_option maxRecDepth 20000 in
theorem T_X9_digest_26_140a {Γ : Nat × (Nat → Int32)} {d n0 bc bs : Nat} {Q : mQ} {σ : mS} (x1 : Int64) (x3 : Int32) (x4 : Int32) (y0 : Int64) (r : Int32) (h : mCall Γ M_X9_farOf (d + 1) 0 0 [.ref 26, .int x3] 60 mSH σ (mRt Γ M_X9_digest (d + 2) Q n0 bc bs 151 [(0, .ref 26), (1, .long x1), (3, .int x3), (4, .int x4)] [.long ((y0 + (Int32.toInt64 r)) * 31)])) : mRt Γ M_X9_digest (d + 2) Q n0 bc bs 140 [(0, .ref 26), (1, .long x1), (3, .int x3), (4, .int x4)] [.long y0] (.inl (some (.int r))) 60 mSH σ := by
  show mK Γ M_X9_digest (d + 2) Q n0 bc bs 140 [(0, .ref 26), (1, .long x1), (3, .int x3), (4, .int x4)] [.int r, .long y0] 60 mSH σ
  refine mK_i2l dX9_digest_140 rfl ?_
  refine mK_ladd dX9_digest_141 rfl ?_
  refine mK_ldc2 dX9_digest_142 rfl kw_1597 ?_
  refine mK_lmul dX9_digest_145 rfl ?_
  refine mK_aload_n dX9_digest_146 rfl rfl (.head _) ?_
  refine mK_iload_n dX9_digest_147 rfl rfl (.tail _ (.tail _ (.head _))) ?_
  refine mK_invV (J := M_X9_farOf) (k := 1) (as := [.int x3]) (st := [.long ((y0 + (Int32.toInt64 r)) * 31)]) (c1 := 0) (s1 := 0) dX9_digest_148 rfl jw_X9_farOf jn_X9_farOf rfl (Nat.le_of_ble_eq_true rfl) (Nat.zero_le _) (Nat.zero_le _) rfl kw_1523 kw_1525 kw_79 (b := 26) (Nat.le_of_ble_eq_true rfl) (Nat.le_of_ble_eq_true rfl) rfl ?_
  exact h
set_option maxRecDepth 20000 in
theorem T_X9_digest_26_121a {Γ : Nat × (Nat → Int32)} {d n0 bc bs : Nat} {Q : mQ} {σ : mS} (x1 : Int64) (x3 : Int32) (x4 : Int32) (y0 : Int64) (r : Int32) (h : mK Γ M_X9_digest (d + 2) Q n0 bc bs 102 [(0, .ref 26), (1, .long (y0 + (Int32.toInt64 r))), (3, .int x3), (4, .int (x4 + 1))] [] 60 mSH σ) : mRt Γ M_X9_digest (d + 2) Q n0 bc bs 121 [(0, .ref 26), (1, .long x1), (3, .int x3), (4, .int x4)] [.long y0] (.inl (some (.int r))) 60 mSH σ := by
  show mK Γ M_X9_digest (d + 2) Q n0 bc bs 121 [(0, .ref 26), (1, .long x1), (3, .int x3), (4, .int x4)] [.int r, .long y0] 60 mSH σ
  refine mK_i2l dX9_digest_121 rfl ?_
  refine mK_ladd dX9_digest_122 rfl ?_
  refine ru_lstore_n (lv1 := [(0, .ref 26), (1, .long (y0 + (Int32.toInt64 r))), (3, .int x3), (4, .int x4)]) dX9_digest_123 rfl rfl (by decide) rfl ?_
  refine ru_iinc (lv1 := [(0, .ref 26), (1, .long (y0 + (Int32.toInt64 r))), (3, .int x3), (4, .int (x4 + 1))]) dX9_digest_124 rfl (.tail _ (.tail _ (.tail _ (.head _)))) qic_1 (by decide) rfl ?_
  refine mK_goto (tgt := 102) dX9_digest_127 (by decide) ?_
  exact h
set_option maxRecDepth 20000 in
theorem T_X9_digest_26_151a {Γ : Nat × (Nat → Int32)} {d n0 bc bs : Nat} {Q : mQ} {σ : mS} (x1 : Int64) (x3 : Int32) (x4 : Int32) (y0 : Int64) (r : Int32) (h : mK Γ M_X9_digest (d + 2) Q n0 bc bs 88 [(0, .ref 26), (1, .long (y0 + (Int32.toInt64 r))), (3, .int (x3 + 1))] [] 60 mSH σ) : mRt Γ M_X9_digest (d + 2) Q n0 bc bs 151 [(0, .ref 26), (1, .long x1), (3, .int x3), (4, .int x4)] [.long y0] (.inl (some (.int r))) 60 mSH σ := by
  show mK Γ M_X9_digest (d + 2) Q n0 bc bs 151 [(0, .ref 26), (1, .long x1), (3, .int x3), (4, .int x4)] [.int r, .long y0] 60 mSH σ
  refine mK_i2l dX9_digest_151 rfl ?_
  refine mK_ladd dX9_digest_152 rfl ?_
  refine ru_lstore_n (lv1 := [(0, .ref 26), (1, .long (y0 + (Int32.toInt64 r))), (3, .int x3), (4, .int x4)]) dX9_digest_153 rfl rfl (by decide) rfl ?_
  refine ru_iinc (lv1 := [(0, .ref 26), (1, .long (y0 + (Int32.toInt64 r))), (3, .int (x3 + 1)), (4, .int x4)]) dX9_digest_154 rfl (.tail _ (.tail _ (.head _))) qic_1 (by decide) rfl ?_
  refine mK_goto (tgt := 88) dX9_digest_157 (by decide) ?_
  exact ru_pick [0, 1, 2] rfl h
