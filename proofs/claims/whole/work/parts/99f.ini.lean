/-! ===== the constructors; the law up to its loop ===== -/
def sg0 : mS := (fun _ _ => 0, fun _ _ => 0, fun _ _ => none)
def sg1 : mS := mPI sg0 0 8 (-1)
def sg2 : mS := mPI sg1 26 1 (-1)
def sg3 : mS := mPI sg2 26 18 (-1)
def sg4 : mS := mPI sg3 26 19 (-1)
def sg5 : mS := mPI sg4 26 20 (-1)
theorem zr_0 (N : Nat) : mZr sg0 N = sg0 := by
  refine Prod.ext (funext fun a => ?_) (Prod.ext (funext fun a => ?_) (funext fun a => ?_)) <;> (show (if a = N then _ else _) = _; split <;> rfl)
theorem zr_P {σ : mS} {N j k : Nat} {x : Int32} (h : mZr σ N = σ) (hj : N ≠ j) : mZr (mPI σ j k x) N = mPI σ j k x := by
  have h1 : (mZr σ N).1 = σ.1 := by rw [h]
  refine Prod.ext (funext fun a => ?_) (show (mZr σ N).2 = σ.2 from congrArg Prod.snd h)
  show (if a = N then (fun _ => 0) else mU2 σ.1 j k x a) = mU2 σ.1 j k x a
  have h2 : (if a = N then (fun _ => 0) else σ.1 a) = σ.1 a := congrFun h1 a
  split
  · next e =>
    rw [if_pos e] at h2
    rw [mU2_ne (show a ≠ j by omega)]; exact h2
  · rfl
theorem zr_1 (N : Nat) (h0 : N ≠ 0) : mZr sg1 N = sg1 := zr_P (zr_0 N) h0
theorem zr_2 (N : Nat) (h0 : N ≠ 0) (h1 : N ≠ 26) : mZr sg2 N = sg2 := zr_P (zr_1 N h0) h1
theorem zr_3 (N : Nat) (h0 : N ≠ 0) (h1 : N ≠ 26) : mZr sg3 N = sg3 := zr_P (zr_2 N h0 h1) h1
theorem zr_4 (N : Nat) (h0 : N ≠ 0) (h1 : N ≠ 26) : mZr sg4 N = sg4 := zr_P (zr_3 N h0 h1) h1
theorem zr_5 (N : Nat) (h0 : N ≠ 0) (h1 : N ≠ 26) : mZr sg5 N = sg5 := zr_P (zr_4 N h0 h1) h1
def shC_0 : mH := fun _ => (0, 0, fun _ => none)
def shC_1 : mH := (mNw shC_0 0 (6, 0, fun _ => none))
def shC_2 : mH := (mNw shC_1 1 (2, 0, fun _ => none))
def shC_3 : mH := (mPH (mNw shC_2 2 (101, 2000, fun _ => none)) 1 0 (some 2))
def shC_4 : mH := (mNw (mPH shC_3 0 0 (some 1)) 3 (2, 0, fun _ => none))
def shC_5 : mH := (mPH (mNw shC_4 4 (101, 920, fun _ => none)) 3 0 (some 4))
def shC_6 : mH := (mNw (mPH shC_5 0 1 (some 3)) 5 (0, 0, fun _ => none))
def shC_7 : mH := (mPH (mNw (mPH (mNw (mPH (mNw (mPH (mNw (mPH (mNw (mPH (mNw (mPH (mNw (mPH (mNw (mPH (mNw (mPH (mNw shC_6 6 (103, 6, fun _ => none)) 5 0 (some 6)) 7 (100, 6, fun _ => none)) 5 1 (some 7)) 8 (103, 40, fun _ => none)) 5 3 (some 8)) 9 (100, 40, fun _ => none)) 5 4 (some 9)) 10 (100, 40, fun _ => none)) 5 5 (some 10)) 11 (100, 40, fun _ => none)) 5 6 (some 11)) 12 (100, 40, fun _ => none)) 5 7 (some 12)) 13 (100, 40, fun _ => none)) 5 8 (some 13)) 14 (102, 40, fun _ => none)) 5 9 (some 14)) 15 (100, 6, fun _ => none)) 5 12 (some 15))
def shC_8 : mH := (mNw (mPH shC_7 0 2 (some 5)) 16 (3, 0, fun _ => none))
def shC_9 : mH := (mPH (mPH (mNw shC_8 17 (100, 40, fun _ => none)) 16 1 (some 17)) 16 0 (some 5))
def shC_10 : mH := (mNw (mPH shC_9 0 3 (some 16)) 18 (3, 0, fun _ => none))
def shC_11 : mH := (mPH (mPH (mNw shC_10 19 (100, 40, fun _ => none)) 18 1 (some 19)) 18 0 (some 5))
def shC_12 : mH := (mNw (mPH shC_11 0 4 (some 18)) 20 (5, 0, fun _ => none))
def shC_13 : mH := (mPH (mNw (mPH (mNw (mPH (mNw shC_12 21 (104, 401, fun _ => none)) 20 0 (some 21)) 22 (100, 401, fun _ => none)) 20 1 (some 22)) 23 (103, 401, fun _ => none)) 20 2 (some 23))
def shC_14 : mH := (mNw (mPH shC_13 0 5 (some 20)) 24 (1, 0, fun _ => none))
def shC_15 : mH := (mPH shC_14 24 0 (some 20))
def shC_16 : mH := (mNw (mPH shC_15 0 6 (some 24)) 25 (4, 0, fun _ => none))
def shC_17 : mH := (mPH (mPH (mPH shC_16 25 0 (some 20)) 25 1 (some 5)) 25 2 (some 16))
def shC_18 : mH := (mPH shC_17 0 7 (some 25))
def shC_19 : mH := (mNw shC_18 26 (8, 0, fun _ => none))
def shC_20 : mH := (mNw (mPH (mNw (mPH (mNw (mPH (mNw (mPH (mNw (mPH (mNw shC_19 27 (100, 2000, fun _ => none)) 26 3 (some 27)) 28 (100, 1280, fun _ => none)) 26 5 (some 28)) 29 (100, 402, fun _ => none)) 26 7 (some 29)) 30 (100, 402, fun _ => none)) 26 8 (some 30)) 31 (103, 402, fun _ => none)) 26 9 (some 31)) 32 (7, 0, fun _ => none))
def shC_21 : mH := (mPH (mNw (mPH (mNw (mPH (mNw (mPH (mNw (mPH (mNw (mPH (mNw (mPH (mNw (mPH (mNw (mPH (mNw (mPH shC_20 32 11 (some 26)) 33 (103, 6, fun _ => none)) 32 1 (some 33)) 34 (100, 6, fun _ => none)) 32 2 (some 34)) 35 (103, 40, fun _ => none)) 32 4 (some 35)) 36 (100, 40, fun _ => none)) 32 5 (some 36)) 37 (100, 40, fun _ => none)) 32 6 (some 37)) 38 (100, 40, fun _ => none)) 32 7 (some 38)) 39 (100, 40, fun _ => none)) 32 8 (some 39)) 40 (100, 40, fun _ => none)) 32 9 (some 40)) 41 (100, 40, fun _ => none)) 32 10 (some 41))
def shC_22 : mH := (mNw (mPH shC_21 26 11 (some 32)) 42 (7, 0, fun _ => none))
def shC_23 : mH := (mPH (mNw (mPH (mNw (mPH (mNw (mPH (mNw (mPH (mNw (mPH (mNw (mPH (mNw (mPH (mNw (mPH (mNw (mPH shC_22 42 11 (some 26)) 43 (103, 6, fun _ => none)) 42 1 (some 43)) 44 (100, 6, fun _ => none)) 42 2 (some 44)) 45 (103, 40, fun _ => none)) 42 4 (some 45)) 46 (100, 40, fun _ => none)) 42 5 (some 46)) 47 (100, 40, fun _ => none)) 42 6 (some 47)) 48 (100, 40, fun _ => none)) 42 7 (some 48)) 49 (100, 40, fun _ => none)) 42 8 (some 49)) 50 (100, 40, fun _ => none)) 42 9 (some 50)) 51 (100, 40, fun _ => none)) 42 10 (some 51))
def shC_24 : mH := (mPH (mNw (mPH (mNw (mPH (mNw (mPH (mNw (mPH (mNw (mPH (mNw (mPH (mNw (mPH shC_23 26 12 (some 42)) 52 (100, 40, fun _ => none)) 26 13 (some 52)) 53 (100, 40, fun _ => none)) 26 14 (some 53)) 54 (100, 40, fun _ => none)) 26 16 (some 54)) 55 (100, 40, fun _ => none)) 26 17 (some 55)) 56 (100, 40, fun _ => none)) 26 21 (some 56)) 57 (100, 40, fun _ => none)) 26 22 (some 57)) 58 (100, 40, fun _ => none)) 26 23 (some 58))
def shC_25 : mH := (mNw shC_24 59 (103, 1, fun _ => none))

set_option maxRecDepth 20000 in
theorem I_1 {Γ : Nat × (Nat → Int32)} {d : Nat} {Q : mQ} (h : Q (.inl none) 3 shC_3 sg0) : mCall Γ M_X3_init (d + 0) 1 2000 [.ref 1, .int 2000] 2 shC_2 sg0 Q := by
  refine mCall_of rfl (by decide) (Nat.le_of_ble_eq_true rfl) (mOkC (mOk_lo (Nat.le_of_ble_eq_true rfl)) (mOkC mOk_i mOkN)) ?_
  show mK Γ M_X3_init (d + 0) Q 2 1 2000 0 [(0, .ref 1), (1, .int 2000)] [] 2 shC_2 sg0
  refine mK_aload_n dX3_init_0 rfl rfl (.head _) ?_
  refine mK_objInit dX3_init_1 rfl (Nat.le_of_ble_eq_true rfl) kw_124 kw_117 kw_118 ?_
  refine mK_aload_n dX3_init_4 rfl rfl (.head _) ?_
  refine mK_iconst dX3_init_5 rfl qic_0 ?_
  refine mK_iload_n dX3_init_6 rfl rfl (.tail _ (.head _)) ?_
  refine mK_max dX3_init_7 rfl (Nat.le_of_ble_eq_true rfl) kw_125 kw_126 kw_89 kw_127 ?_
  rw [show (if (0 : Int32) < 2000 then (2000 : Int32) else 0) = 2000 by decide]
  show mK Γ M_X3_init (d + 0) Q 2 1 2000 10 [(0, .ref 1), (1, .int 2000)] [.int 2000, .ref 1] 2 shC_2 sg0
  refine mK_newB (n := 2000) dX3_init_10 rfl (by decide) (by decide) (Nat.le_of_ble_eq_true rfl) (Nat.le_of_ble_eq_true rfl) (Nat.le_of_ble_eq_true rfl) (Nat.le_of_ble_eq_true rfl) kw_135 ?_
  rw [zr_0 _]
  show mK Γ M_X3_init (d + 0) Q 2 0 0 12 [(0, .ref 1), (1, .int 2000)] [.ref 2, .ref 1] 3 (mNw shC_2 2 (101, 2000, fun _ => none)) sg0
  refine ru_putRF (ci := 2) (k := 0) dX3_init_12 rfl rfl rfl rfl rfl kw_128 ?_
  show mK Γ M_X3_init (d + 0) Q 2 0 0 15 [(0, .ref 1), (1, .int 2000)] [] 3 (mPH (mNw shC_2 2 (101, 2000, fun _ => none)) 1 0 (some 2)) sg0
  exact mK_vret dX3_init_15 rfl h
set_option maxRecDepth 20000 in
theorem I_3 {Γ : Nat × (Nat → Int32)} {d : Nat} {Q : mQ} (h : Q (.inl none) 5 shC_5 sg0) : mCall Γ M_X3_init (d + 0) 1 920 [.ref 3, .int 920] 4 shC_4 sg0 Q := by
  refine mCall_of rfl (by decide) (Nat.le_of_ble_eq_true rfl) (mOkC (mOk_lo (Nat.le_of_ble_eq_true rfl)) (mOkC mOk_i mOkN)) ?_
  show mK Γ M_X3_init (d + 0) Q 4 1 920 0 [(0, .ref 3), (1, .int 920)] [] 4 shC_4 sg0
  refine mK_aload_n dX3_init_0 rfl rfl (.head _) ?_
  refine mK_objInit dX3_init_1 rfl (Nat.le_of_ble_eq_true rfl) kw_124 kw_117 kw_118 ?_
  refine mK_aload_n dX3_init_4 rfl rfl (.head _) ?_
  refine mK_iconst dX3_init_5 rfl qic_0 ?_
  refine mK_iload_n dX3_init_6 rfl rfl (.tail _ (.head _)) ?_
  refine mK_max dX3_init_7 rfl (Nat.le_of_ble_eq_true rfl) kw_125 kw_126 kw_89 kw_127 ?_
  rw [show (if (0 : Int32) < 920 then (920 : Int32) else 0) = 920 by decide]
  show mK Γ M_X3_init (d + 0) Q 4 1 920 10 [(0, .ref 3), (1, .int 920)] [.int 920, .ref 3] 4 shC_4 sg0
  refine mK_newB (n := 920) dX3_init_10 rfl (by decide) (by decide) (Nat.le_of_ble_eq_true rfl) (Nat.le_of_ble_eq_true rfl) (Nat.le_of_ble_eq_true rfl) (Nat.le_of_ble_eq_true rfl) kw_135 ?_
  rw [zr_0 _]
  show mK Γ M_X3_init (d + 0) Q 4 0 0 12 [(0, .ref 3), (1, .int 920)] [.ref 4, .ref 3] 5 (mNw shC_4 4 (101, 920, fun _ => none)) sg0
  refine ru_putRF (ci := 2) (k := 0) dX3_init_12 rfl rfl rfl rfl rfl kw_128 ?_
  show mK Γ M_X3_init (d + 0) Q 4 0 0 15 [(0, .ref 3), (1, .int 920)] [] 5 (mPH (mNw shC_4 4 (101, 920, fun _ => none)) 3 0 (some 4)) sg0
  exact mK_vret dX3_init_15 rfl h
set_option maxRecDepth 20000 in
theorem I_5 {Γ : Nat × (Nat → Int32)} {d : Nat} {Q : mQ} (h : Q (.inl none) 16 shC_7 sg0) : mCall Γ M_X0_init (d + 0) 10 298 [.ref 5] 6 shC_6 sg0 Q := by
  refine mCall_of rfl (by decide) (Nat.le_of_ble_eq_true rfl) (mOkC (mOk_lo (Nat.le_of_ble_eq_true rfl)) mOkN) ?_
  show mK Γ M_X0_init (d + 0) Q 6 10 298 0 [(0, .ref 5)] [] 6 shC_6 sg0
  refine mK_aload_n dX0_init_0 rfl rfl (.head _) ?_
  refine mK_objInit dX0_init_1 rfl (Nat.le_of_ble_eq_true rfl) kw_141 kw_117 kw_118 ?_
  refine mK_aload_n dX0_init_4 rfl rfl (.head _) ?_
  refine mK_bipush dX0_init_5 rfl qbi_6 ?_
  refine mK_newL (n := 6) dX0_init_7 rfl (by decide) (by decide) (Nat.le_of_ble_eq_true rfl) (Nat.le_of_ble_eq_true rfl) (Nat.le_of_ble_eq_true rfl) (Nat.le_of_ble_eq_true rfl) kw_191 ?_
  rw [zr_0 _]
  show mK Γ M_X0_init (d + 0) Q 6 9 292 9 [(0, .ref 5)] [.ref 6, .ref 5] 7 (mNw shC_6 6 (103, 6, fun _ => none)) sg0
  refine ru_putRF (ci := 0) (k := 0) dX0_init_9 rfl rfl rfl rfl rfl kw_142 ?_
  show mK Γ M_X0_init (d + 0) Q 6 9 292 12 [(0, .ref 5)] [] 7 (mPH (mNw shC_6 6 (103, 6, fun _ => none)) 5 0 (some 6)) sg0
  refine mK_aload_n dX0_init_12 rfl rfl (.head _) ?_
  refine mK_bipush dX0_init_13 rfl qbi_6 ?_
  refine mK_newI (n := 6) dX0_init_15 rfl (by decide) (by decide) (Nat.le_of_ble_eq_true rfl) (Nat.le_of_ble_eq_true rfl) (Nat.le_of_ble_eq_true rfl) (Nat.le_of_ble_eq_true rfl) kw_192 ?_
  rw [zr_0 _]
  show mK Γ M_X0_init (d + 0) Q 6 8 286 17 [(0, .ref 5)] [.ref 7, .ref 5] 8 (mNw (mPH (mNw shC_6 6 (103, 6, fun _ => none)) 5 0 (some 6)) 7 (100, 6, fun _ => none)) sg0
  refine ru_putRF (ci := 0) (k := 1) dX0_init_17 rfl rfl rfl rfl rfl kw_143 ?_
  show mK Γ M_X0_init (d + 0) Q 6 8 286 20 [(0, .ref 5)] [] 8 (mPH (mNw (mPH (mNw shC_6 6 (103, 6, fun _ => none)) 5 0 (some 6)) 7 (100, 6, fun _ => none)) 5 1 (some 7)) sg0
  refine mK_aload_n dX0_init_20 rfl rfl (.head _) ?_
  refine mK_bipush dX0_init_21 rfl qbi_40 ?_
  refine mK_newL (n := 40) dX0_init_23 rfl (by decide) (by decide) (Nat.le_of_ble_eq_true rfl) (Nat.le_of_ble_eq_true rfl) (Nat.le_of_ble_eq_true rfl) (Nat.le_of_ble_eq_true rfl) kw_191 ?_
  rw [zr_0 _]
  show mK Γ M_X0_init (d + 0) Q 6 7 246 25 [(0, .ref 5)] [.ref 8, .ref 5] 9 (mNw (mPH (mNw (mPH (mNw shC_6 6 (103, 6, fun _ => none)) 5 0 (some 6)) 7 (100, 6, fun _ => none)) 5 1 (some 7)) 8 (103, 40, fun _ => none)) sg0
  refine ru_putRF (ci := 0) (k := 3) dX0_init_25 rfl rfl rfl rfl rfl kw_145 ?_
  show mK Γ M_X0_init (d + 0) Q 6 7 246 28 [(0, .ref 5)] [] 9 (mPH (mNw (mPH (mNw (mPH (mNw shC_6 6 (103, 6, fun _ => none)) 5 0 (some 6)) 7 (100, 6, fun _ => none)) 5 1 (some 7)) 8 (103, 40, fun _ => none)) 5 3 (some 8)) sg0
  refine mK_aload_n dX0_init_28 rfl rfl (.head _) ?_
  refine mK_bipush dX0_init_29 rfl qbi_40 ?_
  refine mK_newI (n := 40) dX0_init_31 rfl (by decide) (by decide) (Nat.le_of_ble_eq_true rfl) (Nat.le_of_ble_eq_true rfl) (Nat.le_of_ble_eq_true rfl) (Nat.le_of_ble_eq_true rfl) kw_192 ?_
  rw [zr_0 _]
  show mK Γ M_X0_init (d + 0) Q 6 6 206 33 [(0, .ref 5)] [.ref 9, .ref 5] 10 (mNw (mPH (mNw (mPH (mNw (mPH (mNw shC_6 6 (103, 6, fun _ => none)) 5 0 (some 6)) 7 (100, 6, fun _ => none)) 5 1 (some 7)) 8 (103, 40, fun _ => none)) 5 3 (some 8)) 9 (100, 40, fun _ => none)) sg0
  refine ru_putRF (ci := 0) (k := 4) dX0_init_33 rfl rfl rfl rfl rfl kw_146 ?_
  show mK Γ M_X0_init (d + 0) Q 6 6 206 36 [(0, .ref 5)] [] 10 (mPH (mNw (mPH (mNw (mPH (mNw (mPH (mNw shC_6 6 (103, 6, fun _ => none)) 5 0 (some 6)) 7 (100, 6, fun _ => none)) 5 1 (some 7)) 8 (103, 40, fun _ => none)) 5 3 (some 8)) 9 (100, 40, fun _ => none)) 5 4 (some 9)) sg0
  refine mK_aload_n dX0_init_36 rfl rfl (.head _) ?_
  refine mK_bipush dX0_init_37 rfl qbi_40 ?_
  refine mK_newI (n := 40) dX0_init_39 rfl (by decide) (by decide) (Nat.le_of_ble_eq_true rfl) (Nat.le_of_ble_eq_true rfl) (Nat.le_of_ble_eq_true rfl) (Nat.le_of_ble_eq_true rfl) kw_192 ?_
  rw [zr_0 _]
  show mK Γ M_X0_init (d + 0) Q 6 5 166 41 [(0, .ref 5)] [.ref 10, .ref 5] 11 (mNw (mPH (mNw (mPH (mNw (mPH (mNw (mPH (mNw shC_6 6 (103, 6, fun _ => none)) 5 0 (some 6)) 7 (100, 6, fun _ => none)) 5 1 (some 7)) 8 (103, 40, fun _ => none)) 5 3 (some 8)) 9 (100, 40, fun _ => none)) 5 4 (some 9)) 10 (100, 40, fun _ => none)) sg0
  refine ru_putRF (ci := 0) (k := 5) dX0_init_41 rfl rfl rfl rfl rfl kw_147 ?_
  show mK Γ M_X0_init (d + 0) Q 6 5 166 44 [(0, .ref 5)] [] 11 (mPH (mNw (mPH (mNw (mPH (mNw (mPH (mNw (mPH (mNw shC_6 6 (103, 6, fun _ => none)) 5 0 (some 6)) 7 (100, 6, fun _ => none)) 5 1 (some 7)) 8 (103, 40, fun _ => none)) 5 3 (some 8)) 9 (100, 40, fun _ => none)) 5 4 (some 9)) 10 (100, 40, fun _ => none)) 5 5 (some 10)) sg0
  refine mK_aload_n dX0_init_44 rfl rfl (.head _) ?_
  refine mK_bipush dX0_init_45 rfl qbi_40 ?_
  refine mK_newI (n := 40) dX0_init_47 rfl (by decide) (by decide) (Nat.le_of_ble_eq_true rfl) (Nat.le_of_ble_eq_true rfl) (Nat.le_of_ble_eq_true rfl) (Nat.le_of_ble_eq_true rfl) kw_192 ?_
  rw [zr_0 _]
  show mK Γ M_X0_init (d + 0) Q 6 4 126 49 [(0, .ref 5)] [.ref 11, .ref 5] 12 (mNw (mPH (mNw (mPH (mNw (mPH (mNw (mPH (mNw (mPH (mNw shC_6 6 (103, 6, fun _ => none)) 5 0 (some 6)) 7 (100, 6, fun _ => none)) 5 1 (some 7)) 8 (103, 40, fun _ => none)) 5 3 (some 8)) 9 (100, 40, fun _ => none)) 5 4 (some 9)) 10 (100, 40, fun _ => none)) 5 5 (some 10)) 11 (100, 40, fun _ => none)) sg0
  refine ru_putRF (ci := 0) (k := 6) dX0_init_49 rfl rfl rfl rfl rfl kw_148 ?_
  show mK Γ M_X0_init (d + 0) Q 6 4 126 52 [(0, .ref 5)] [] 12 (mPH (mNw (mPH (mNw (mPH (mNw (mPH (mNw (mPH (mNw (mPH (mNw shC_6 6 (103, 6, fun _ => none)) 5 0 (some 6)) 7 (100, 6, fun _ => none)) 5 1 (some 7)) 8 (103, 40, fun _ => none)) 5 3 (some 8)) 9 (100, 40, fun _ => none)) 5 4 (some 9)) 10 (100, 40, fun _ => none)) 5 5 (some 10)) 11 (100, 40, fun _ => none)) 5 6 (some 11)) sg0
  refine mK_aload_n dX0_init_52 rfl rfl (.head _) ?_
  refine mK_bipush dX0_init_53 rfl qbi_40 ?_
  refine mK_newI (n := 40) dX0_init_55 rfl (by decide) (by decide) (Nat.le_of_ble_eq_true rfl) (Nat.le_of_ble_eq_true rfl) (Nat.le_of_ble_eq_true rfl) (Nat.le_of_ble_eq_true rfl) kw_192 ?_
  rw [zr_0 _]
  show mK Γ M_X0_init (d + 0) Q 6 3 86 57 [(0, .ref 5)] [.ref 12, .ref 5] 13 (mNw (mPH (mNw (mPH (mNw (mPH (mNw (mPH (mNw (mPH (mNw (mPH (mNw shC_6 6 (103, 6, fun _ => none)) 5 0 (some 6)) 7 (100, 6, fun _ => none)) 5 1 (some 7)) 8 (103, 40, fun _ => none)) 5 3 (some 8)) 9 (100, 40, fun _ => none)) 5 4 (some 9)) 10 (100, 40, fun _ => none)) 5 5 (some 10)) 11 (100, 40, fun _ => none)) 5 6 (some 11)) 12 (100, 40, fun _ => none)) sg0
  refine ru_putRF (ci := 0) (k := 7) dX0_init_57 rfl rfl rfl rfl rfl kw_149 ?_
  show mK Γ M_X0_init (d + 0) Q 6 3 86 60 [(0, .ref 5)] [] 13 (mPH (mNw (mPH (mNw (mPH (mNw (mPH (mNw (mPH (mNw (mPH (mNw (mPH (mNw shC_6 6 (103, 6, fun _ => none)) 5 0 (some 6)) 7 (100, 6, fun _ => none)) 5 1 (some 7)) 8 (103, 40, fun _ => none)) 5 3 (some 8)) 9 (100, 40, fun _ => none)) 5 4 (some 9)) 10 (100, 40, fun _ => none)) 5 5 (some 10)) 11 (100, 40, fun _ => none)) 5 6 (some 11)) 12 (100, 40, fun _ => none)) 5 7 (some 12)) sg0
  refine mK_aload_n dX0_init_60 rfl rfl (.head _) ?_
  refine mK_bipush dX0_init_61 rfl qbi_40 ?_
  refine mK_newI (n := 40) dX0_init_63 rfl (by decide) (by decide) (Nat.le_of_ble_eq_true rfl) (Nat.le_of_ble_eq_true rfl) (Nat.le_of_ble_eq_true rfl) (Nat.le_of_ble_eq_true rfl) kw_192 ?_
  rw [zr_0 _]
  show mK Γ M_X0_init (d + 0) Q 6 2 46 65 [(0, .ref 5)] [.ref 13, .ref 5] 14 (mNw (mPH (mNw (mPH (mNw (mPH (mNw (mPH (mNw (mPH (mNw (mPH (mNw (mPH (mNw shC_6 6 (103, 6, fun _ => none)) 5 0 (some 6)) 7 (100, 6, fun _ => none)) 5 1 (some 7)) 8 (103, 40, fun _ => none)) 5 3 (some 8)) 9 (100, 40, fun _ => none)) 5 4 (some 9)) 10 (100, 40, fun _ => none)) 5 5 (some 10)) 11 (100, 40, fun _ => none)) 5 6 (some 11)) 12 (100, 40, fun _ => none)) 5 7 (some 12)) 13 (100, 40, fun _ => none)) sg0
  refine ru_putRF (ci := 0) (k := 8) dX0_init_65 rfl rfl rfl rfl rfl kw_150 ?_
  show mK Γ M_X0_init (d + 0) Q 6 2 46 68 [(0, .ref 5)] [] 14 (mPH (mNw (mPH (mNw (mPH (mNw (mPH (mNw (mPH (mNw (mPH (mNw (mPH (mNw (mPH (mNw shC_6 6 (103, 6, fun _ => none)) 5 0 (some 6)) 7 (100, 6, fun _ => none)) 5 1 (some 7)) 8 (103, 40, fun _ => none)) 5 3 (some 8)) 9 (100, 40, fun _ => none)) 5 4 (some 9)) 10 (100, 40, fun _ => none)) 5 5 (some 10)) 11 (100, 40, fun _ => none)) 5 6 (some 11)) 12 (100, 40, fun _ => none)) 5 7 (some 12)) 13 (100, 40, fun _ => none)) 5 8 (some 13)) sg0
  refine mK_aload_n dX0_init_68 rfl rfl (.head _) ?_
  refine mK_bipush dX0_init_69 rfl qbi_40 ?_
  refine mK_newZ (n := 40) dX0_init_71 rfl (by decide) (by decide) (Nat.le_of_ble_eq_true rfl) (Nat.le_of_ble_eq_true rfl) (Nat.le_of_ble_eq_true rfl) (Nat.le_of_ble_eq_true rfl) kw_193 ?_
  rw [zr_0 _]
  show mK Γ M_X0_init (d + 0) Q 6 1 6 73 [(0, .ref 5)] [.ref 14, .ref 5] 15 (mNw (mPH (mNw (mPH (mNw (mPH (mNw (mPH (mNw (mPH (mNw (mPH (mNw (mPH (mNw (mPH (mNw shC_6 6 (103, 6, fun _ => none)) 5 0 (some 6)) 7 (100, 6, fun _ => none)) 5 1 (some 7)) 8 (103, 40, fun _ => none)) 5 3 (some 8)) 9 (100, 40, fun _ => none)) 5 4 (some 9)) 10 (100, 40, fun _ => none)) 5 5 (some 10)) 11 (100, 40, fun _ => none)) 5 6 (some 11)) 12 (100, 40, fun _ => none)) 5 7 (some 12)) 13 (100, 40, fun _ => none)) 5 8 (some 13)) 14 (102, 40, fun _ => none)) sg0
  refine ru_putRF (ci := 0) (k := 9) dX0_init_73 rfl rfl rfl rfl rfl kw_151 ?_
  show mK Γ M_X0_init (d + 0) Q 6 1 6 76 [(0, .ref 5)] [] 15 (mPH (mNw (mPH (mNw (mPH (mNw (mPH (mNw (mPH (mNw (mPH (mNw (mPH (mNw (mPH (mNw (mPH (mNw shC_6 6 (103, 6, fun _ => none)) 5 0 (some 6)) 7 (100, 6, fun _ => none)) 5 1 (some 7)) 8 (103, 40, fun _ => none)) 5 3 (some 8)) 9 (100, 40, fun _ => none)) 5 4 (some 9)) 10 (100, 40, fun _ => none)) 5 5 (some 10)) 11 (100, 40, fun _ => none)) 5 6 (some 11)) 12 (100, 40, fun _ => none)) 5 7 (some 12)) 13 (100, 40, fun _ => none)) 5 8 (some 13)) 14 (102, 40, fun _ => none)) 5 9 (some 14)) sg0
  refine mK_aload_n dX0_init_76 rfl rfl (.head _) ?_
  refine mK_bipush dX0_init_77 rfl qbi_6 ?_
  refine mK_newI (n := 6) dX0_init_79 rfl (by decide) (by decide) (Nat.le_of_ble_eq_true rfl) (Nat.le_of_ble_eq_true rfl) (Nat.le_of_ble_eq_true rfl) (Nat.le_of_ble_eq_true rfl) kw_192 ?_
  rw [zr_0 _]
  show mK Γ M_X0_init (d + 0) Q 6 0 0 81 [(0, .ref 5)] [.ref 15, .ref 5] 16 (mNw (mPH (mNw (mPH (mNw (mPH (mNw (mPH (mNw (mPH (mNw (mPH (mNw (mPH (mNw (mPH (mNw (mPH (mNw shC_6 6 (103, 6, fun _ => none)) 5 0 (some 6)) 7 (100, 6, fun _ => none)) 5 1 (some 7)) 8 (103, 40, fun _ => none)) 5 3 (some 8)) 9 (100, 40, fun _ => none)) 5 4 (some 9)) 10 (100, 40, fun _ => none)) 5 5 (some 10)) 11 (100, 40, fun _ => none)) 5 6 (some 11)) 12 (100, 40, fun _ => none)) 5 7 (some 12)) 13 (100, 40, fun _ => none)) 5 8 (some 13)) 14 (102, 40, fun _ => none)) 5 9 (some 14)) 15 (100, 6, fun _ => none)) sg0
  refine ru_putRF (ci := 0) (k := 12) dX0_init_81 rfl rfl rfl rfl rfl kw_154 ?_
  show mK Γ M_X0_init (d + 0) Q 6 0 0 84 [(0, .ref 5)] [] 16 (mPH (mNw (mPH (mNw (mPH (mNw (mPH (mNw (mPH (mNw (mPH (mNw (mPH (mNw (mPH (mNw (mPH (mNw (mPH (mNw shC_6 6 (103, 6, fun _ => none)) 5 0 (some 6)) 7 (100, 6, fun _ => none)) 5 1 (some 7)) 8 (103, 40, fun _ => none)) 5 3 (some 8)) 9 (100, 40, fun _ => none)) 5 4 (some 9)) 10 (100, 40, fun _ => none)) 5 5 (some 10)) 11 (100, 40, fun _ => none)) 5 6 (some 11)) 12 (100, 40, fun _ => none)) 5 7 (some 12)) 13 (100, 40, fun _ => none)) 5 8 (some 13)) 14 (102, 40, fun _ => none)) 5 9 (some 14)) 15 (100, 6, fun _ => none)) 5 12 (some 15)) sg0
  exact mK_vret dX0_init_84 rfl h
set_option maxRecDepth 20000 in
theorem I_16 {Γ : Nat × (Nat → Int32)} {d : Nat} {Q : mQ} (h : Q (.inl none) 18 shC_9 sg0) : mCall Γ M_X4_init (d + 0) 1 40 [.ref 16, .ref 5] 17 shC_8 sg0 Q := by
  refine mCall_of rfl (by decide) (Nat.le_of_ble_eq_true rfl) (mOkC (mOk_lo (Nat.le_of_ble_eq_true rfl)) (mOkC (mOk_lo (Nat.le_of_ble_eq_true rfl)) mOkN)) ?_
  show mK Γ M_X4_init (d + 0) Q 17 1 40 0 [(0, .ref 16), (1, .ref 5)] [] 17 shC_8 sg0
  refine mK_aload_n dX4_init_0 rfl rfl (.head _) ?_
  refine mK_objInit dX4_init_1 rfl (Nat.le_of_ble_eq_true rfl) kw_199 kw_117 kw_118 ?_
  refine mK_aload_n dX4_init_4 rfl rfl (.head _) ?_
  refine mK_bipush dX4_init_5 rfl qbi_40 ?_
  refine mK_newI (n := 40) dX4_init_7 rfl (by decide) (by decide) (Nat.le_of_ble_eq_true rfl) (Nat.le_of_ble_eq_true rfl) (Nat.le_of_ble_eq_true rfl) (Nat.le_of_ble_eq_true rfl) kw_192 ?_
  rw [zr_0 _]
  show mK Γ M_X4_init (d + 0) Q 17 0 0 9 [(0, .ref 16), (1, .ref 5)] [.ref 17, .ref 16] 18 (mNw shC_8 17 (100, 40, fun _ => none)) sg0
  refine ru_putRF (ci := 3) (k := 1) dX4_init_9 rfl rfl rfl rfl rfl kw_201 ?_
  show mK Γ M_X4_init (d + 0) Q 17 0 0 12 [(0, .ref 16), (1, .ref 5)] [] 18 (mPH (mNw shC_8 17 (100, 40, fun _ => none)) 16 1 (some 17)) sg0
  refine mK_aload_n dX4_init_12 rfl rfl (.head _) ?_
  refine mK_aload_n dX4_init_13 rfl rfl (.tail _ (.head _)) ?_
  refine ru_putRF (ci := 3) (k := 0) dX4_init_14 rfl rfl rfl rfl rfl kw_200 ?_
  show mK Γ M_X4_init (d + 0) Q 17 0 0 17 [(0, .ref 16), (1, .ref 5)] [] 18 (mPH (mPH (mNw shC_8 17 (100, 40, fun _ => none)) 16 1 (some 17)) 16 0 (some 5)) sg0
  exact mK_vret dX4_init_17 rfl h
set_option maxRecDepth 20000 in
theorem I_18 {Γ : Nat × (Nat → Int32)} {d : Nat} {Q : mQ} (h : Q (.inl none) 20 shC_11 sg0) : mCall Γ M_X4_init (d + 0) 1 40 [.ref 18, .ref 5] 19 shC_10 sg0 Q := by
  refine mCall_of rfl (by decide) (Nat.le_of_ble_eq_true rfl) (mOkC (mOk_lo (Nat.le_of_ble_eq_true rfl)) (mOkC (mOk_lo (Nat.le_of_ble_eq_true rfl)) mOkN)) ?_
  show mK Γ M_X4_init (d + 0) Q 19 1 40 0 [(0, .ref 18), (1, .ref 5)] [] 19 shC_10 sg0
  refine mK_aload_n dX4_init_0 rfl rfl (.head _) ?_
  refine mK_objInit dX4_init_1 rfl (Nat.le_of_ble_eq_true rfl) kw_199 kw_117 kw_118 ?_
  refine mK_aload_n dX4_init_4 rfl rfl (.head _) ?_
  refine mK_bipush dX4_init_5 rfl qbi_40 ?_
  refine mK_newI (n := 40) dX4_init_7 rfl (by decide) (by decide) (Nat.le_of_ble_eq_true rfl) (Nat.le_of_ble_eq_true rfl) (Nat.le_of_ble_eq_true rfl) (Nat.le_of_ble_eq_true rfl) kw_192 ?_
  rw [zr_0 _]
  show mK Γ M_X4_init (d + 0) Q 19 0 0 9 [(0, .ref 18), (1, .ref 5)] [.ref 19, .ref 18] 20 (mNw shC_10 19 (100, 40, fun _ => none)) sg0
  refine ru_putRF (ci := 3) (k := 1) dX4_init_9 rfl rfl rfl rfl rfl kw_201 ?_
  show mK Γ M_X4_init (d + 0) Q 19 0 0 12 [(0, .ref 18), (1, .ref 5)] [] 20 (mPH (mNw shC_10 19 (100, 40, fun _ => none)) 18 1 (some 19)) sg0
  refine mK_aload_n dX4_init_12 rfl rfl (.head _) ?_
  refine mK_aload_n dX4_init_13 rfl rfl (.tail _ (.head _)) ?_
  refine ru_putRF (ci := 3) (k := 0) dX4_init_14 rfl rfl rfl rfl rfl kw_200 ?_
  show mK Γ M_X4_init (d + 0) Q 19 0 0 17 [(0, .ref 18), (1, .ref 5)] [] 20 (mPH (mPH (mNw shC_10 19 (100, 40, fun _ => none)) 18 1 (some 19)) 18 0 (some 5)) sg0
  exact mK_vret dX4_init_17 rfl h
set_option maxRecDepth 20000 in
theorem I_20 {Γ : Nat × (Nat → Int32)} {d : Nat} {Q : mQ} (h : Q (.inl none) 24 shC_13 sg0) : mCall Γ M_X6_init (d + 0) 3 1203 [.ref 20] 21 shC_12 sg0 Q := by
  refine mCall_of rfl (by decide) (Nat.le_of_ble_eq_true rfl) (mOkC (mOk_lo (Nat.le_of_ble_eq_true rfl)) mOkN) ?_
  show mK Γ M_X6_init (d + 0) Q 21 3 1203 0 [(0, .ref 20)] [] 21 shC_12 sg0
  refine mK_aload_n dX6_init_0 rfl rfl (.head _) ?_
  refine mK_objInit dX6_init_1 rfl (Nat.le_of_ble_eq_true rfl) kw_224 kw_117 kw_118 ?_
  refine mK_aload_n dX6_init_4 rfl rfl (.head _) ?_
  refine mK_sipush dX6_init_5 rfl qsi_401 ?_
  refine mK_newQ (n := 401) dX6_init_8 rfl (by decide) (by decide) (Nat.le_of_ble_eq_true rfl) (Nat.le_of_ble_eq_true rfl) (Nat.le_of_ble_eq_true rfl) (Nat.le_of_ble_eq_true rfl) kw_225 kn_226 ?_
  rw [zr_0 _]
  show mK Γ M_X6_init (d + 0) Q 21 2 802 11 [(0, .ref 20)] [.ref 21, .ref 20] 22 (mNw shC_12 21 (104, 401, fun _ => none)) sg0
  refine ru_putRF (ci := 5) (k := 0) dX6_init_11 rfl rfl rfl rfl rfl kw_227 ?_
  show mK Γ M_X6_init (d + 0) Q 21 2 802 14 [(0, .ref 20)] [] 22 (mPH (mNw shC_12 21 (104, 401, fun _ => none)) 20 0 (some 21)) sg0
  refine mK_aload_n dX6_init_14 rfl rfl (.head _) ?_
  refine mK_sipush dX6_init_15 rfl qsi_401 ?_
  refine mK_newI (n := 401) dX6_init_18 rfl (by decide) (by decide) (Nat.le_of_ble_eq_true rfl) (Nat.le_of_ble_eq_true rfl) (Nat.le_of_ble_eq_true rfl) (Nat.le_of_ble_eq_true rfl) kw_192 ?_
  rw [zr_0 _]
  show mK Γ M_X6_init (d + 0) Q 21 1 401 20 [(0, .ref 20)] [.ref 22, .ref 20] 23 (mNw (mPH (mNw shC_12 21 (104, 401, fun _ => none)) 20 0 (some 21)) 22 (100, 401, fun _ => none)) sg0
  refine ru_putRF (ci := 5) (k := 1) dX6_init_20 rfl rfl rfl rfl rfl kw_228 ?_
  show mK Γ M_X6_init (d + 0) Q 21 1 401 23 [(0, .ref 20)] [] 23 (mPH (mNw (mPH (mNw shC_12 21 (104, 401, fun _ => none)) 20 0 (some 21)) 22 (100, 401, fun _ => none)) 20 1 (some 22)) sg0
  refine mK_aload_n dX6_init_23 rfl rfl (.head _) ?_
  refine mK_sipush dX6_init_24 rfl qsi_401 ?_
  refine mK_newL (n := 401) dX6_init_27 rfl (by decide) (by decide) (Nat.le_of_ble_eq_true rfl) (Nat.le_of_ble_eq_true rfl) (Nat.le_of_ble_eq_true rfl) (Nat.le_of_ble_eq_true rfl) kw_191 ?_
  rw [zr_0 _]
  show mK Γ M_X6_init (d + 0) Q 21 0 0 29 [(0, .ref 20)] [.ref 23, .ref 20] 24 (mNw (mPH (mNw (mPH (mNw shC_12 21 (104, 401, fun _ => none)) 20 0 (some 21)) 22 (100, 401, fun _ => none)) 20 1 (some 22)) 23 (103, 401, fun _ => none)) sg0
  refine ru_putRF (ci := 5) (k := 2) dX6_init_29 rfl rfl rfl rfl rfl kw_229 ?_
  show mK Γ M_X6_init (d + 0) Q 21 0 0 32 [(0, .ref 20)] [] 24 (mPH (mNw (mPH (mNw (mPH (mNw shC_12 21 (104, 401, fun _ => none)) 20 0 (some 21)) 22 (100, 401, fun _ => none)) 20 1 (some 22)) 23 (103, 401, fun _ => none)) 20 2 (some 23)) sg0
  exact mK_vret dX6_init_32 rfl h
set_option maxRecDepth 20000 in
theorem I_24 {Γ : Nat × (Nat → Int32)} {d : Nat} {Q : mQ} (h : Q (.inl none) 25 shC_15 sg0) : mCall Γ M_X1_init (d + 0) 0 0 [.ref 24, .ref 20] 25 shC_14 sg0 Q := by
  refine mCall_of rfl (by decide) (Nat.le_of_ble_eq_true rfl) (mOkC (mOk_lo (Nat.le_of_ble_eq_true rfl)) (mOkC (mOk_lo (Nat.le_of_ble_eq_true rfl)) mOkN)) ?_
  show mK Γ M_X1_init (d + 0) Q 25 0 0 0 [(0, .ref 24), (1, .ref 20)] [] 25 shC_14 sg0
  refine mK_aload_n dX1_init_0 rfl rfl (.head _) ?_
  refine mK_objInit dX1_init_1 rfl (Nat.le_of_ble_eq_true rfl) kw_245 kw_117 kw_118 ?_
  refine mK_aload_n dX1_init_4 rfl rfl (.head _) ?_
  refine mK_aload_n dX1_init_5 rfl rfl (.tail _ (.head _)) ?_
  refine ru_putRF (ci := 1) (k := 0) dX1_init_6 rfl rfl rfl rfl rfl kw_246 ?_
  show mK Γ M_X1_init (d + 0) Q 25 0 0 9 [(0, .ref 24), (1, .ref 20)] [] 25 (mPH shC_14 24 0 (some 20)) sg0
  exact mK_vret dX1_init_9 rfl h
set_option maxRecDepth 20000 in
theorem I_25 {Γ : Nat × (Nat → Int32)} {d : Nat} {Q : mQ} (h : Q (.inl none) 26 shC_17 sg0) : mCall Γ M_X5_init (d + 0) 0 0 [.ref 25, .ref 20, .ref 5, .ref 16] 26 shC_16 sg0 Q := by
  refine mCall_of rfl (by decide) (Nat.le_of_ble_eq_true rfl) (mOkC (mOk_lo (Nat.le_of_ble_eq_true rfl)) (mOkC (mOk_lo (Nat.le_of_ble_eq_true rfl)) (mOkC (mOk_lo (Nat.le_of_ble_eq_true rfl)) (mOkC (mOk_lo (Nat.le_of_ble_eq_true rfl)) mOkN)))) ?_
  show mK Γ M_X5_init (d + 0) Q 26 0 0 0 [(0, .ref 25), (1, .ref 20), (2, .ref 5), (3, .ref 16)] [] 26 shC_16 sg0
  refine mK_aload_n dX5_init_0 rfl rfl (.head _) ?_
  refine mK_objInit dX5_init_1 rfl (Nat.le_of_ble_eq_true rfl) kw_261 kw_117 kw_118 ?_
  refine mK_aload_n dX5_init_4 rfl rfl (.head _) ?_
  refine mK_aload_n dX5_init_5 rfl rfl (.tail _ (.head _)) ?_
  refine ru_putRF (ci := 4) (k := 0) dX5_init_6 rfl rfl rfl rfl rfl kw_262 ?_
  show mK Γ M_X5_init (d + 0) Q 26 0 0 9 [(0, .ref 25), (1, .ref 20), (2, .ref 5), (3, .ref 16)] [] 26 (mPH shC_16 25 0 (some 20)) sg0
  refine mK_aload_n dX5_init_9 rfl rfl (.head _) ?_
  refine mK_aload_n dX5_init_10 rfl rfl (.tail _ (.tail _ (.head _))) ?_
  refine ru_putRF (ci := 4) (k := 1) dX5_init_11 rfl rfl rfl rfl rfl kw_263 ?_
  show mK Γ M_X5_init (d + 0) Q 26 0 0 14 [(0, .ref 25), (1, .ref 20), (2, .ref 5), (3, .ref 16)] [] 26 (mPH (mPH shC_16 25 0 (some 20)) 25 1 (some 5)) sg0
  refine mK_aload_n dX5_init_14 rfl rfl (.head _) ?_
  refine mK_aload_n dX5_init_15 rfl rfl (.tail _ (.tail _ (.tail _ (.head _)))) ?_
  refine ru_putRF (ci := 4) (k := 2) dX5_init_16 rfl rfl rfl rfl rfl kw_264 ?_
  show mK Γ M_X5_init (d + 0) Q 26 0 0 19 [(0, .ref 25), (1, .ref 20), (2, .ref 5), (3, .ref 16)] [] 26 (mPH (mPH (mPH shC_16 25 0 (some 20)) 25 1 (some 5)) 25 2 (some 16)) sg0
  exact mK_vret dX5_init_19 rfl h
set_option maxRecDepth 20000 in
theorem I_0 {Γ : Nat × (Nat → Int32)} {d : Nat} {Q : mQ} (h : Q (.inl none) 26 shC_18 sg1) : mCall Γ M_X7_init (d + 1) 25 4546 [.ref 0] 1 shC_1 sg0 Q := by
  refine mCall_of rfl (by decide) (Nat.le_of_ble_eq_true rfl) (mOkC (mOk_lo (Nat.le_of_ble_eq_true rfl)) mOkN) ?_
  show mK Γ M_X7_init (d + 1) Q 1 25 4546 0 [(0, .ref 0)] [] 1 shC_1 sg0
  refine mK_aload_n dX7_init_0 rfl rfl (.head _) ?_
  refine mK_objInit dX7_init_1 rfl (Nat.le_of_ble_eq_true rfl) kw_116 kw_117 kw_118 ?_
  refine mK_aload_n dX7_init_4 rfl rfl (.head _) ?_
  refine mK_new (ci := 2) dX7_init_5 rfl (Nat.le_of_ble_eq_true rfl) (Nat.le_of_ble_eq_true rfl) (Nat.le_of_ble_eq_true rfl) (Nat.le_of_ble_eq_true rfl) kw_119 kw_120 kw_88 ?_
  rw [zr_0 _]
  show mK Γ M_X7_init (d + 1) Q 1 24 4544 8 [(0, .ref 0)] [.ref 1, .ref 0] 2 (mNw shC_1 1 (2, 0, fun _ => none)) sg0
  refine mK_dup dX7_init_8 rfl rfl ?_
  refine mK_sipush dX7_init_9 rfl qsi_2000 ?_
  refine mK_invI (J := M_X3_init) (k := 1) (as := [.int 2000]) (st := [.ref 1, .ref 0]) (b := 1) (c1 := 1) (s1 := 2000) dX7_init_12 rfl jw_X3_init jn_X3_init rfl (Nat.le_of_ble_eq_true rfl) (Nat.le_of_ble_eq_true rfl) (Nat.le_of_ble_eq_true rfl) rfl kw_121 kw_122 rfl rfl (Nat.le_of_ble_eq_true rfl) ?_
  refine I_1 (d := d + 0) ?_
  show mK Γ M_X7_init (d + 1) Q 1 23 2544 15 [(0, .ref 0)] [.ref 1, .ref 0] 3 shC_3 sg0
  refine ru_putRF (ci := 6) (k := 0) dX7_init_15 rfl rfl rfl rfl rfl kw_281 ?_
  show mK Γ M_X7_init (d + 1) Q 1 23 2544 18 [(0, .ref 0)] [] 3 (mPH shC_3 0 0 (some 1)) sg0
  refine mK_aload_n dX7_init_18 rfl rfl (.head _) ?_
  refine mK_new (ci := 2) dX7_init_19 rfl (Nat.le_of_ble_eq_true rfl) (Nat.le_of_ble_eq_true rfl) (Nat.le_of_ble_eq_true rfl) (Nat.le_of_ble_eq_true rfl) kw_119 kw_120 kw_88 ?_
  rw [zr_0 _]
  show mK Γ M_X7_init (d + 1) Q 1 22 2542 22 [(0, .ref 0)] [.ref 3, .ref 0] 4 (mNw (mPH shC_3 0 0 (some 1)) 3 (2, 0, fun _ => none)) sg0
  refine mK_dup dX7_init_22 rfl rfl ?_
  refine mK_sipush dX7_init_23 rfl qsi_920 ?_
  refine mK_invI (J := M_X3_init) (k := 1) (as := [.int 920]) (st := [.ref 3, .ref 0]) (b := 3) (c1 := 1) (s1 := 920) dX7_init_26 rfl jw_X3_init jn_X3_init rfl (Nat.le_of_ble_eq_true rfl) (Nat.le_of_ble_eq_true rfl) (Nat.le_of_ble_eq_true rfl) rfl kw_121 kw_122 rfl rfl (Nat.le_of_ble_eq_true rfl) ?_
  refine I_3 (d := d + 0) ?_
  show mK Γ M_X7_init (d + 1) Q 1 21 1622 29 [(0, .ref 0)] [.ref 3, .ref 0] 5 shC_5 sg0
  refine ru_putRF (ci := 6) (k := 1) dX7_init_29 rfl rfl rfl rfl rfl kw_282 ?_
  show mK Γ M_X7_init (d + 1) Q 1 21 1622 32 [(0, .ref 0)] [] 5 (mPH shC_5 0 1 (some 3)) sg0
  refine mK_aload_n dX7_init_32 rfl rfl (.head _) ?_
  refine mK_new (ci := 0) dX7_init_33 rfl (Nat.le_of_ble_eq_true rfl) (Nat.le_of_ble_eq_true rfl) (Nat.le_of_ble_eq_true rfl) (Nat.le_of_ble_eq_true rfl) kw_136 kw_137 kw_90 ?_
  rw [zr_0 _]
  show mK Γ M_X7_init (d + 1) Q 1 20 1606 36 [(0, .ref 0)] [.ref 5, .ref 0] 6 (mNw (mPH shC_5 0 1 (some 3)) 5 (0, 0, fun _ => none)) sg0
  refine mK_dup dX7_init_36 rfl rfl ?_
  refine mK_invIN (J := M_X0_init) (k := 0) (as := []) (st := [.ref 5, .ref 0]) (b := 5) (c1 := 10) (s1 := 298) dX7_init_37 rfl jw_X0_init jn_X0_init rfl (Nat.le_of_ble_eq_true rfl) (Nat.le_of_ble_eq_true rfl) (Nat.le_of_ble_eq_true rfl) rfl kn_138 kw_139 rfl rfl (Nat.le_of_ble_eq_true rfl) ?_
  refine I_5 (d := d + 0) ?_
  show mK Γ M_X7_init (d + 1) Q 1 10 1308 40 [(0, .ref 0)] [.ref 5, .ref 0] 16 shC_7 sg0
  refine ru_putRF (ci := 6) (k := 2) dX7_init_40 rfl rfl rfl rfl rfl kw_283 ?_
  show mK Γ M_X7_init (d + 1) Q 1 10 1308 43 [(0, .ref 0)] [] 16 (mPH shC_7 0 2 (some 5)) sg0
  refine mK_aload_n dX7_init_43 rfl rfl (.head _) ?_
  refine mK_new (ci := 3) dX7_init_44 rfl (Nat.le_of_ble_eq_true rfl) (Nat.le_of_ble_eq_true rfl) (Nat.le_of_ble_eq_true rfl) (Nat.le_of_ble_eq_true rfl) kw_194 kw_195 kw_91 ?_
  rw [zr_0 _]
  show mK Γ M_X7_init (d + 1) Q 1 9 1302 47 [(0, .ref 0)] [.ref 16, .ref 0] 17 (mNw (mPH shC_7 0 2 (some 5)) 16 (3, 0, fun _ => none)) sg0
  refine mK_dup dX7_init_47 rfl rfl ?_
  refine mK_aload_n dX7_init_48 rfl rfl (.head _) ?_
  refine ru_getR (ci := 6) (k := 2) (a := 5) dX7_init_49 rfl rfl rfl kw_283 ?_
  refine mK_invI (J := M_X4_init) (k := 1) (as := [.ref 5]) (st := [.ref 16, .ref 0]) (b := 16) (c1 := 1) (s1 := 40) dX7_init_52 rfl jw_X4_init jn_X4_init rfl (Nat.le_of_ble_eq_true rfl) (Nat.le_of_ble_eq_true rfl) (Nat.le_of_ble_eq_true rfl) rfl kw_196 kw_197 rfl rfl (Nat.le_of_ble_eq_true rfl) ?_
  refine I_16 (d := d + 0) ?_
  show mK Γ M_X7_init (d + 1) Q 1 8 1262 55 [(0, .ref 0)] [.ref 16, .ref 0] 18 shC_9 sg0
  refine ru_putRF (ci := 6) (k := 3) dX7_init_55 rfl rfl rfl rfl rfl kw_284 ?_
  show mK Γ M_X7_init (d + 1) Q 1 8 1262 58 [(0, .ref 0)] [] 18 (mPH shC_9 0 3 (some 16)) sg0
  refine mK_aload_n dX7_init_58 rfl rfl (.head _) ?_
  refine mK_new (ci := 3) dX7_init_59 rfl (Nat.le_of_ble_eq_true rfl) (Nat.le_of_ble_eq_true rfl) (Nat.le_of_ble_eq_true rfl) (Nat.le_of_ble_eq_true rfl) kw_194 kw_195 kw_91 ?_
  rw [zr_0 _]
  show mK Γ M_X7_init (d + 1) Q 1 7 1256 62 [(0, .ref 0)] [.ref 18, .ref 0] 19 (mNw (mPH shC_9 0 3 (some 16)) 18 (3, 0, fun _ => none)) sg0
  refine mK_dup dX7_init_62 rfl rfl ?_
  refine mK_aload_n dX7_init_63 rfl rfl (.head _) ?_
  refine ru_getR (ci := 6) (k := 2) (a := 5) dX7_init_64 rfl rfl rfl kw_283 ?_
  refine mK_invI (J := M_X4_init) (k := 1) (as := [.ref 5]) (st := [.ref 18, .ref 0]) (b := 18) (c1 := 1) (s1 := 40) dX7_init_67 rfl jw_X4_init jn_X4_init rfl (Nat.le_of_ble_eq_true rfl) (Nat.le_of_ble_eq_true rfl) (Nat.le_of_ble_eq_true rfl) rfl kw_196 kw_197 rfl rfl (Nat.le_of_ble_eq_true rfl) ?_
  refine I_18 (d := d + 0) ?_
  show mK Γ M_X7_init (d + 1) Q 1 6 1216 70 [(0, .ref 0)] [.ref 18, .ref 0] 20 shC_11 sg0
  refine ru_putRF (ci := 6) (k := 4) dX7_init_70 rfl rfl rfl rfl rfl kw_285 ?_
  show mK Γ M_X7_init (d + 1) Q 1 6 1216 73 [(0, .ref 0)] [] 20 (mPH shC_11 0 4 (some 18)) sg0
  refine mK_aload_n dX7_init_73 rfl rfl (.head _) ?_
  refine mK_new (ci := 5) dX7_init_74 rfl (Nat.le_of_ble_eq_true rfl) (Nat.le_of_ble_eq_true rfl) (Nat.le_of_ble_eq_true rfl) (Nat.le_of_ble_eq_true rfl) kw_219 kw_220 kw_92 ?_
  rw [zr_0 _]
  show mK Γ M_X7_init (d + 1) Q 1 5 1212 77 [(0, .ref 0)] [.ref 20, .ref 0] 21 (mNw (mPH shC_11 0 4 (some 18)) 20 (5, 0, fun _ => none)) sg0
  refine mK_dup dX7_init_77 rfl rfl ?_
  refine mK_invIN (J := M_X6_init) (k := 0) (as := []) (st := [.ref 20, .ref 0]) (b := 20) (c1 := 3) (s1 := 1203) dX7_init_78 rfl jw_X6_init jn_X6_init rfl (Nat.le_of_ble_eq_true rfl) (Nat.le_of_ble_eq_true rfl) (Nat.le_of_ble_eq_true rfl) rfl kn_221 kw_222 rfl rfl (Nat.le_of_ble_eq_true rfl) ?_
  refine I_20 (d := d + 0) ?_
  show mK Γ M_X7_init (d + 1) Q 1 2 9 81 [(0, .ref 0)] [.ref 20, .ref 0] 24 shC_13 sg0
  refine ru_putRF (ci := 6) (k := 5) dX7_init_81 rfl rfl rfl rfl rfl kw_286 ?_
  show mK Γ M_X7_init (d + 1) Q 1 2 9 84 [(0, .ref 0)] [] 24 (mPH shC_13 0 5 (some 20)) sg0
  refine mK_aload_n dX7_init_84 rfl rfl (.head _) ?_
  refine mK_new (ci := 1) dX7_init_85 rfl (Nat.le_of_ble_eq_true rfl) (Nat.le_of_ble_eq_true rfl) (Nat.le_of_ble_eq_true rfl) (Nat.le_of_ble_eq_true rfl) kw_240 kw_241 kw_93 ?_
  rw [zr_0 _]
  show mK Γ M_X7_init (d + 1) Q 1 1 6 88 [(0, .ref 0)] [.ref 24, .ref 0] 25 (mNw (mPH shC_13 0 5 (some 20)) 24 (1, 0, fun _ => none)) sg0
  refine mK_dup dX7_init_88 rfl rfl ?_
  refine mK_aload_n dX7_init_89 rfl rfl (.head _) ?_
  refine ru_getR (ci := 6) (k := 5) (a := 20) dX7_init_90 rfl rfl rfl kw_286 ?_
  refine mK_invI (J := M_X1_init) (k := 1) (as := [.ref 20]) (st := [.ref 24, .ref 0]) (b := 24) (c1 := 0) (s1 := 0) dX7_init_93 rfl jw_X1_init jn_X1_init rfl (Nat.le_of_ble_eq_true rfl) (Nat.le_of_ble_eq_true rfl) (Nat.le_of_ble_eq_true rfl) rfl kw_242 kw_243 rfl rfl (Nat.le_of_ble_eq_true rfl) ?_
  refine I_24 (d := d + 0) ?_
  show mK Γ M_X7_init (d + 1) Q 1 1 6 96 [(0, .ref 0)] [.ref 24, .ref 0] 25 shC_15 sg0
  refine ru_putRF (ci := 6) (k := 6) dX7_init_96 rfl rfl rfl rfl rfl kw_287 ?_
  show mK Γ M_X7_init (d + 1) Q 1 1 6 99 [(0, .ref 0)] [] 25 (mPH shC_15 0 6 (some 24)) sg0
  refine mK_aload_n dX7_init_99 rfl rfl (.head _) ?_
  refine mK_new (ci := 4) dX7_init_100 rfl (Nat.le_of_ble_eq_true rfl) (Nat.le_of_ble_eq_true rfl) (Nat.le_of_ble_eq_true rfl) (Nat.le_of_ble_eq_true rfl) kw_256 kw_257 kw_94 ?_
  rw [zr_0 _]
  show mK Γ M_X7_init (d + 1) Q 1 0 0 103 [(0, .ref 0)] [.ref 25, .ref 0] 26 (mNw (mPH shC_15 0 6 (some 24)) 25 (4, 0, fun _ => none)) sg0
  refine mK_dup dX7_init_103 rfl rfl ?_
  refine mK_aload_n dX7_init_104 rfl rfl (.head _) ?_
  refine ru_getR (ci := 6) (k := 5) (a := 20) dX7_init_105 rfl rfl rfl kw_286 ?_
  refine mK_aload_n dX7_init_108 rfl rfl (.head _) ?_
  refine ru_getR (ci := 6) (k := 2) (a := 5) dX7_init_109 rfl rfl rfl kw_283 ?_
  refine mK_aload_n dX7_init_112 rfl rfl (.head _) ?_
  refine ru_getR (ci := 6) (k := 3) (a := 16) dX7_init_113 rfl rfl rfl kw_284 ?_
  refine mK_invI (J := M_X5_init) (k := 3) (as := [.ref 20, .ref 5, .ref 16]) (st := [.ref 25, .ref 0]) (b := 25) (c1 := 0) (s1 := 0) dX7_init_116 rfl jw_X5_init jn_X5_init rfl (Nat.le_of_ble_eq_true rfl) (Nat.le_of_ble_eq_true rfl) (Nat.le_of_ble_eq_true rfl) rfl kw_258 kw_259 rfl rfl (Nat.le_of_ble_eq_true rfl) ?_
  refine I_25 (d := d + 0) ?_
  show mK Γ M_X7_init (d + 1) Q 1 0 0 119 [(0, .ref 0)] [.ref 25, .ref 0] 26 shC_17 sg0
  refine ru_putRF (ci := 6) (k := 7) dX7_init_119 rfl rfl rfl rfl rfl kw_288 ?_
  show mK Γ M_X7_init (d + 1) Q 1 0 0 122 [(0, .ref 0)] [] 26 (mPH shC_17 0 7 (some 25)) sg0
  refine mK_aload_n dX7_init_122 rfl rfl (.head _) ?_
  refine mK_iconst dX7_init_123 rfl qic_m1 ?_
  refine ru_putI (ci := 6) (k := 8) dX7_init_124 rfl rfl rfl kw_289 ?_
  show mK Γ M_X7_init (d + 1) Q 1 0 0 127 [(0, .ref 0)] [] 26 (mPH shC_17 0 7 (some 25)) sg1
  exact mK_vret dX7_init_127 rfl h
set_option maxRecDepth 20000 in
theorem I_32 {Γ : Nat × (Nat → Int32)} {d : Nat} {Q : mQ} (h : Q (.inl none) 42 shC_21 sg2) : mCall Γ M_X8_init (d + 0) 9 292 [.ref 32, .ref 26] 33 shC_20 sg2 Q := by
  refine mCall_of rfl (by decide) (Nat.le_of_ble_eq_true rfl) (mOkC (mOk_lo (Nat.le_of_ble_eq_true rfl)) (mOkC (mOk_lo (Nat.le_of_ble_eq_true rfl)) mOkN)) ?_
  show mK Γ M_X8_init (d + 0) Q 33 9 292 0 [(0, .ref 32), (1, .ref 26)] [] 33 shC_20 sg2
  refine mK_aload_n dX8_init_0 rfl rfl (.head _) ?_
  refine mK_aload_n dX8_init_1 rfl rfl (.tail _ (.head _)) ?_
  refine ru_putRF (ci := 7) (k := 11) dX8_init_2 rfl rfl rfl rfl rfl kw_1101 ?_
  show mK Γ M_X8_init (d + 0) Q 33 9 292 5 [(0, .ref 32), (1, .ref 26)] [] 33 (mPH shC_20 32 11 (some 26)) sg2
  refine mK_aload_n dX8_init_5 rfl rfl (.head _) ?_
  refine mK_objInit dX8_init_6 rfl (Nat.le_of_ble_eq_true rfl) kw_1078 kw_117 kw_118 ?_
  refine mK_aload_n dX8_init_9 rfl rfl (.head _) ?_
  refine mK_bipush dX8_init_10 rfl qbi_6 ?_
  refine mK_newL (n := 6) dX8_init_12 rfl (by decide) (by decide) (Nat.le_of_ble_eq_true rfl) (Nat.le_of_ble_eq_true rfl) (Nat.le_of_ble_eq_true rfl) (Nat.le_of_ble_eq_true rfl) kw_191 ?_
  rw [zr_2 _ (by decide) (by decide)]
  show mK Γ M_X8_init (d + 0) Q 33 8 286 14 [(0, .ref 32), (1, .ref 26)] [.ref 33, .ref 32] 34 (mNw (mPH shC_20 32 11 (some 26)) 33 (103, 6, fun _ => none)) sg2
  refine ru_putRF (ci := 7) (k := 1) dX8_init_14 rfl rfl rfl rfl rfl kw_1081 ?_
  show mK Γ M_X8_init (d + 0) Q 33 8 286 17 [(0, .ref 32), (1, .ref 26)] [] 34 (mPH (mNw (mPH shC_20 32 11 (some 26)) 33 (103, 6, fun _ => none)) 32 1 (some 33)) sg2
  refine mK_aload_n dX8_init_17 rfl rfl (.head _) ?_
  refine mK_bipush dX8_init_18 rfl qbi_6 ?_
  refine mK_newI (n := 6) dX8_init_20 rfl (by decide) (by decide) (Nat.le_of_ble_eq_true rfl) (Nat.le_of_ble_eq_true rfl) (Nat.le_of_ble_eq_true rfl) (Nat.le_of_ble_eq_true rfl) kw_192 ?_
  rw [zr_2 _ (by decide) (by decide)]
  show mK Γ M_X8_init (d + 0) Q 33 7 280 22 [(0, .ref 32), (1, .ref 26)] [.ref 34, .ref 32] 35 (mNw (mPH (mNw (mPH shC_20 32 11 (some 26)) 33 (103, 6, fun _ => none)) 32 1 (some 33)) 34 (100, 6, fun _ => none)) sg2
  refine ru_putRF (ci := 7) (k := 2) dX8_init_22 rfl rfl rfl rfl rfl kw_1083 ?_
  show mK Γ M_X8_init (d + 0) Q 33 7 280 25 [(0, .ref 32), (1, .ref 26)] [] 35 (mPH (mNw (mPH (mNw (mPH shC_20 32 11 (some 26)) 33 (103, 6, fun _ => none)) 32 1 (some 33)) 34 (100, 6, fun _ => none)) 32 2 (some 34)) sg2
  refine mK_aload_n dX8_init_25 rfl rfl (.head _) ?_
  refine mK_bipush dX8_init_26 rfl qbi_40 ?_
  refine mK_newL (n := 40) dX8_init_28 rfl (by decide) (by decide) (Nat.le_of_ble_eq_true rfl) (Nat.le_of_ble_eq_true rfl) (Nat.le_of_ble_eq_true rfl) (Nat.le_of_ble_eq_true rfl) kw_191 ?_
  rw [zr_2 _ (by decide) (by decide)]
  show mK Γ M_X8_init (d + 0) Q 33 6 240 30 [(0, .ref 32), (1, .ref 26)] [.ref 35, .ref 32] 36 (mNw (mPH (mNw (mPH (mNw (mPH shC_20 32 11 (some 26)) 33 (103, 6, fun _ => none)) 32 1 (some 33)) 34 (100, 6, fun _ => none)) 32 2 (some 34)) 35 (103, 40, fun _ => none)) sg2
  refine ru_putRF (ci := 7) (k := 4) dX8_init_30 rfl rfl rfl rfl rfl kw_1087 ?_
  show mK Γ M_X8_init (d + 0) Q 33 6 240 33 [(0, .ref 32), (1, .ref 26)] [] 36 (mPH (mNw (mPH (mNw (mPH (mNw (mPH shC_20 32 11 (some 26)) 33 (103, 6, fun _ => none)) 32 1 (some 33)) 34 (100, 6, fun _ => none)) 32 2 (some 34)) 35 (103, 40, fun _ => none)) 32 4 (some 35)) sg2
  refine mK_aload_n dX8_init_33 rfl rfl (.head _) ?_
  refine mK_bipush dX8_init_34 rfl qbi_40 ?_
  refine mK_newI (n := 40) dX8_init_36 rfl (by decide) (by decide) (Nat.le_of_ble_eq_true rfl) (Nat.le_of_ble_eq_true rfl) (Nat.le_of_ble_eq_true rfl) (Nat.le_of_ble_eq_true rfl) kw_192 ?_
  rw [zr_2 _ (by decide) (by decide)]
  show mK Γ M_X8_init (d + 0) Q 33 5 200 38 [(0, .ref 32), (1, .ref 26)] [.ref 36, .ref 32] 37 (mNw (mPH (mNw (mPH (mNw (mPH (mNw (mPH shC_20 32 11 (some 26)) 33 (103, 6, fun _ => none)) 32 1 (some 33)) 34 (100, 6, fun _ => none)) 32 2 (some 34)) 35 (103, 40, fun _ => none)) 32 4 (some 35)) 36 (100, 40, fun _ => none)) sg2
  refine ru_putRF (ci := 7) (k := 5) dX8_init_38 rfl rfl rfl rfl rfl kw_1089 ?_
  show mK Γ M_X8_init (d + 0) Q 33 5 200 41 [(0, .ref 32), (1, .ref 26)] [] 37 (mPH (mNw (mPH (mNw (mPH (mNw (mPH (mNw (mPH shC_20 32 11 (some 26)) 33 (103, 6, fun _ => none)) 32 1 (some 33)) 34 (100, 6, fun _ => none)) 32 2 (some 34)) 35 (103, 40, fun _ => none)) 32 4 (some 35)) 36 (100, 40, fun _ => none)) 32 5 (some 36)) sg2
  refine mK_aload_n dX8_init_41 rfl rfl (.head _) ?_
  refine mK_bipush dX8_init_42 rfl qbi_40 ?_
  refine mK_newI (n := 40) dX8_init_44 rfl (by decide) (by decide) (Nat.le_of_ble_eq_true rfl) (Nat.le_of_ble_eq_true rfl) (Nat.le_of_ble_eq_true rfl) (Nat.le_of_ble_eq_true rfl) kw_192 ?_
  rw [zr_2 _ (by decide) (by decide)]
  show mK Γ M_X8_init (d + 0) Q 33 4 160 46 [(0, .ref 32), (1, .ref 26)] [.ref 37, .ref 32] 38 (mNw (mPH (mNw (mPH (mNw (mPH (mNw (mPH (mNw (mPH shC_20 32 11 (some 26)) 33 (103, 6, fun _ => none)) 32 1 (some 33)) 34 (100, 6, fun _ => none)) 32 2 (some 34)) 35 (103, 40, fun _ => none)) 32 4 (some 35)) 36 (100, 40, fun _ => none)) 32 5 (some 36)) 37 (100, 40, fun _ => none)) sg2
  refine ru_putRF (ci := 7) (k := 6) dX8_init_46 rfl rfl rfl rfl rfl kw_1091 ?_
  show mK Γ M_X8_init (d + 0) Q 33 4 160 49 [(0, .ref 32), (1, .ref 26)] [] 38 (mPH (mNw (mPH (mNw (mPH (mNw (mPH (mNw (mPH (mNw (mPH shC_20 32 11 (some 26)) 33 (103, 6, fun _ => none)) 32 1 (some 33)) 34 (100, 6, fun _ => none)) 32 2 (some 34)) 35 (103, 40, fun _ => none)) 32 4 (some 35)) 36 (100, 40, fun _ => none)) 32 5 (some 36)) 37 (100, 40, fun _ => none)) 32 6 (some 37)) sg2
  refine mK_aload_n dX8_init_49 rfl rfl (.head _) ?_
  refine mK_bipush dX8_init_50 rfl qbi_40 ?_
  refine mK_newI (n := 40) dX8_init_52 rfl (by decide) (by decide) (Nat.le_of_ble_eq_true rfl) (Nat.le_of_ble_eq_true rfl) (Nat.le_of_ble_eq_true rfl) (Nat.le_of_ble_eq_true rfl) kw_192 ?_
  rw [zr_2 _ (by decide) (by decide)]
  show mK Γ M_X8_init (d + 0) Q 33 3 120 54 [(0, .ref 32), (1, .ref 26)] [.ref 38, .ref 32] 39 (mNw (mPH (mNw (mPH (mNw (mPH (mNw (mPH (mNw (mPH (mNw (mPH shC_20 32 11 (some 26)) 33 (103, 6, fun _ => none)) 32 1 (some 33)) 34 (100, 6, fun _ => none)) 32 2 (some 34)) 35 (103, 40, fun _ => none)) 32 4 (some 35)) 36 (100, 40, fun _ => none)) 32 5 (some 36)) 37 (100, 40, fun _ => none)) 32 6 (some 37)) 38 (100, 40, fun _ => none)) sg2
  refine ru_putRF (ci := 7) (k := 7) dX8_init_54 rfl rfl rfl rfl rfl kw_1093 ?_
  show mK Γ M_X8_init (d + 0) Q 33 3 120 57 [(0, .ref 32), (1, .ref 26)] [] 39 (mPH (mNw (mPH (mNw (mPH (mNw (mPH (mNw (mPH (mNw (mPH (mNw (mPH shC_20 32 11 (some 26)) 33 (103, 6, fun _ => none)) 32 1 (some 33)) 34 (100, 6, fun _ => none)) 32 2 (some 34)) 35 (103, 40, fun _ => none)) 32 4 (some 35)) 36 (100, 40, fun _ => none)) 32 5 (some 36)) 37 (100, 40, fun _ => none)) 32 6 (some 37)) 38 (100, 40, fun _ => none)) 32 7 (some 38)) sg2
  refine mK_aload_n dX8_init_57 rfl rfl (.head _) ?_
  refine mK_bipush dX8_init_58 rfl qbi_40 ?_
  refine mK_newI (n := 40) dX8_init_60 rfl (by decide) (by decide) (Nat.le_of_ble_eq_true rfl) (Nat.le_of_ble_eq_true rfl) (Nat.le_of_ble_eq_true rfl) (Nat.le_of_ble_eq_true rfl) kw_192 ?_
  rw [zr_2 _ (by decide) (by decide)]
  show mK Γ M_X8_init (d + 0) Q 33 2 80 62 [(0, .ref 32), (1, .ref 26)] [.ref 39, .ref 32] 40 (mNw (mPH (mNw (mPH (mNw (mPH (mNw (mPH (mNw (mPH (mNw (mPH (mNw (mPH shC_20 32 11 (some 26)) 33 (103, 6, fun _ => none)) 32 1 (some 33)) 34 (100, 6, fun _ => none)) 32 2 (some 34)) 35 (103, 40, fun _ => none)) 32 4 (some 35)) 36 (100, 40, fun _ => none)) 32 5 (some 36)) 37 (100, 40, fun _ => none)) 32 6 (some 37)) 38 (100, 40, fun _ => none)) 32 7 (some 38)) 39 (100, 40, fun _ => none)) sg2
  refine ru_putRF (ci := 7) (k := 8) dX8_init_62 rfl rfl rfl rfl rfl kw_1095 ?_
  show mK Γ M_X8_init (d + 0) Q 33 2 80 65 [(0, .ref 32), (1, .ref 26)] [] 40 (mPH (mNw (mPH (mNw (mPH (mNw (mPH (mNw (mPH (mNw (mPH (mNw (mPH (mNw (mPH shC_20 32 11 (some 26)) 33 (103, 6, fun _ => none)) 32 1 (some 33)) 34 (100, 6, fun _ => none)) 32 2 (some 34)) 35 (103, 40, fun _ => none)) 32 4 (some 35)) 36 (100, 40, fun _ => none)) 32 5 (some 36)) 37 (100, 40, fun _ => none)) 32 6 (some 37)) 38 (100, 40, fun _ => none)) 32 7 (some 38)) 39 (100, 40, fun _ => none)) 32 8 (some 39)) sg2
  refine mK_aload_n dX8_init_65 rfl rfl (.head _) ?_
  refine mK_bipush dX8_init_66 rfl qbi_40 ?_
  refine mK_newI (n := 40) dX8_init_68 rfl (by decide) (by decide) (Nat.le_of_ble_eq_true rfl) (Nat.le_of_ble_eq_true rfl) (Nat.le_of_ble_eq_true rfl) (Nat.le_of_ble_eq_true rfl) kw_192 ?_
  rw [zr_2 _ (by decide) (by decide)]
  show mK Γ M_X8_init (d + 0) Q 33 1 40 70 [(0, .ref 32), (1, .ref 26)] [.ref 40, .ref 32] 41 (mNw (mPH (mNw (mPH (mNw (mPH (mNw (mPH (mNw (mPH (mNw (mPH (mNw (mPH (mNw (mPH shC_20 32 11 (some 26)) 33 (103, 6, fun _ => none)) 32 1 (some 33)) 34 (100, 6, fun _ => none)) 32 2 (some 34)) 35 (103, 40, fun _ => none)) 32 4 (some 35)) 36 (100, 40, fun _ => none)) 32 5 (some 36)) 37 (100, 40, fun _ => none)) 32 6 (some 37)) 38 (100, 40, fun _ => none)) 32 7 (some 38)) 39 (100, 40, fun _ => none)) 32 8 (some 39)) 40 (100, 40, fun _ => none)) sg2
  refine ru_putRF (ci := 7) (k := 9) dX8_init_70 rfl rfl rfl rfl rfl kw_1097 ?_
  show mK Γ M_X8_init (d + 0) Q 33 1 40 73 [(0, .ref 32), (1, .ref 26)] [] 41 (mPH (mNw (mPH (mNw (mPH (mNw (mPH (mNw (mPH (mNw (mPH (mNw (mPH (mNw (mPH (mNw (mPH shC_20 32 11 (some 26)) 33 (103, 6, fun _ => none)) 32 1 (some 33)) 34 (100, 6, fun _ => none)) 32 2 (some 34)) 35 (103, 40, fun _ => none)) 32 4 (some 35)) 36 (100, 40, fun _ => none)) 32 5 (some 36)) 37 (100, 40, fun _ => none)) 32 6 (some 37)) 38 (100, 40, fun _ => none)) 32 7 (some 38)) 39 (100, 40, fun _ => none)) 32 8 (some 39)) 40 (100, 40, fun _ => none)) 32 9 (some 40)) sg2
  refine mK_aload_n dX8_init_73 rfl rfl (.head _) ?_
  refine mK_bipush dX8_init_74 rfl qbi_40 ?_
  refine mK_newI (n := 40) dX8_init_76 rfl (by decide) (by decide) (Nat.le_of_ble_eq_true rfl) (Nat.le_of_ble_eq_true rfl) (Nat.le_of_ble_eq_true rfl) (Nat.le_of_ble_eq_true rfl) kw_192 ?_
  rw [zr_2 _ (by decide) (by decide)]
  show mK Γ M_X8_init (d + 0) Q 33 0 0 78 [(0, .ref 32), (1, .ref 26)] [.ref 41, .ref 32] 42 (mNw (mPH (mNw (mPH (mNw (mPH (mNw (mPH (mNw (mPH (mNw (mPH (mNw (mPH (mNw (mPH (mNw (mPH shC_20 32 11 (some 26)) 33 (103, 6, fun _ => none)) 32 1 (some 33)) 34 (100, 6, fun _ => none)) 32 2 (some 34)) 35 (103, 40, fun _ => none)) 32 4 (some 35)) 36 (100, 40, fun _ => none)) 32 5 (some 36)) 37 (100, 40, fun _ => none)) 32 6 (some 37)) 38 (100, 40, fun _ => none)) 32 7 (some 38)) 39 (100, 40, fun _ => none)) 32 8 (some 39)) 40 (100, 40, fun _ => none)) 32 9 (some 40)) 41 (100, 40, fun _ => none)) sg2
  refine ru_putRF (ci := 7) (k := 10) dX8_init_78 rfl rfl rfl rfl rfl kw_1099 ?_
  show mK Γ M_X8_init (d + 0) Q 33 0 0 81 [(0, .ref 32), (1, .ref 26)] [] 42 (mPH (mNw (mPH (mNw (mPH (mNw (mPH (mNw (mPH (mNw (mPH (mNw (mPH (mNw (mPH (mNw (mPH (mNw (mPH shC_20 32 11 (some 26)) 33 (103, 6, fun _ => none)) 32 1 (some 33)) 34 (100, 6, fun _ => none)) 32 2 (some 34)) 35 (103, 40, fun _ => none)) 32 4 (some 35)) 36 (100, 40, fun _ => none)) 32 5 (some 36)) 37 (100, 40, fun _ => none)) 32 6 (some 37)) 38 (100, 40, fun _ => none)) 32 7 (some 38)) 39 (100, 40, fun _ => none)) 32 8 (some 39)) 40 (100, 40, fun _ => none)) 32 9 (some 40)) 41 (100, 40, fun _ => none)) 32 10 (some 41)) sg2
  exact mK_vret dX8_init_81 rfl h
set_option maxRecDepth 20000 in
theorem I_42 {Γ : Nat × (Nat → Int32)} {d : Nat} {Q : mQ} (h : Q (.inl none) 52 shC_23 sg2) : mCall Γ M_X8_init (d + 0) 9 292 [.ref 42, .ref 26] 43 shC_22 sg2 Q := by
  refine mCall_of rfl (by decide) (Nat.le_of_ble_eq_true rfl) (mOkC (mOk_lo (Nat.le_of_ble_eq_true rfl)) (mOkC (mOk_lo (Nat.le_of_ble_eq_true rfl)) mOkN)) ?_
  show mK Γ M_X8_init (d + 0) Q 43 9 292 0 [(0, .ref 42), (1, .ref 26)] [] 43 shC_22 sg2
  refine mK_aload_n dX8_init_0 rfl rfl (.head _) ?_
  refine mK_aload_n dX8_init_1 rfl rfl (.tail _ (.head _)) ?_
  refine ru_putRF (ci := 7) (k := 11) dX8_init_2 rfl rfl rfl rfl rfl kw_1101 ?_
  show mK Γ M_X8_init (d + 0) Q 43 9 292 5 [(0, .ref 42), (1, .ref 26)] [] 43 (mPH shC_22 42 11 (some 26)) sg2
  refine mK_aload_n dX8_init_5 rfl rfl (.head _) ?_
  refine mK_objInit dX8_init_6 rfl (Nat.le_of_ble_eq_true rfl) kw_1078 kw_117 kw_118 ?_
  refine mK_aload_n dX8_init_9 rfl rfl (.head _) ?_
  refine mK_bipush dX8_init_10 rfl qbi_6 ?_
  refine mK_newL (n := 6) dX8_init_12 rfl (by decide) (by decide) (Nat.le_of_ble_eq_true rfl) (Nat.le_of_ble_eq_true rfl) (Nat.le_of_ble_eq_true rfl) (Nat.le_of_ble_eq_true rfl) kw_191 ?_
  rw [zr_2 _ (by decide) (by decide)]
  show mK Γ M_X8_init (d + 0) Q 43 8 286 14 [(0, .ref 42), (1, .ref 26)] [.ref 43, .ref 42] 44 (mNw (mPH shC_22 42 11 (some 26)) 43 (103, 6, fun _ => none)) sg2
  refine ru_putRF (ci := 7) (k := 1) dX8_init_14 rfl rfl rfl rfl rfl kw_1081 ?_
  show mK Γ M_X8_init (d + 0) Q 43 8 286 17 [(0, .ref 42), (1, .ref 26)] [] 44 (mPH (mNw (mPH shC_22 42 11 (some 26)) 43 (103, 6, fun _ => none)) 42 1 (some 43)) sg2
  refine mK_aload_n dX8_init_17 rfl rfl (.head _) ?_
  refine mK_bipush dX8_init_18 rfl qbi_6 ?_
  refine mK_newI (n := 6) dX8_init_20 rfl (by decide) (by decide) (Nat.le_of_ble_eq_true rfl) (Nat.le_of_ble_eq_true rfl) (Nat.le_of_ble_eq_true rfl) (Nat.le_of_ble_eq_true rfl) kw_192 ?_
  rw [zr_2 _ (by decide) (by decide)]
  show mK Γ M_X8_init (d + 0) Q 43 7 280 22 [(0, .ref 42), (1, .ref 26)] [.ref 44, .ref 42] 45 (mNw (mPH (mNw (mPH shC_22 42 11 (some 26)) 43 (103, 6, fun _ => none)) 42 1 (some 43)) 44 (100, 6, fun _ => none)) sg2
  refine ru_putRF (ci := 7) (k := 2) dX8_init_22 rfl rfl rfl rfl rfl kw_1083 ?_
  show mK Γ M_X8_init (d + 0) Q 43 7 280 25 [(0, .ref 42), (1, .ref 26)] [] 45 (mPH (mNw (mPH (mNw (mPH shC_22 42 11 (some 26)) 43 (103, 6, fun _ => none)) 42 1 (some 43)) 44 (100, 6, fun _ => none)) 42 2 (some 44)) sg2
  refine mK_aload_n dX8_init_25 rfl rfl (.head _) ?_
  refine mK_bipush dX8_init_26 rfl qbi_40 ?_
  refine mK_newL (n := 40) dX8_init_28 rfl (by decide) (by decide) (Nat.le_of_ble_eq_true rfl) (Nat.le_of_ble_eq_true rfl) (Nat.le_of_ble_eq_true rfl) (Nat.le_of_ble_eq_true rfl) kw_191 ?_
  rw [zr_2 _ (by decide) (by decide)]
  show mK Γ M_X8_init (d + 0) Q 43 6 240 30 [(0, .ref 42), (1, .ref 26)] [.ref 45, .ref 42] 46 (mNw (mPH (mNw (mPH (mNw (mPH shC_22 42 11 (some 26)) 43 (103, 6, fun _ => none)) 42 1 (some 43)) 44 (100, 6, fun _ => none)) 42 2 (some 44)) 45 (103, 40, fun _ => none)) sg2
  refine ru_putRF (ci := 7) (k := 4) dX8_init_30 rfl rfl rfl rfl rfl kw_1087 ?_
  show mK Γ M_X8_init (d + 0) Q 43 6 240 33 [(0, .ref 42), (1, .ref 26)] [] 46 (mPH (mNw (mPH (mNw (mPH (mNw (mPH shC_22 42 11 (some 26)) 43 (103, 6, fun _ => none)) 42 1 (some 43)) 44 (100, 6, fun _ => none)) 42 2 (some 44)) 45 (103, 40, fun _ => none)) 42 4 (some 45)) sg2
  refine mK_aload_n dX8_init_33 rfl rfl (.head _) ?_
  refine mK_bipush dX8_init_34 rfl qbi_40 ?_
  refine mK_newI (n := 40) dX8_init_36 rfl (by decide) (by decide) (Nat.le_of_ble_eq_true rfl) (Nat.le_of_ble_eq_true rfl) (Nat.le_of_ble_eq_true rfl) (Nat.le_of_ble_eq_true rfl) kw_192 ?_
  rw [zr_2 _ (by decide) (by decide)]
  show mK Γ M_X8_init (d + 0) Q 43 5 200 38 [(0, .ref 42), (1, .ref 26)] [.ref 46, .ref 42] 47 (mNw (mPH (mNw (mPH (mNw (mPH (mNw (mPH shC_22 42 11 (some 26)) 43 (103, 6, fun _ => none)) 42 1 (some 43)) 44 (100, 6, fun _ => none)) 42 2 (some 44)) 45 (103, 40, fun _ => none)) 42 4 (some 45)) 46 (100, 40, fun _ => none)) sg2
  refine ru_putRF (ci := 7) (k := 5) dX8_init_38 rfl rfl rfl rfl rfl kw_1089 ?_
  show mK Γ M_X8_init (d + 0) Q 43 5 200 41 [(0, .ref 42), (1, .ref 26)] [] 47 (mPH (mNw (mPH (mNw (mPH (mNw (mPH (mNw (mPH shC_22 42 11 (some 26)) 43 (103, 6, fun _ => none)) 42 1 (some 43)) 44 (100, 6, fun _ => none)) 42 2 (some 44)) 45 (103, 40, fun _ => none)) 42 4 (some 45)) 46 (100, 40, fun _ => none)) 42 5 (some 46)) sg2
  refine mK_aload_n dX8_init_41 rfl rfl (.head _) ?_
  refine mK_bipush dX8_init_42 rfl qbi_40 ?_
  refine mK_newI (n := 40) dX8_init_44 rfl (by decide) (by decide) (Nat.le_of_ble_eq_true rfl) (Nat.le_of_ble_eq_true rfl) (Nat.le_of_ble_eq_true rfl) (Nat.le_of_ble_eq_true rfl) kw_192 ?_
  rw [zr_2 _ (by decide) (by decide)]
  show mK Γ M_X8_init (d + 0) Q 43 4 160 46 [(0, .ref 42), (1, .ref 26)] [.ref 47, .ref 42] 48 (mNw (mPH (mNw (mPH (mNw (mPH (mNw (mPH (mNw (mPH shC_22 42 11 (some 26)) 43 (103, 6, fun _ => none)) 42 1 (some 43)) 44 (100, 6, fun _ => none)) 42 2 (some 44)) 45 (103, 40, fun _ => none)) 42 4 (some 45)) 46 (100, 40, fun _ => none)) 42 5 (some 46)) 47 (100, 40, fun _ => none)) sg2
  refine ru_putRF (ci := 7) (k := 6) dX8_init_46 rfl rfl rfl rfl rfl kw_1091 ?_
  show mK Γ M_X8_init (d + 0) Q 43 4 160 49 [(0, .ref 42), (1, .ref 26)] [] 48 (mPH (mNw (mPH (mNw (mPH (mNw (mPH (mNw (mPH (mNw (mPH shC_22 42 11 (some 26)) 43 (103, 6, fun _ => none)) 42 1 (some 43)) 44 (100, 6, fun _ => none)) 42 2 (some 44)) 45 (103, 40, fun _ => none)) 42 4 (some 45)) 46 (100, 40, fun _ => none)) 42 5 (some 46)) 47 (100, 40, fun _ => none)) 42 6 (some 47)) sg2
  refine mK_aload_n dX8_init_49 rfl rfl (.head _) ?_
  refine mK_bipush dX8_init_50 rfl qbi_40 ?_
  refine mK_newI (n := 40) dX8_init_52 rfl (by decide) (by decide) (Nat.le_of_ble_eq_true rfl) (Nat.le_of_ble_eq_true rfl) (Nat.le_of_ble_eq_true rfl) (Nat.le_of_ble_eq_true rfl) kw_192 ?_
  rw [zr_2 _ (by decide) (by decide)]
  show mK Γ M_X8_init (d + 0) Q 43 3 120 54 [(0, .ref 42), (1, .ref 26)] [.ref 48, .ref 42] 49 (mNw (mPH (mNw (mPH (mNw (mPH (mNw (mPH (mNw (mPH (mNw (mPH shC_22 42 11 (some 26)) 43 (103, 6, fun _ => none)) 42 1 (some 43)) 44 (100, 6, fun _ => none)) 42 2 (some 44)) 45 (103, 40, fun _ => none)) 42 4 (some 45)) 46 (100, 40, fun _ => none)) 42 5 (some 46)) 47 (100, 40, fun _ => none)) 42 6 (some 47)) 48 (100, 40, fun _ => none)) sg2
  refine ru_putRF (ci := 7) (k := 7) dX8_init_54 rfl rfl rfl rfl rfl kw_1093 ?_
  show mK Γ M_X8_init (d + 0) Q 43 3 120 57 [(0, .ref 42), (1, .ref 26)] [] 49 (mPH (mNw (mPH (mNw (mPH (mNw (mPH (mNw (mPH (mNw (mPH (mNw (mPH shC_22 42 11 (some 26)) 43 (103, 6, fun _ => none)) 42 1 (some 43)) 44 (100, 6, fun _ => none)) 42 2 (some 44)) 45 (103, 40, fun _ => none)) 42 4 (some 45)) 46 (100, 40, fun _ => none)) 42 5 (some 46)) 47 (100, 40, fun _ => none)) 42 6 (some 47)) 48 (100, 40, fun _ => none)) 42 7 (some 48)) sg2
  refine mK_aload_n dX8_init_57 rfl rfl (.head _) ?_
  refine mK_bipush dX8_init_58 rfl qbi_40 ?_
  refine mK_newI (n := 40) dX8_init_60 rfl (by decide) (by decide) (Nat.le_of_ble_eq_true rfl) (Nat.le_of_ble_eq_true rfl) (Nat.le_of_ble_eq_true rfl) (Nat.le_of_ble_eq_true rfl) kw_192 ?_
  rw [zr_2 _ (by decide) (by decide)]
  show mK Γ M_X8_init (d + 0) Q 43 2 80 62 [(0, .ref 42), (1, .ref 26)] [.ref 49, .ref 42] 50 (mNw (mPH (mNw (mPH (mNw (mPH (mNw (mPH (mNw (mPH (mNw (mPH (mNw (mPH shC_22 42 11 (some 26)) 43 (103, 6, fun _ => none)) 42 1 (some 43)) 44 (100, 6, fun _ => none)) 42 2 (some 44)) 45 (103, 40, fun _ => none)) 42 4 (some 45)) 46 (100, 40, fun _ => none)) 42 5 (some 46)) 47 (100, 40, fun _ => none)) 42 6 (some 47)) 48 (100, 40, fun _ => none)) 42 7 (some 48)) 49 (100, 40, fun _ => none)) sg2
  refine ru_putRF (ci := 7) (k := 8) dX8_init_62 rfl rfl rfl rfl rfl kw_1095 ?_
  show mK Γ M_X8_init (d + 0) Q 43 2 80 65 [(0, .ref 42), (1, .ref 26)] [] 50 (mPH (mNw (mPH (mNw (mPH (mNw (mPH (mNw (mPH (mNw (mPH (mNw (mPH (mNw (mPH shC_22 42 11 (some 26)) 43 (103, 6, fun _ => none)) 42 1 (some 43)) 44 (100, 6, fun _ => none)) 42 2 (some 44)) 45 (103, 40, fun _ => none)) 42 4 (some 45)) 46 (100, 40, fun _ => none)) 42 5 (some 46)) 47 (100, 40, fun _ => none)) 42 6 (some 47)) 48 (100, 40, fun _ => none)) 42 7 (some 48)) 49 (100, 40, fun _ => none)) 42 8 (some 49)) sg2
  refine mK_aload_n dX8_init_65 rfl rfl (.head _) ?_
  refine mK_bipush dX8_init_66 rfl qbi_40 ?_
  refine mK_newI (n := 40) dX8_init_68 rfl (by decide) (by decide) (Nat.le_of_ble_eq_true rfl) (Nat.le_of_ble_eq_true rfl) (Nat.le_of_ble_eq_true rfl) (Nat.le_of_ble_eq_true rfl) kw_192 ?_
  rw [zr_2 _ (by decide) (by decide)]
  show mK Γ M_X8_init (d + 0) Q 43 1 40 70 [(0, .ref 42), (1, .ref 26)] [.ref 50, .ref 42] 51 (mNw (mPH (mNw (mPH (mNw (mPH (mNw (mPH (mNw (mPH (mNw (mPH (mNw (mPH (mNw (mPH shC_22 42 11 (some 26)) 43 (103, 6, fun _ => none)) 42 1 (some 43)) 44 (100, 6, fun _ => none)) 42 2 (some 44)) 45 (103, 40, fun _ => none)) 42 4 (some 45)) 46 (100, 40, fun _ => none)) 42 5 (some 46)) 47 (100, 40, fun _ => none)) 42 6 (some 47)) 48 (100, 40, fun _ => none)) 42 7 (some 48)) 49 (100, 40, fun _ => none)) 42 8 (some 49)) 50 (100, 40, fun _ => none)) sg2
  refine ru_putRF (ci := 7) (k := 9) dX8_init_70 rfl rfl rfl rfl rfl kw_1097 ?_
  show mK Γ M_X8_init (d + 0) Q 43 1 40 73 [(0, .ref 42), (1, .ref 26)] [] 51 (mPH (mNw (mPH (mNw (mPH (mNw (mPH (mNw (mPH (mNw (mPH (mNw (mPH (mNw (mPH (mNw (mPH shC_22 42 11 (some 26)) 43 (103, 6, fun _ => none)) 42 1 (some 43)) 44 (100, 6, fun _ => none)) 42 2 (some 44)) 45 (103, 40, fun _ => none)) 42 4 (some 45)) 46 (100, 40, fun _ => none)) 42 5 (some 46)) 47 (100, 40, fun _ => none)) 42 6 (some 47)) 48 (100, 40, fun _ => none)) 42 7 (some 48)) 49 (100, 40, fun _ => none)) 42 8 (some 49)) 50 (100, 40, fun _ => none)) 42 9 (some 50)) sg2
  refine mK_aload_n dX8_init_73 rfl rfl (.head _) ?_
  refine mK_bipush dX8_init_74 rfl qbi_40 ?_
  refine mK_newI (n := 40) dX8_init_76 rfl (by decide) (by decide) (Nat.le_of_ble_eq_true rfl) (Nat.le_of_ble_eq_true rfl) (Nat.le_of_ble_eq_true rfl) (Nat.le_of_ble_eq_true rfl) kw_192 ?_
  rw [zr_2 _ (by decide) (by decide)]
  show mK Γ M_X8_init (d + 0) Q 43 0 0 78 [(0, .ref 42), (1, .ref 26)] [.ref 51, .ref 42] 52 (mNw (mPH (mNw (mPH (mNw (mPH (mNw (mPH (mNw (mPH (mNw (mPH (mNw (mPH (mNw (mPH (mNw (mPH shC_22 42 11 (some 26)) 43 (103, 6, fun _ => none)) 42 1 (some 43)) 44 (100, 6, fun _ => none)) 42 2 (some 44)) 45 (103, 40, fun _ => none)) 42 4 (some 45)) 46 (100, 40, fun _ => none)) 42 5 (some 46)) 47 (100, 40, fun _ => none)) 42 6 (some 47)) 48 (100, 40, fun _ => none)) 42 7 (some 48)) 49 (100, 40, fun _ => none)) 42 8 (some 49)) 50 (100, 40, fun _ => none)) 42 9 (some 50)) 51 (100, 40, fun _ => none)) sg2
  refine ru_putRF (ci := 7) (k := 10) dX8_init_78 rfl rfl rfl rfl rfl kw_1099 ?_
  show mK Γ M_X8_init (d + 0) Q 43 0 0 81 [(0, .ref 42), (1, .ref 26)] [] 52 (mPH (mNw (mPH (mNw (mPH (mNw (mPH (mNw (mPH (mNw (mPH (mNw (mPH (mNw (mPH (mNw (mPH (mNw (mPH shC_22 42 11 (some 26)) 43 (103, 6, fun _ => none)) 42 1 (some 43)) 44 (100, 6, fun _ => none)) 42 2 (some 44)) 45 (103, 40, fun _ => none)) 42 4 (some 45)) 46 (100, 40, fun _ => none)) 42 5 (some 46)) 47 (100, 40, fun _ => none)) 42 6 (some 47)) 48 (100, 40, fun _ => none)) 42 7 (some 48)) 49 (100, 40, fun _ => none)) 42 8 (some 49)) 50 (100, 40, fun _ => none)) 42 9 (some 50)) 51 (100, 40, fun _ => none)) 42 10 (some 51)) sg2
  exact mK_vret dX8_init_81 rfl h
set_option maxRecDepth 20000 in
theorem I_26 {Γ : Nat × (Nat → Int32)} {d : Nat} {Q : mQ} (h : Q (.inl none) 59 shC_24 sg5) : mCall Γ M_X9_init (d + 1) 32 5374 [.ref 26] 27 shC_19 sg1 Q := by
  refine mCall_of rfl (by decide) (Nat.le_of_ble_eq_true rfl) (mOkC (mOk_lo (Nat.le_of_ble_eq_true rfl)) mOkN) ?_
  show mK Γ M_X9_init (d + 1) Q 27 32 5374 0 [(0, .ref 26)] [] 27 shC_19 sg1
  refine mK_aload_n dX9_init_0 rfl rfl (.head _) ?_
  refine mK_objInit dX9_init_1 rfl (Nat.le_of_ble_eq_true rfl) kw_1072 kw_117 kw_118 ?_
  refine mK_aload_n dX9_init_4 rfl rfl (.head _) ?_
  refine mK_iconst dX9_init_5 rfl qic_m1 ?_
  refine ru_putI (ci := 8) (k := 1) dX9_init_6 rfl rfl rfl kw_1128 ?_
  show mK Γ M_X9_init (d + 1) Q 27 32 5374 9 [(0, .ref 26)] [] 27 shC_19 sg2
  refine mK_aload_n dX9_init_9 rfl rfl (.head _) ?_
  refine mK_sipush dX9_init_10 rfl qsi_2000 ?_
  refine mK_newI (n := 2000) dX9_init_13 rfl (by decide) (by decide) (Nat.le_of_ble_eq_true rfl) (Nat.le_of_ble_eq_true rfl) (Nat.le_of_ble_eq_true rfl) (Nat.le_of_ble_eq_true rfl) kw_192 ?_
  rw [zr_2 _ (by decide) (by decide)]
  show mK Γ M_X9_init (d + 1) Q 27 31 3374 15 [(0, .ref 26)] [.ref 27, .ref 26] 28 (mNw shC_19 27 (100, 2000, fun _ => none)) sg2
  refine ru_putRF (ci := 8) (k := 3) dX9_init_15 rfl rfl rfl rfl rfl kw_1130 ?_
  show mK Γ M_X9_init (d + 1) Q 27 31 3374 18 [(0, .ref 26)] [] 28 (mPH (mNw shC_19 27 (100, 2000, fun _ => none)) 26 3 (some 27)) sg2
  refine mK_aload_n dX9_init_18 rfl rfl (.head _) ?_
  refine mK_sipush dX9_init_19 rfl qsi_1280 ?_
  refine mK_newI (n := 1280) dX9_init_22 rfl (by decide) (by decide) (Nat.le_of_ble_eq_true rfl) (Nat.le_of_ble_eq_true rfl) (Nat.le_of_ble_eq_true rfl) (Nat.le_of_ble_eq_true rfl) kw_192 ?_
  rw [zr_2 _ (by decide) (by decide)]
  show mK Γ M_X9_init (d + 1) Q 27 30 2094 24 [(0, .ref 26)] [.ref 28, .ref 26] 29 (mNw (mPH (mNw shC_19 27 (100, 2000, fun _ => none)) 26 3 (some 27)) 28 (100, 1280, fun _ => none)) sg2
  refine ru_putRF (ci := 8) (k := 5) dX9_init_24 rfl rfl rfl rfl rfl kw_1132 ?_
  show mK Γ M_X9_init (d + 1) Q 27 30 2094 27 [(0, .ref 26)] [] 29 (mPH (mNw (mPH (mNw shC_19 27 (100, 2000, fun _ => none)) 26 3 (some 27)) 28 (100, 1280, fun _ => none)) 26 5 (some 28)) sg2
  refine mK_aload_n dX9_init_27 rfl rfl (.head _) ?_
  refine mK_sipush dX9_init_28 rfl qsi_402 ?_
  refine mK_newI (n := 402) dX9_init_31 rfl (by decide) (by decide) (Nat.le_of_ble_eq_true rfl) (Nat.le_of_ble_eq_true rfl) (Nat.le_of_ble_eq_true rfl) (Nat.le_of_ble_eq_true rfl) kw_192 ?_
  rw [zr_2 _ (by decide) (by decide)]
  show mK Γ M_X9_init (d + 1) Q 27 29 1692 33 [(0, .ref 26)] [.ref 29, .ref 26] 30 (mNw (mPH (mNw (mPH (mNw shC_19 27 (100, 2000, fun _ => none)) 26 3 (some 27)) 28 (100, 1280, fun _ => none)) 26 5 (some 28)) 29 (100, 402, fun _ => none)) sg2
  refine ru_putRF (ci := 8) (k := 7) dX9_init_33 rfl rfl rfl rfl rfl kw_1134 ?_
  show mK Γ M_X9_init (d + 1) Q 27 29 1692 36 [(0, .ref 26)] [] 30 (mPH (mNw (mPH (mNw (mPH (mNw shC_19 27 (100, 2000, fun _ => none)) 26 3 (some 27)) 28 (100, 1280, fun _ => none)) 26 5 (some 28)) 29 (100, 402, fun _ => none)) 26 7 (some 29)) sg2
  refine mK_aload_n dX9_init_36 rfl rfl (.head _) ?_
  refine mK_sipush dX9_init_37 rfl qsi_402 ?_
  refine mK_newI (n := 402) dX9_init_40 rfl (by decide) (by decide) (Nat.le_of_ble_eq_true rfl) (Nat.le_of_ble_eq_true rfl) (Nat.le_of_ble_eq_true rfl) (Nat.le_of_ble_eq_true rfl) kw_192 ?_
  rw [zr_2 _ (by decide) (by decide)]
  show mK Γ M_X9_init (d + 1) Q 27 28 1290 42 [(0, .ref 26)] [.ref 30, .ref 26] 31 (mNw (mPH (mNw (mPH (mNw (mPH (mNw shC_19 27 (100, 2000, fun _ => none)) 26 3 (some 27)) 28 (100, 1280, fun _ => none)) 26 5 (some 28)) 29 (100, 402, fun _ => none)) 26 7 (some 29)) 30 (100, 402, fun _ => none)) sg2
  refine ru_putRF (ci := 8) (k := 8) dX9_init_42 rfl rfl rfl rfl rfl kw_1135 ?_
  show mK Γ M_X9_init (d + 1) Q 27 28 1290 45 [(0, .ref 26)] [] 31 (mPH (mNw (mPH (mNw (mPH (mNw (mPH (mNw shC_19 27 (100, 2000, fun _ => none)) 26 3 (some 27)) 28 (100, 1280, fun _ => none)) 26 5 (some 28)) 29 (100, 402, fun _ => none)) 26 7 (some 29)) 30 (100, 402, fun _ => none)) 26 8 (some 30)) sg2
  refine mK_aload_n dX9_init_45 rfl rfl (.head _) ?_
  refine mK_sipush dX9_init_46 rfl qsi_402 ?_
  refine mK_newL (n := 402) dX9_init_49 rfl (by decide) (by decide) (Nat.le_of_ble_eq_true rfl) (Nat.le_of_ble_eq_true rfl) (Nat.le_of_ble_eq_true rfl) (Nat.le_of_ble_eq_true rfl) kw_191 ?_
  rw [zr_2 _ (by decide) (by decide)]
  show mK Γ M_X9_init (d + 1) Q 27 27 888 51 [(0, .ref 26)] [.ref 31, .ref 26] 32 (mNw (mPH (mNw (mPH (mNw (mPH (mNw (mPH (mNw shC_19 27 (100, 2000, fun _ => none)) 26 3 (some 27)) 28 (100, 1280, fun _ => none)) 26 5 (some 28)) 29 (100, 402, fun _ => none)) 26 7 (some 29)) 30 (100, 402, fun _ => none)) 26 8 (some 30)) 31 (103, 402, fun _ => none)) sg2
  refine ru_putRF (ci := 8) (k := 9) dX9_init_51 rfl rfl rfl rfl rfl kw_1136 ?_
  show mK Γ M_X9_init (d + 1) Q 27 27 888 54 [(0, .ref 26)] [] 32 (mPH (mNw (mPH (mNw (mPH (mNw (mPH (mNw (mPH (mNw shC_19 27 (100, 2000, fun _ => none)) 26 3 (some 27)) 28 (100, 1280, fun _ => none)) 26 5 (some 28)) 29 (100, 402, fun _ => none)) 26 7 (some 29)) 30 (100, 402, fun _ => none)) 26 8 (some 30)) 31 (103, 402, fun _ => none)) 26 9 (some 31)) sg2
  refine mK_aload_n dX9_init_54 rfl rfl (.head _) ?_
  refine mK_new (ci := 7) dX9_init_55 rfl (Nat.le_of_ble_eq_true rfl) (Nat.le_of_ble_eq_true rfl) (Nat.le_of_ble_eq_true rfl) (Nat.le_of_ble_eq_true rfl) kw_1073 kw_1074 kw_96 ?_
  rw [zr_2 _ (by decide) (by decide)]
  show mK Γ M_X9_init (d + 1) Q 27 26 876 58 [(0, .ref 26)] [.ref 32, .ref 26] 33 (mNw (mPH (mNw (mPH (mNw (mPH (mNw (mPH (mNw (mPH (mNw shC_19 27 (100, 2000, fun _ => none)) 26 3 (some 27)) 28 (100, 1280, fun _ => none)) 26 5 (some 28)) 29 (100, 402, fun _ => none)) 26 7 (some 29)) 30 (100, 402, fun _ => none)) 26 8 (some 30)) 31 (103, 402, fun _ => none)) 26 9 (some 31)) 32 (7, 0, fun _ => none)) sg2
  refine mK_dup dX9_init_58 rfl rfl ?_
  refine mK_aload_n dX9_init_59 rfl rfl (.head _) ?_
  refine mK_invIN (J := M_X8_init) (k := 1) (as := [.ref 26]) (st := [.ref 32, .ref 26]) (b := 32) (c1 := 9) (s1 := 292) dX9_init_60 rfl jw_X8_init jn_X8_init rfl (Nat.le_of_ble_eq_true rfl) (Nat.le_of_ble_eq_true rfl) (Nat.le_of_ble_eq_true rfl) rfl kn_1075 kw_1076 rfl rfl (Nat.le_of_ble_eq_true rfl) ?_
  refine I_32 (d := d + 0) ?_
  show mK Γ M_X9_init (d + 1) Q 27 17 584 63 [(0, .ref 26)] [.ref 32, .ref 26] 42 shC_21 sg2
  refine ru_putRF (ci := 8) (k := 11) dX9_init_63 rfl rfl rfl rfl rfl kw_1138 ?_
  show mK Γ M_X9_init (d + 1) Q 27 17 584 66 [(0, .ref 26)] [] 42 (mPH shC_21 26 11 (some 32)) sg2
  refine mK_aload_n dX9_init_66 rfl rfl (.head _) ?_
  refine mK_new (ci := 7) dX9_init_67 rfl (Nat.le_of_ble_eq_true rfl) (Nat.le_of_ble_eq_true rfl) (Nat.le_of_ble_eq_true rfl) (Nat.le_of_ble_eq_true rfl) kw_1073 kw_1074 kw_96 ?_
  rw [zr_2 _ (by decide) (by decide)]
  show mK Γ M_X9_init (d + 1) Q 27 16 572 70 [(0, .ref 26)] [.ref 42, .ref 26] 43 (mNw (mPH shC_21 26 11 (some 32)) 42 (7, 0, fun _ => none)) sg2
  refine mK_dup dX9_init_70 rfl rfl ?_
  refine mK_aload_n dX9_init_71 rfl rfl (.head _) ?_
  refine mK_invIN (J := M_X8_init) (k := 1) (as := [.ref 26]) (st := [.ref 42, .ref 26]) (b := 42) (c1 := 9) (s1 := 292) dX9_init_72 rfl jw_X8_init jn_X8_init rfl (Nat.le_of_ble_eq_true rfl) (Nat.le_of_ble_eq_true rfl) (Nat.le_of_ble_eq_true rfl) rfl kn_1075 kw_1076 rfl rfl (Nat.le_of_ble_eq_true rfl) ?_
  refine I_42 (d := d + 0) ?_
  show mK Γ M_X9_init (d + 1) Q 27 7 280 75 [(0, .ref 26)] [.ref 42, .ref 26] 52 shC_23 sg2
  refine ru_putRF (ci := 8) (k := 12) dX9_init_75 rfl rfl rfl rfl rfl kw_1139 ?_
  show mK Γ M_X9_init (d + 1) Q 27 7 280 78 [(0, .ref 26)] [] 52 (mPH shC_23 26 12 (some 42)) sg2
  refine mK_aload_n dX9_init_78 rfl rfl (.head _) ?_
  refine mK_bipush dX9_init_79 rfl qbi_40 ?_
  refine mK_newI (n := 40) dX9_init_81 rfl (by decide) (by decide) (Nat.le_of_ble_eq_true rfl) (Nat.le_of_ble_eq_true rfl) (Nat.le_of_ble_eq_true rfl) (Nat.le_of_ble_eq_true rfl) kw_192 ?_
  rw [zr_2 _ (by decide) (by decide)]
  show mK Γ M_X9_init (d + 1) Q 27 6 240 83 [(0, .ref 26)] [.ref 52, .ref 26] 53 (mNw (mPH shC_23 26 12 (some 42)) 52 (100, 40, fun _ => none)) sg2
  refine ru_putRF (ci := 8) (k := 13) dX9_init_83 rfl rfl rfl rfl rfl kw_1140 ?_
  show mK Γ M_X9_init (d + 1) Q 27 6 240 86 [(0, .ref 26)] [] 53 (mPH (mNw (mPH shC_23 26 12 (some 42)) 52 (100, 40, fun _ => none)) 26 13 (some 52)) sg2
  refine mK_aload_n dX9_init_86 rfl rfl (.head _) ?_
  refine mK_bipush dX9_init_87 rfl qbi_40 ?_
  refine mK_newI (n := 40) dX9_init_89 rfl (by decide) (by decide) (Nat.le_of_ble_eq_true rfl) (Nat.le_of_ble_eq_true rfl) (Nat.le_of_ble_eq_true rfl) (Nat.le_of_ble_eq_true rfl) kw_192 ?_
  rw [zr_2 _ (by decide) (by decide)]
  show mK Γ M_X9_init (d + 1) Q 27 5 200 91 [(0, .ref 26)] [.ref 53, .ref 26] 54 (mNw (mPH (mNw (mPH shC_23 26 12 (some 42)) 52 (100, 40, fun _ => none)) 26 13 (some 52)) 53 (100, 40, fun _ => none)) sg2
  refine ru_putRF (ci := 8) (k := 14) dX9_init_91 rfl rfl rfl rfl rfl kw_1141 ?_
  show mK Γ M_X9_init (d + 1) Q 27 5 200 94 [(0, .ref 26)] [] 54 (mPH (mNw (mPH (mNw (mPH shC_23 26 12 (some 42)) 52 (100, 40, fun _ => none)) 26 13 (some 52)) 53 (100, 40, fun _ => none)) 26 14 (some 53)) sg2
  refine mK_aload_n dX9_init_94 rfl rfl (.head _) ?_
  refine mK_bipush dX9_init_95 rfl qbi_40 ?_
  refine mK_newI (n := 40) dX9_init_97 rfl (by decide) (by decide) (Nat.le_of_ble_eq_true rfl) (Nat.le_of_ble_eq_true rfl) (Nat.le_of_ble_eq_true rfl) (Nat.le_of_ble_eq_true rfl) kw_192 ?_
  rw [zr_2 _ (by decide) (by decide)]
  show mK Γ M_X9_init (d + 1) Q 27 4 160 99 [(0, .ref 26)] [.ref 54, .ref 26] 55 (mNw (mPH (mNw (mPH (mNw (mPH shC_23 26 12 (some 42)) 52 (100, 40, fun _ => none)) 26 13 (some 52)) 53 (100, 40, fun _ => none)) 26 14 (some 53)) 54 (100, 40, fun _ => none)) sg2
  refine ru_putRF (ci := 8) (k := 16) dX9_init_99 rfl rfl rfl rfl rfl kw_1143 ?_
  show mK Γ M_X9_init (d + 1) Q 27 4 160 102 [(0, .ref 26)] [] 55 (mPH (mNw (mPH (mNw (mPH (mNw (mPH shC_23 26 12 (some 42)) 52 (100, 40, fun _ => none)) 26 13 (some 52)) 53 (100, 40, fun _ => none)) 26 14 (some 53)) 54 (100, 40, fun _ => none)) 26 16 (some 54)) sg2
  refine mK_aload_n dX9_init_102 rfl rfl (.head _) ?_
  refine mK_bipush dX9_init_103 rfl qbi_40 ?_
  refine mK_newI (n := 40) dX9_init_105 rfl (by decide) (by decide) (Nat.le_of_ble_eq_true rfl) (Nat.le_of_ble_eq_true rfl) (Nat.le_of_ble_eq_true rfl) (Nat.le_of_ble_eq_true rfl) kw_192 ?_
  rw [zr_2 _ (by decide) (by decide)]
  show mK Γ M_X9_init (d + 1) Q 27 3 120 107 [(0, .ref 26)] [.ref 55, .ref 26] 56 (mNw (mPH (mNw (mPH (mNw (mPH (mNw (mPH shC_23 26 12 (some 42)) 52 (100, 40, fun _ => none)) 26 13 (some 52)) 53 (100, 40, fun _ => none)) 26 14 (some 53)) 54 (100, 40, fun _ => none)) 26 16 (some 54)) 55 (100, 40, fun _ => none)) sg2
  refine ru_putRF (ci := 8) (k := 17) dX9_init_107 rfl rfl rfl rfl rfl kw_1144 ?_
  show mK Γ M_X9_init (d + 1) Q 27 3 120 110 [(0, .ref 26)] [] 56 (mPH (mNw (mPH (mNw (mPH (mNw (mPH (mNw (mPH shC_23 26 12 (some 42)) 52 (100, 40, fun _ => none)) 26 13 (some 52)) 53 (100, 40, fun _ => none)) 26 14 (some 53)) 54 (100, 40, fun _ => none)) 26 16 (some 54)) 55 (100, 40, fun _ => none)) 26 17 (some 55)) sg2
  refine mK_aload_n dX9_init_110 rfl rfl (.head _) ?_
  refine mK_iconst dX9_init_111 rfl qic_m1 ?_
  refine ru_putI (ci := 8) (k := 18) dX9_init_112 rfl rfl rfl kw_1145 ?_
  show mK Γ M_X9_init (d + 1) Q 27 3 120 115 [(0, .ref 26)] [] 56 (mPH (mNw (mPH (mNw (mPH (mNw (mPH (mNw (mPH shC_23 26 12 (some 42)) 52 (100, 40, fun _ => none)) 26 13 (some 52)) 53 (100, 40, fun _ => none)) 26 14 (some 53)) 54 (100, 40, fun _ => none)) 26 16 (some 54)) 55 (100, 40, fun _ => none)) 26 17 (some 55)) sg3
  refine mK_aload_n dX9_init_115 rfl rfl (.head _) ?_
  refine mK_iconst dX9_init_116 rfl qic_m1 ?_
  refine ru_putI (ci := 8) (k := 19) dX9_init_117 rfl rfl rfl kw_1146 ?_
  show mK Γ M_X9_init (d + 1) Q 27 3 120 120 [(0, .ref 26)] [] 56 (mPH (mNw (mPH (mNw (mPH (mNw (mPH (mNw (mPH shC_23 26 12 (some 42)) 52 (100, 40, fun _ => none)) 26 13 (some 52)) 53 (100, 40, fun _ => none)) 26 14 (some 53)) 54 (100, 40, fun _ => none)) 26 16 (some 54)) 55 (100, 40, fun _ => none)) 26 17 (some 55)) sg4
  refine mK_aload_n dX9_init_120 rfl rfl (.head _) ?_
  refine mK_iconst dX9_init_121 rfl qic_m1 ?_
  refine ru_putI (ci := 8) (k := 20) dX9_init_122 rfl rfl rfl kw_1147 ?_
  show mK Γ M_X9_init (d + 1) Q 27 3 120 125 [(0, .ref 26)] [] 56 (mPH (mNw (mPH (mNw (mPH (mNw (mPH (mNw (mPH shC_23 26 12 (some 42)) 52 (100, 40, fun _ => none)) 26 13 (some 52)) 53 (100, 40, fun _ => none)) 26 14 (some 53)) 54 (100, 40, fun _ => none)) 26 16 (some 54)) 55 (100, 40, fun _ => none)) 26 17 (some 55)) sg5
  refine mK_aload_n dX9_init_125 rfl rfl (.head _) ?_
  refine mK_bipush dX9_init_126 rfl qbi_40 ?_
  refine mK_newI (n := 40) dX9_init_128 rfl (by decide) (by decide) (Nat.le_of_ble_eq_true rfl) (Nat.le_of_ble_eq_true rfl) (Nat.le_of_ble_eq_true rfl) (Nat.le_of_ble_eq_true rfl) kw_192 ?_
  rw [zr_5 _ (by decide) (by decide)]
  show mK Γ M_X9_init (d + 1) Q 27 2 80 130 [(0, .ref 26)] [.ref 56, .ref 26] 57 (mNw (mPH (mNw (mPH (mNw (mPH (mNw (mPH (mNw (mPH shC_23 26 12 (some 42)) 52 (100, 40, fun _ => none)) 26 13 (some 52)) 53 (100, 40, fun _ => none)) 26 14 (some 53)) 54 (100, 40, fun _ => none)) 26 16 (some 54)) 55 (100, 40, fun _ => none)) 26 17 (some 55)) 56 (100, 40, fun _ => none)) sg5
  refine ru_putRF (ci := 8) (k := 21) dX9_init_130 rfl rfl rfl rfl rfl kw_1148 ?_
  show mK Γ M_X9_init (d + 1) Q 27 2 80 133 [(0, .ref 26)] [] 57 (mPH (mNw (mPH (mNw (mPH (mNw (mPH (mNw (mPH (mNw (mPH shC_23 26 12 (some 42)) 52 (100, 40, fun _ => none)) 26 13 (some 52)) 53 (100, 40, fun _ => none)) 26 14 (some 53)) 54 (100, 40, fun _ => none)) 26 16 (some 54)) 55 (100, 40, fun _ => none)) 26 17 (some 55)) 56 (100, 40, fun _ => none)) 26 21 (some 56)) sg5
  refine mK_aload_n dX9_init_133 rfl rfl (.head _) ?_
  refine mK_bipush dX9_init_134 rfl qbi_40 ?_
  refine mK_newI (n := 40) dX9_init_136 rfl (by decide) (by decide) (Nat.le_of_ble_eq_true rfl) (Nat.le_of_ble_eq_true rfl) (Nat.le_of_ble_eq_true rfl) (Nat.le_of_ble_eq_true rfl) kw_192 ?_
  rw [zr_5 _ (by decide) (by decide)]
  show mK Γ M_X9_init (d + 1) Q 27 1 40 138 [(0, .ref 26)] [.ref 57, .ref 26] 58 (mNw (mPH (mNw (mPH (mNw (mPH (mNw (mPH (mNw (mPH (mNw (mPH shC_23 26 12 (some 42)) 52 (100, 40, fun _ => none)) 26 13 (some 52)) 53 (100, 40, fun _ => none)) 26 14 (some 53)) 54 (100, 40, fun _ => none)) 26 16 (some 54)) 55 (100, 40, fun _ => none)) 26 17 (some 55)) 56 (100, 40, fun _ => none)) 26 21 (some 56)) 57 (100, 40, fun _ => none)) sg5
  refine ru_putRF (ci := 8) (k := 22) dX9_init_138 rfl rfl rfl rfl rfl kw_1149 ?_
  show mK Γ M_X9_init (d + 1) Q 27 1 40 141 [(0, .ref 26)] [] 58 (mPH (mNw (mPH (mNw (mPH (mNw (mPH (mNw (mPH (mNw (mPH (mNw (mPH shC_23 26 12 (some 42)) 52 (100, 40, fun _ => none)) 26 13 (some 52)) 53 (100, 40, fun _ => none)) 26 14 (some 53)) 54 (100, 40, fun _ => none)) 26 16 (some 54)) 55 (100, 40, fun _ => none)) 26 17 (some 55)) 56 (100, 40, fun _ => none)) 26 21 (some 56)) 57 (100, 40, fun _ => none)) 26 22 (some 57)) sg5
  refine mK_aload_n dX9_init_141 rfl rfl (.head _) ?_
  refine mK_bipush dX9_init_142 rfl qbi_40 ?_
  refine mK_newI (n := 40) dX9_init_144 rfl (by decide) (by decide) (Nat.le_of_ble_eq_true rfl) (Nat.le_of_ble_eq_true rfl) (Nat.le_of_ble_eq_true rfl) (Nat.le_of_ble_eq_true rfl) kw_192 ?_
  rw [zr_5 _ (by decide) (by decide)]
  show mK Γ M_X9_init (d + 1) Q 27 0 0 146 [(0, .ref 26)] [.ref 58, .ref 26] 59 (mNw (mPH (mNw (mPH (mNw (mPH (mNw (mPH (mNw (mPH (mNw (mPH (mNw (mPH shC_23 26 12 (some 42)) 52 (100, 40, fun _ => none)) 26 13 (some 52)) 53 (100, 40, fun _ => none)) 26 14 (some 53)) 54 (100, 40, fun _ => none)) 26 16 (some 54)) 55 (100, 40, fun _ => none)) 26 17 (some 55)) 56 (100, 40, fun _ => none)) 26 21 (some 56)) 57 (100, 40, fun _ => none)) 26 22 (some 57)) 58 (100, 40, fun _ => none)) sg5
  refine ru_putRF (ci := 8) (k := 23) dX9_init_146 rfl rfl rfl rfl rfl kw_1150 ?_
  show mK Γ M_X9_init (d + 1) Q 27 0 0 149 [(0, .ref 26)] [] 59 (mPH (mNw (mPH (mNw (mPH (mNw (mPH (mNw (mPH (mNw (mPH (mNw (mPH (mNw (mPH shC_23 26 12 (some 42)) 52 (100, 40, fun _ => none)) 26 13 (some 52)) 53 (100, 40, fun _ => none)) 26 14 (some 53)) 54 (100, 40, fun _ => none)) 26 16 (some 54)) 55 (100, 40, fun _ => none)) 26 17 (some 55)) 56 (100, 40, fun _ => none)) 26 21 (some 56)) 57 (100, 40, fun _ => none)) 26 22 (some 57)) 58 (100, 40, fun _ => none)) 26 23 (some 58)) sg5
  exact mK_vret dX9_init_149 rfl h
theorem mCN_24 (n : Nat) : mCN n ≤ 24 := by unfold mCN; split <;> decide
theorem mK_sh {Γ : Nat × (Nat → Int32)} {I : mM} {d : Nat} {Q : mQ} {n0 bc bs pc : Nat} {lv : List (Nat × Value)} {st : List Value} {N : Nat} {sh sh' : mH} {σ : mS} (h : ∀ j, j < N → (sh j).1 = (sh' j).1 ∧ (sh j).2.1 = (sh' j).2.1 ∧ ∀ k, k < 24 → (sh j).2.2 k = (sh' j).2.2 k) (hcd : mCd N sh') (k : mK Γ I d Q n0 bc bs pc lv st N sh' σ) : mK Γ I d Q n0 bc bs pc lv st N sh σ := by
  intro p l e R s m args below meth c H locs cells slots ls D cd ad ad0 aC A mc ms hX hY hS hl hag hb hc
  have e1 : mWs cd ad aC N sh σ = mWs cd ad aC N sh' σ := by
    unfold mWs
    apply List.map_congr_left
    intro j hj
    obtain ⟨h1, h2, h3⟩ := h j (List.mem_range.mp hj)
    have hf : mFs cd ad σ (sh j) j = mFs cd ad σ (sh' j) j := by
      unfold mFs
      rw [h1]
      apply List.map_congr_left
      intro q hq
      have := h3 q (Nat.lt_of_lt_of_le (List.mem_range.mp hq) (mCN_24 _))
      unfold mFl
      split <;> first | rfl | rw [this]
    have hm : mCl cd ad aC σ (sh j) j = mCl cd ad aC σ (sh' j) j := by
      unfold mCl
      rw [h1, h2, hf]
    rw [hm]
  obtain ⟨hP, ⟨tys, hK, ht⟩, hD, hN, hcl⟩ := hY
  rw [e1] at hP hD
  exact k p l e R s m args below meth c H locs cells slots ls D cd ad ad0 aC A mc ms hX ⟨hP, ⟨tys, hK, fun j hj h100 => by rw [← (h j hj).1] at h100 ⊢; exact ht j hj h100⟩, hD, hN, hcd⟩ hS hl hag hb hc
set_option maxRecDepth 20000 in
theorem sh_end : ∀ j, j < 60 → (shC_25 j).1 = (mSH j).1 ∧ (shC_25 j).2.1 = (mSH j).2.1 ∧ ∀ k, k < 24 → (shC_25 j).2.2 k = (mSH j).2.2 k := by decide +kernel
set_option maxRecDepth 20000 in
theorem law_all {Γ : Nat × (Nat → Int32)} {d : Nat} {Q : mQ} (hL : Γ.1 ≤ 3072) (hR : Rel sg5) (hQ : ∀ ρ, Q (.inl (some (.int 1))) 60 mSH ρ) : mK Γ M_L_law (d + 38) Q 0 601024 7293034 0 [(0, .ref 1300)] [] 0 shC_0 sg0 := by
  refine mK_new (ci := 6) dL_law_0 rfl (Nat.le_of_ble_eq_true rfl) (Nat.le_of_ble_eq_true rfl) (Nat.le_of_ble_eq_true rfl) (Nat.le_of_ble_eq_true rfl) kw_111 kw_112 kw_87 ?_
  rw [zr_0 _]
  show mK Γ M_L_law (d + 38) Q 0 601023 7293025 3 [(0, .ref 1300)] [.ref 0] 1 (mNw shC_0 0 (6, 0, fun _ => none)) sg0
  refine mK_dup dL_law_3 rfl rfl ?_
  refine mK_invI (J := M_X7_init) (k := 0) (as := []) (st := [.ref 0]) (b := 0) (c1 := 25) (s1 := 4546) dL_law_4 rfl jw_X7_init jn_X7_init rfl (Nat.le_of_ble_eq_true rfl) (Nat.le_of_ble_eq_true rfl) (Nat.le_of_ble_eq_true rfl) rfl kw_113 kw_114 rfl rfl (Nat.le_of_ble_eq_true rfl) ?_
  refine I_0 (d := d + 36) ?_
  show mK Γ M_L_law (d + 38) Q 0 600998 7288479 7 [(0, .ref 1300)] [.ref 0] 26 shC_18 sg1
  refine ru_astore_n (lv1 := [(0, .ref 1300), (1, .ref 0)]) dL_law_7 rfl rfl (Nat.le_of_ble_eq_true rfl) rfl ?_
  refine mK_new (ci := 8) dL_law_8 rfl (Nat.le_of_ble_eq_true rfl) (Nat.le_of_ble_eq_true rfl) (Nat.le_of_ble_eq_true rfl) (Nat.le_of_ble_eq_true rfl) kw_1067 kw_1068 kw_95 ?_
  rw [zr_1 _ (by decide)]
  show mK Γ M_L_law (d + 38) Q 0 600997 7288455 11 [(0, .ref 1300), (1, .ref 0)] [.ref 26] 27 (mNw shC_18 26 (8, 0, fun _ => none)) sg1
  refine mK_dup dL_law_11 rfl rfl ?_
  refine mK_invI (J := M_X9_init) (k := 0) (as := []) (st := [.ref 26]) (b := 26) (c1 := 32) (s1 := 5374) dL_law_12 rfl jw_X9_init jn_X9_init rfl (Nat.le_of_ble_eq_true rfl) (Nat.le_of_ble_eq_true rfl) (Nat.le_of_ble_eq_true rfl) rfl kw_1069 kw_1070 rfl rfl (Nat.le_of_ble_eq_true rfl) ?_
  refine I_26 (d := d + 36) ?_
  show mK Γ M_L_law (d + 38) Q 0 600965 7283081 15 [(0, .ref 1300), (1, .ref 0)] [.ref 26] 59 shC_24 sg5
  refine ru_astore_n (lv1 := [(0, .ref 1300), (1, .ref 0), (2, .ref 26)]) dL_law_15 rfl rfl (Nat.le_of_ble_eq_true rfl) rfl ?_
  refine mK_iconst dL_law_16 rfl qic_1 ?_
  refine mK_newL (n := 1) dL_law_17 rfl (by decide) (by decide) (Nat.le_of_ble_eq_true rfl) (Nat.le_of_ble_eq_true rfl) (Nat.le_of_ble_eq_true rfl) (Nat.le_of_ble_eq_true rfl) kw_191 ?_
  rw [zr_5 _ (by decide) (by decide)]
  show mK Γ M_L_law (d + 38) Q 0 600964 7283080 19 [(0, .ref 1300), (1, .ref 0), (2, .ref 26)] [.ref 59] 60 (mNw shC_24 59 (103, 1, fun _ => none)) sg5
  refine ru_astore_n (lv1 := [(0, .ref 1300), (1, .ref 0), (2, .ref 26), (3, .ref 59)]) dL_law_19 rfl rfl (Nat.le_of_ble_eq_true rfl) rfl ?_
  refine mK_iconst (v := nI 0) dL_law_20 rfl (by decide) ?_
  refine ru_istore (lv1 := lLL 0) dL_law_21 rfl (Nat.le_of_ble_eq_true rfl) rfl ?_
  refine mK_sh (sh' := mSH) sh_end mCd_SH ?_
  exact law_loop hL hQ 512 0 _ _ _ hR (Nat.zero_le _) (by omega) (by omega) (by omega)
