/-! ===== what is given of the start ===== -/
def gvL : List Cond := flatC (Jvm.Cond.and given_1 narrow_1)
theorem mem_at {L : List Cond} {i : Nat} {w : Cond} (h : L[i]? = some w) : w ∈ L := List.mem_of_getElem? h
def gvAp : List Nat := [49, 52, 55, 58, 61, 64, 106, 70, 67, 109, 73, 76, 112, 115, 79, 82, 85, 88, 91, 100, 103, 94, 97, 118, 7, 43, 46, 4]
set_option maxRecDepth 100000 in
theorem gvA : ∀ i, i < 28 → gvL[gvAp.getD i 0]? = some (Cond.exactly (Term.static "DebateHall$Kind" (mKn.getD i "") "LDebateHall$Kind;") "DebateHall$Kind") := by decide +kernel
def gvBp : List Nat := [50, 53, 56, 59, 62, 65, 107, 71, 68, 110, 74, 77, 113, 116, 80, 83, 86, 89, 92, 101, 104, 95, 98, 119, 8, 44, 47, 5]
set_option maxRecDepth 100000 in
theorem gvB : ∀ i, i < 28 → gvL[gvBp.getD i 0]? = some (Cond.eq (.field (Term.static "DebateHall$Kind" (mKn.getD i "") "LDebateHall$Kind;") "java/lang/Enum" "ordinal" "I") (.int (Int32.ofNat i))) := by decide +kernel
def gvCp : List Nat := [51, 54, 57, 60, 63, 66, 108, 72, 69, 111, 75, 78, 114, 117, 81, 84, 87, 90, 93, 102, 105, 96, 99, 120, 9, 45, 48, 6]
set_option maxRecDepth 100000 in
theorem gvC : ∀ i, i < 28 → gvL[gvCp.getD i 0]? = some (Cond.eq (.field (Term.static "DebateHall$Kind" (mKn.getD i "") "LDebateHall$Kind;") "DebateHall$Kind" "code" "J") (.long (mKc i))) := by decide +kernel
def gvDp : List Nat := [387, 398, 405, 407, 413, 415, 455, 423, 417, 457, 425, 427, 459, 461, 437, 439, 441, 443, 445, 451, 453, 447, 449, 463, 345, 362, 364, 343]
set_option maxRecDepth 100000 in
theorem gvD : ∀ i, i < 28 → lw_tbl[gvDp.getD i 0]? = some (Cond.laysStatic "DebateHall$Kind" (mKn.getD i "") "LDebateHall$Kind;") := by decide +kernel
def gvEp : List Nat := [15, 16, 17, 18, 19, 20, 21, 22, 23, 24, 25, 26, 27, 28, 29, 30, 31, 32, 33, 34, 35, 36, 37, 38, 39, 40, 41, 42]
set_option maxRecDepth 100000 in
theorem gvE : ∀ i, i < 28 → gvL[gvEp.getD i 0]? = some (Cond.eq (.elem (Term.static "DebateHall$Kind" "ALL" "[LDebateHall$Kind;") (.int (Int32.ofNat i))) (Term.static "DebateHall$Kind" (mKn.getD i "") "LDebateHall$Kind;")) := by decide +kernel
set_option maxRecDepth 100000 in
theorem gvF1 : gvL[12]? = some (Cond.arrayOf (Term.static "DebateHall$Kind" "ALL" "[LDebateHall$Kind;") (.object "DebateHall$Kind")) := by decide +kernel
set_option maxRecDepth 100000 in
theorem gvF2 : gvL[13]? = some (Cond.eq (.length (Term.static "DebateHall$Kind" "ALL" "[LDebateHall$Kind;")) (.int (Int32.ofNat 28))) := by decide +kernel
set_option maxRecDepth 100000 in
theorem gvF3 : lw_tbl[350]? = some (Cond.laysStatic "DebateHall$Kind" "ALL" "[LDebateHall$Kind;") := by decide +kernel
set_option maxRecDepth 100000 in
theorem gvF4 : lw_tbl[103]? = some (Cond.initialized "DebateHall$Kind") := by decide +kernel
def gvGp : List Nat := [131, 132, 133, 134, 135, 136, 137, 138, 139, 140, 141, 142, 143, 144, 145, 146, 147, 148, 149, 150, 151]
set_option maxRecDepth 100000 in
theorem gvG : ∀ i, i < 21 → gvL[gvGp.getD i 0]? = some (Cond.eq (.elem (Term.static "DebateHallModel" "KEYS" "[J") (.int (Int32.ofNat i))) (.long (mKy i))) := by decide +kernel
set_option maxRecDepth 100000 in
theorem gvH1 : gvL[129]? = some (Cond.arrayOf (Term.static "DebateHallModel" "KEYS" "[J") .long) := by decide +kernel
set_option maxRecDepth 100000 in
theorem gvH2 : gvL[130]? = some (Cond.eq (.length (Term.static "DebateHallModel" "KEYS" "[J")) (.int (Int32.ofNat 21))) := by decide +kernel
set_option maxRecDepth 100000 in
theorem gvH3 : lw_tbl[1322]? = some (Cond.laysStatic "DebateHallModel" "KEYS" "[J") := by decide +kernel
set_option maxRecDepth 100000 in
theorem gvH4 : lw_tbl[95]? = some (Cond.initialized "DebateHallModel") := by decide +kernel
def gvIp : List Nat := [453, 464, 472, 481, 487, 497, 589, 507, 515, 600, 521, 530, 607, 618, 543, 549, 556, 564, 536, 576, 583]
set_option maxRecDepth 100000 in
theorem gvI : ∀ i, i < 21 → gvL[gvIp.getD i 0]? = some (Cond.exactly (Term.string "DebateHallModel" (mScL.getD i 0)) "java/lang/String") := by decide +kernel
def gvJp : List Nat := [454, 465, 473, 482, 488, 498, 590, 508, 516, 601, 522, 531, 608, 619, 544, 550, 557, 565, 537, 577, 584]
set_option maxRecDepth 100000 in
theorem gvJ : ∀ i, i < 21 → gvL[gvJp.getD i 0]? = some (Cond.eq (.field (Term.string "DebateHallModel" (mScL.getD i 0)) "java/lang/String" "coder" "B") (.int 0)) := by decide +kernel
def gvKp : List Nat := [455, 466, 474, 483, 489, 499, 591, 509, 517, 602, 523, 532, 609, 620, 545, 551, 558, 566, 538, 578, 585]
set_option maxRecDepth 100000 in
theorem gvK : ∀ i, i < 21 → gvL[gvKp.getD i 0]? = some (Cond.arrayOf (Term.field (Term.string "DebateHallModel" (mScL.getD i 0)) "java/lang/String" "value" "[B") .byte) := by decide +kernel
def gvMp : List Nat := [456, 467, 475, 484, 490, 500, 592, 510, 518, 603, 524, 533, 610, 621, 546, 552, 559, 567, 539, 579, 586]
set_option maxRecDepth 100000 in
theorem gvM : ∀ i, i < 21 → gvL[gvMp.getD i 0]? = some (Cond.eq (.length (Term.field (Term.string "DebateHallModel" (mScL.getD i 0)) "java/lang/String" "value" "[B")) (.int (Int32.ofNat (mSl.getD i 0)))) := by decide +kernel
def gvNp : List (List Nat) := [[457, 458, 459, 460, 461, 462, 463], [468, 469, 470, 471], [476, 477, 478, 479, 480], [485, 486], [491, 492, 493, 494, 495, 496], [501, 502, 503, 504, 505, 506], [593, 594, 595, 596, 597, 598, 599], [511, 512, 513, 514], [519, 520], [604, 605, 606], [525, 526, 527, 528, 529], [534, 535], [611, 612, 613, 614, 615, 616, 617], [622, 623, 624, 625, 626, 627], [547, 548], [553, 554, 555], [560, 561, 562, 563], [568, 569, 570, 571, 572, 573, 574, 575], [540, 541, 542], [580, 581, 582], [587, 588]]
set_option maxRecDepth 100000 in
theorem gvN : ∀ i, i < 21 → ∀ j, j < mSl.getD i 0 → gvL[(gvNp.getD i []).getD j 0]? = some (Cond.eq (.elem (Term.field (Term.string "DebateHallModel" (mScL.getD i 0)) "java/lang/String" "value" "[B") (.int (Int32.ofNat j))) (.int ((mSb.getD i []).getD j 0))) := by decide +kernel
def gvOp : List Nat := [1250, 1323, 1328, 1329, 1330, 1331, 1363, 1332, 1333, 1364, 1338, 1339, 1365, 1366, 1357, 1358, 1359, 1360, 1352, 1361, 1362]
set_option maxRecDepth 100000 in
theorem gvO : ∀ i, i < 21 → lw_tbl[gvOp.getD i 0]? = some (Cond.stringRef "DebateHallModel" (mScL.getD i 0) (mStL.getD i "")) := by decide +kernel
def gvQp : List (Nat × Nat) := [(296, 931), (330, 959), (188, 830), (224, 877), (269, 904), (364, 986), (395, 1029), (423, 1066), (205, 865), (253, 887)]
set_option maxRecDepth 100000 in
theorem gvQ : ∀ i, i < 10 → gvL[(gvQp.getD i (0, 0)).1]? = some (Cond.exactly (.string "DebateHall" (mTx.getD i (0, "")).1) "java/lang/String") ∧ lw_tbl[(gvQp.getD i (0, 0)).2]? = some (Cond.stringRef "DebateHall" (mTx.getD i (0, "")).1 (mTx.getD i (0, "")).2) := by decide +kernel
set_option maxRecDepth 100000 in
theorem gvR1 : gvL[121]? = some (Cond.isRef (.static Bundle.tN "UNASSIGNED_STACK" Bundle.steD)) := by decide +kernel
set_option maxRecDepth 100000 in
theorem gvR2 : gvL[122]? = some (Cond.isRef (.static Bundle.tN "SUPPRESSED_SENTINEL" Bundle.listD)) := by decide +kernel
set_option maxRecDepth 100000 in
theorem gvR3 : gvL[123]? = some (Cond.eq (.static "java/lang/String" "COMPACT_STRINGS" "Z") (.int 1)) := by decide +kernel
set_option maxRecDepth 100000 in
theorem gvR4 : gvL[124]? = some (Cond.isRef (.static "jdk/internal/util/Preconditions" "SIOOBE_FORMATTER" "Ljava/util/function/BiFunction;")) := by decide +kernel
set_option maxRecDepth 100000 in
theorem gvR5 : gvL[186]? = some (Cond.not (.castable "java/lang/IllegalArgumentException" "java/lang/IndexOutOfBoundsException")) := by decide +kernel
set_option maxRecDepth 100000 in
theorem gvS0 : lw_tbl[816]? = some (Cond.laysStatic Bundle.tN "UNASSIGNED_STACK" Bundle.steD) := by decide +kernel
set_option maxRecDepth 100000 in
theorem gvS1 : lw_tbl[818]? = some (Cond.laysStatic Bundle.tN "SUPPRESSED_SENTINEL" Bundle.listD) := by decide +kernel
set_option maxRecDepth 100000 in
theorem gvS2 : lw_tbl[1271]? = some (Cond.laysStatic "java/lang/String" "COMPACT_STRINGS" "Z") := by decide +kernel
set_option maxRecDepth 100000 in
theorem gvS3 : lw_tbl[1287]? = some (Cond.laysStatic "jdk/internal/util/Preconditions" "SIOOBE_FORMATTER" "Ljava/util/function/BiFunction;") := by decide +kernel
set_option maxRecDepth 100000 in
theorem gvT0 : lw_tbl[97]? = some (Cond.initialized Bundle.tN) := by decide +kernel
set_option maxRecDepth 100000 in
theorem gvT2 : lw_tbl[105]? = some (Cond.initialized "java/lang/String") := by decide +kernel
set_option maxRecDepth 100000 in
theorem gvT3 : lw_tbl[107]? = some (Cond.initialized "jdk/internal/util/Preconditions") := by decide +kernel
def gvUp : List Nat := [137, 241, 120, 195, 257, 220, 112, 1074, 1068]
set_option maxRecDepth 100000 in
theorem gvU : ∀ i, i < 9 → lw_tbl[gvUp.getD i 0]? = some (Cond.instantiable (mCR i) (mCN i)) := by decide +kernel
def isAO (w : Cond) : Bool := match w with
  | .arrayOver _ => true
  | _ => false
theorem gvV : mNd.all (fun w => w.onTables || isAO w) = true := by decide +kernel
theorem nw_of {w : Cond} {A : Array Value} {U : State} (hw : (w.onTables || isAO w) = true) (h : w.before A U = true) : va_Nw w U := by
  rcases Bool.or_eq_true_iff.mp hw with q | q
  · exact va_Nw.of q h
  · cases w <;> first | (cases q; done) | exact h
