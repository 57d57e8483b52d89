
/-! ===== the class's grammar, method by method ===== -/
set_option maxRecDepth 20000 in
theorem E_X1_readNameBehind_24 {Γ : Nat × (Nat → Int32)} {d : Nat} {Q : mQ} {σ : mS} (a1 : Nat) (ha_a1 : 1000 ≤ a1 ∧ a1 < 1028) (h : mCall Γ M_X1_need (d + 1) 0 0 [.ref 24, .ref a1] 60 mSH σ (mRt Γ M_X1_readNameBehind (d + 2) Q 60 0 0 5 [(0, .ref 24), (1, .ref a1)] [])) : mCall Γ M_X1_readNameBehind (d + 2) 0 0 [.ref 24, .ref a1] 60 mSH σ Q := by
  refine mCall_of rfl (by decide) (Nat.le_of_ble_eq_true rfl) (mOkC (mOk_lo (Nat.le_of_ble_eq_true rfl)) (mOkC (mOk_hi (Nat.le_trans (by decide) ha_a1.1)) mOkN)) ?_
  show mK Γ M_X1_readNameBehind (d + 2) Q 60 0 0 0 [(0, .ref 24), (1, .ref a1)] [] 60 mSH σ
  refine mK_aload_n dX1_readNameBehind_0 rfl rfl (.head _) ?_
  refine mK_aload_n dX1_readNameBehind_1 rfl rfl (.tail _ (.head _)) ?_
  refine mK_invV (J := M_X1_need) (k := 1) (as := [.ref a1]) (st := []) (c1 := 0) (s1 := 0) dX1_readNameBehind_2 rfl jw_X1_need jn_X1_need rfl (Nat.le_of_ble_eq_true rfl) (Nat.zero_le _) (Nat.zero_le _) rfl kw_393 kw_395 kw_7 (b := 24) (Nat.le_of_ble_eq_true rfl) (Nat.le_of_ble_eq_true rfl) rfl ?_
  exact h
set_option maxRecDepth 20000 in
theorem T_X1_readNameBehind_24_5a {Γ : Nat × (Nat → Int32)} {d n0 bc bs : Nat} {Q : mQ} {σ : mS} (x1 : Nat) (ha_x1 : 1000 ≤ x1 ∧ x1 < 1028) (h : mCall Γ M_X1_need (d + 1) 0 0 [.ref 24, .ref 1024] 60 mSH σ (mRt Γ M_X1_readNameBehind (d + 2) Q n0 bc bs 12 [(0, .ref 24), (1, .ref x1)] [])) : mRt Γ M_X1_readNameBehind (d + 2) Q n0 bc bs 5 [(0, .ref 24), (1, .ref x1)] [] (.inl none) 60 mSH σ := by
  show mK Γ M_X1_readNameBehind (d + 2) Q n0 bc bs 5 [(0, .ref 24), (1, .ref x1)] [] 60 mSH σ
  refine mK_aload_n dX1_readNameBehind_5 rfl rfl (.head _) ?_
  refine mK_getE (i := 24) dX1_readNameBehind_6 rfl (by decide) kw_392 ?_
  refine mK_invV (J := M_X1_need) (k := 1) (as := [.ref 1024]) (st := []) (c1 := 0) (s1 := 0) dX1_readNameBehind_9 rfl jw_X1_need jn_X1_need rfl (Nat.le_of_ble_eq_true rfl) (Nat.zero_le _) (Nat.zero_le _) rfl kw_393 kw_395 kw_7 (b := 24) (Nat.le_of_ble_eq_true rfl) (Nat.le_of_ble_eq_true rfl) rfl ?_
  exact h
set_option maxRecDepth 20000 in
theorem T_X1_readNameBehind_24_12a {Γ : Nat × (Nat → Int32)} {d n0 bc bs : Nat} {Q : mQ} {σ : mS} (x1 : Nat) (ha_x1 : 1000 ≤ x1 ∧ x1 < 1028) (h : Q (.inl none) 60 mSH σ) : mRt Γ M_X1_readNameBehind (d + 2) Q n0 bc bs 12 [(0, .ref 24), (1, .ref x1)] [] (.inl none) 60 mSH σ := by
  show mK Γ M_X1_readNameBehind (d + 2) Q n0 bc bs 12 [(0, .ref 24), (1, .ref x1)] [] 60 mSH σ
  exact mK_vret dX1_readNameBehind_12 rfl h
set_option maxRecDepth 20000 in
theorem E_X1_readNumberBehind_24 {Γ : Nat × (Nat → Int32)} {d : Nat} {Q : mQ} {σ : mS} (a1 : Nat) (ha_a1 : 1000 ≤ a1 ∧ a1 < 1028) (h : mCall Γ M_X1_takes (d + 1) 0 0 [.ref 24, .ref a1] 60 mSH σ (mRt Γ M_X1_readNumberBehind (d + 2) Q 60 0 0 5 [(0, .ref 24), (1, .ref a1)] [])) : mCall Γ M_X1_readNumberBehind (d + 2) 0 0 [.ref 24, .ref a1] 60 mSH σ Q := by
  refine mCall_of rfl (by decide) (Nat.le_of_ble_eq_true rfl) (mOkC (mOk_lo (Nat.le_of_ble_eq_true rfl)) (mOkC (mOk_hi (Nat.le_trans (by decide) ha_a1.1)) mOkN)) ?_
  show mK Γ M_X1_readNumberBehind (d + 2) Q 60 0 0 0 [(0, .ref 24), (1, .ref a1)] [] 60 mSH σ
  refine mK_aload_n dX1_readNumberBehind_0 rfl rfl (.head _) ?_
  refine mK_aload_n dX1_readNumberBehind_1 rfl rfl (.tail _ (.head _)) ?_
  refine mK_invV (J := M_X1_takes) (k := 1) (as := [.ref a1]) (st := []) (c1 := 0) (s1 := 0) dX1_readNumberBehind_2 rfl jw_X1_takes jn_X1_takes rfl (Nat.le_of_ble_eq_true rfl) (Nat.zero_le _) (Nat.zero_le _) rfl kw_388 kw_390 kw_6 (b := 24) (Nat.le_of_ble_eq_true rfl) (Nat.le_of_ble_eq_true rfl) rfl ?_
  exact h
set_option maxRecDepth 20000 in
theorem T_X1_readNumberBehind_24_5a {Γ : Nat × (Nat → Int32)} {d n0 bc bs : Nat} {Q : mQ} {σ : mS} (x1 : Nat) (r : Int32) (ha_x1 : 1000 ≤ x1 ∧ x1 < 1028) (h : ((r = 0 → Q (.inl none) 60 mSH σ) ∧ (¬ (r = 0) → mCall Γ M_X1_need (d + 1) 0 0 [.ref 24, .ref 1025] 60 mSH σ (mRt Γ M_X1_readNumberBehind (d + 2) Q n0 bc bs 15 [(0, .ref 24), (1, .ref x1)] [])))) : mRt Γ M_X1_readNumberBehind (d + 2) Q n0 bc bs 5 [(0, .ref 24), (1, .ref x1)] [] (.inl (some (.int r))) 60 mSH σ := by
  show mK Γ M_X1_readNumberBehind (d + 2) Q n0 bc bs 5 [(0, .ref 24), (1, .ref x1)] [.int r] 60 mSH σ
  refine mK_if_eq (tgt := 15) dX1_readNumberBehind_5 rfl (by decide) (fun c1 => ?_) (fun c1 => ?_)
  · exact mK_vret dX1_readNumberBehind_15 rfl (h.1 c1)
  · refine mK_aload_n dX1_readNumberBehind_8 rfl rfl (.head _) ?_
    refine mK_getE (i := 25) dX1_readNumberBehind_9 rfl (by decide) kw_403 ?_
    refine mK_invV (J := M_X1_need) (k := 1) (as := [.ref 1025]) (st := []) (c1 := 0) (s1 := 0) dX1_readNumberBehind_12 rfl jw_X1_need jn_X1_need rfl (Nat.le_of_ble_eq_true rfl) (Nat.zero_le _) (Nat.zero_le _) rfl kw_393 kw_395 kw_7 (b := 24) (Nat.le_of_ble_eq_true rfl) (Nat.le_of_ble_eq_true rfl) rfl ?_
    exact (h.2 c1)
set_option maxRecDepth 20000 in
theorem T_X1_readNumberBehind_24_15a {Γ : Nat × (Nat → Int32)} {d n0 bc bs : Nat} {Q : mQ} {σ : mS} (x1 : Nat) (ha_x1 : 1000 ≤ x1 ∧ x1 < 1028) (h : Q (.inl none) 60 mSH σ) : mRt Γ M_X1_readNumberBehind (d + 2) Q n0 bc bs 15 [(0, .ref 24), (1, .ref x1)] [] (.inl none) 60 mSH σ := by
  show mK Γ M_X1_readNumberBehind (d + 2) Q n0 bc bs 15 [(0, .ref 24), (1, .ref x1)] [] 60 mSH σ
  exact mK_vret dX1_readNumberBehind_15 rfl h
theorem S_nameG {Γ : Nat × (Nat → Int32)} {d : Nat} {Q : mQ} {σ : mS} {K P : Nat → Nat} {V : Nat → Int64} {M E : Nat} {s : gP} (k : Nat) (h : tC σ K P V M) (hE : gEnd K E) (hM : E < M) (hs : s.1 ≤ E) (hk : k < 26)
    (hQ : Q (.inl none) 60 mSH (gS σ (gB K k s))) : mCall Γ M_X1_readNameBehind (d + 3) 0 0 [.ref 24, .ref (1000 + k)] 60 mSH (gS σ s) Q := by
  refine E_X1_readNameBehind_24 (1000 + k) (by omega) ?_
  refine S_needG k h (by omega) (by omega) (T_X1_readNameBehind_24_5a _ (by omega) ?_)
  exact S_needG 24 h (by have := gN_le (k := k) hE hk hs; omega) (by omega) (T_X1_readNameBehind_24_12a _ (by omega) hQ)
theorem S_numG {Γ : Nat × (Nat → Int32)} {d : Nat} {Q : mQ} {σ : mS} {K P : Nat → Nat} {V : Nat → Int64} {M E : Nat} {s : gP} (k : Nat) (h : tC σ K P V M) (hE : gEnd K E) (hM : E < M) (hs : s.1 ≤ E) (hk : k < 26)
    (hQ : Q (.inl none) 60 mSH (gS σ (gO K k s))) : mCall Γ M_X1_readNumberBehind (d + 3) 0 0 [.ref 24, .ref (1000 + k)] 60 mSH (gS σ s) Q := by
  rw [gO] at hQ
  refine E_X1_readNumberBehind_24 (1000 + k) (by omega) ?_
  refine S_takesG k h (by omega) (by omega) (fun q => ?_) (fun q => ?_)
  · rw [if_pos q] at hQ
    refine T_X1_readNumberBehind_24_5a _ _ (by omega) ⟨fun c => absurd c (by decide), fun _ => ?_⟩
    exact S_needG 25 h (by have := gA_le hE hk hs q; omega) (by omega) (T_X1_readNumberBehind_24_15a _ (by omega) hQ)
  · rw [if_neg q] at hQ
    exact T_X1_readNumberBehind_24_5a _ _ (by omega) ⟨fun _ => hQ, fun c => absurd rfl c⟩
theorem L_testG {Γ : Nat × (Nat → Int32)} {d n0 bc bs : Nat} {Q : mQ} {σ : mS} {K P : Nat → Nat} {V : Nat → Int64} {M E : Nat} {x : Int32} {g : gP → gP} (h : tC σ K P V M) (hE : gEnd K E) (hM : E < M) (hg : ∀ s : gP, s.1 ≤ E → (g s).1 ≤ E)
    (hS : ∀ (s : gP), s.1 ≤ E → ∀ Q' : mQ, Q' (.inl none) 60 mSH (gS σ (g s)) → mCall Γ M_X1_readSingle (d + 2) 0 0 [.ref 24, .int x] 60 mSH (gS σ s) Q') :
    ∀ m i, i + m = 400 → ∀ s : gP, s.1 ≤ E → Q (.inl none) 60 mSH (gS σ (gL K g m s)) → mK Γ M_X1_readTest (d + 3) Q n0 bc bs 7 [(0, .ref 24), (1, .int x), (2, .int (nI i))] [] 60 mSH (gS σ s)
  | 0, i, hm, s, hs, hQ => T_X1_readTest_24_7 _ _ ⟨fun _ => hQ, fun c => absurd (by rw [i400]; exact nI_le (by omega) (by omega)) c⟩
  | m + 1, i, hm, s, hs, hQ => by
    rw [gL] at hQ
    have go : gT K 19 s = true ∨ gT K 20 s = true → (gA s).1 ≤ E → mCall Γ M_X1_readSingle (d + 2) 0 0 [.ref 24, .int x] 60 mSH (gS σ (gA s)) (mRt Γ M_X1_readTest (d + 3) Q n0 bc bs 39 [(0, .ref 24), (1, .int x), (2, .int (nI i))] []) := by
      intro q ha
      rw [if_pos q] at hQ
      refine hS _ ha _ (T_X1_readTest_24_39a _ _ ?_)
      rw [nI_1]
      exact L_testG h hE hM hg hS m (i + 1) (by omega) _ (hg _ ha) hQ
    refine T_X1_readTest_24_7 _ _ ⟨fun c => absurd c (by rw [i400]; exact nI_ge (by omega) (by omega)), fun _ => ?_⟩
    refine S_takesG 19 h (by omega) (by omega) (fun q => ?_) (fun q => ?_)
    · exact T_X1_readTest_24_21a _ _ _ ⟨fun c => absurd c (by decide), fun _ => go (.inl q) (gA_le hE (by omega) hs q)⟩
    · refine T_X1_readTest_24_21a _ _ _ ⟨fun _ => ?_, fun c => absurd rfl c⟩
      refine S_takesG 20 h (by omega) (by omega) (fun q2 => ?_) (fun q2 => ?_)
      · exact T_X1_readTest_24_31a _ _ _ ⟨fun c => absurd c (by decide), fun _ => go (.inr q2) (gA_le hE (by omega) hs q2)⟩
      · rw [if_neg (fun z => z.elim q q2)] at hQ
        exact T_X1_readTest_24_31a _ _ _ ⟨fun _ => hQ, fun c => absurd rfl c⟩
theorem S_testG {Γ : Nat × (Nat → Int32)} {d : Nat} {Q : mQ} {σ : mS} {K P : Nat → Nat} {V : Nat → Int64} {M E : Nat} {x : Int32} {g : gP → gP} {s : gP} (h : tC σ K P V M) (hE : gEnd K E) (hM : E < M) (hg : ∀ s : gP, s.1 ≤ E → (g s).1 ≤ E)
    (hS : ∀ (s : gP), s.1 ≤ E → ∀ Q' : mQ, Q' (.inl none) 60 mSH (gS σ (g s)) → mCall Γ M_X1_readSingle (d + 2) 0 0 [.ref 24, .int x] 60 mSH (gS σ s) Q') (hs : s.1 ≤ E)
    (hQ : Q (.inl none) 60 mSH (gS σ (gTst K g s))) : mCall Γ M_X1_readTest (d + 3) 0 0 [.ref 24, .int x] 60 mSH (gS σ s) Q := by
  refine E_X1_readTest_24 x (hS s hs _ (T_X1_readTest_24_5a _ ?_))
  exact L_testG h hE hM hg hS 400 0 rfl _ (hg _ hs) hQ
theorem S_sgG {Γ : Nat × (Nat → Int32)} {d : Nat} {Q : mQ} {σ : mS} {K P : Nat → Nat} {V : Nat → Int64} {M E : Nat} {x : Int32} {s : gP} (h : tC σ K P V M) (hE : gEnd K E) (hM : E < M) (hs : s.1 ≤ E)
    (hY : gAt K s → Q (.inl none) 60 mSH (gS σ (gN K 24 (gA s))))
    (hN : ¬ gAt K s → ((x < 6 → mCall Γ M_X1_takes (d + 3) 0 0 [.ref 24, .ref 1018] 60 mSH (gS σ s) (mRt Γ M_X1_readSingle (d + 4) Q 60 0 0 71 [(0, .ref 24), (1, .int x)] [])) ∧ (¬ (x < 6) → Q (.inl none) 60 mSH (mPI (gS σ s) 24 2 0)))) : mCall Γ M_X1_readSingle (d + 4) 0 0 [.ref 24, .int x] 60 mSH (gS σ s) Q := by
  have name : gAt K s → mCall Γ M_X1_need (d + 3) 0 0 [.ref 24, .ref 1024] 60 mSH (gS σ (gA s)) (mRt Γ M_X1_readSingle (d + 4) Q 60 0 0 47 [(0, .ref 24), (1, .int x)] []) := fun q =>
    S_needG 24 h (by have := gAt_le hE hs q; omega) (by omega) (T_X1_readSingle_24_47a _ (hY q))
  refine E_X1_readSingle_24 _ ?_
  refine S_takesG 14 h (by omega) (by omega) (fun q => T_X1_readSingle_24_7a _ _ ⟨fun c => absurd c (by decide), fun _ => name (.inl q)⟩) (fun q14 => T_X1_readSingle_24_7a _ _ ⟨fun _ => ?_, fun c => absurd rfl c⟩)
  refine S_takesG 15 h (by omega) (by omega) (fun q => T_X1_readSingle_24_17a _ _ ⟨fun c => absurd c (by decide), fun _ => name (.inr (.inl q))⟩) (fun q15 => T_X1_readSingle_24_17a _ _ ⟨fun _ => ?_, fun c => absurd rfl c⟩)
  refine S_takesG 16 h (by omega) (by omega) (fun q => T_X1_readSingle_24_27a _ _ ⟨fun c => absurd c (by decide), fun _ => name (.inr (.inr (.inl q)))⟩) (fun q16 => T_X1_readSingle_24_27a _ _ ⟨fun _ => ?_, fun c => absurd rfl c⟩)
  refine S_takesG 17 h (by omega) (by omega) (fun q => T_X1_readSingle_24_37a _ _ ⟨fun c => absurd c (by decide), fun _ => name (.inr (.inr (.inr q)))⟩) (fun q17 => T_X1_readSingle_24_37a _ _ ⟨fun _ => ?_, fun c => absurd rfl c⟩)
  exact hN (fun q => by
    rcases q with z | z | z | z
    · exact q14 z
    · exact q15 z
    · exact q16 z
    · exact q17 z)
theorem S_singleG {Γ : Nat × (Nat → Int32)} {σ : mS} {K P : Nat → Nat} {V : Nat → Int64} {M E : Nat} (h : tC σ K P V M) (hE : gEnd K E) (hM : E < M) : ∀ r, r ≤ 6 → ∀ (d : Nat) (s : gP), s.1 ≤ E → ∀ Q : mQ, Q (.inl none) 60 mSH (gS σ (gSg K r s)) →
    mCall Γ M_X1_readSingle (d + 2 * r + 4) 0 0 [.ref 24, .int (nI (6 - r))] 60 mSH (gS σ s) Q
  | 0, hr, d, s, hs, Q, hQ => by
    rw [gSg] at hQ
    refine S_sgG h hE hM hs (fun q => ?_) (fun nat => ⟨fun c => absurd c (by decide), fun _ => ?_⟩)
    · rw [gIf_pos q] at hQ; exact hQ
    · rw [gIf_neg nat] at hQ
      rw [gS_X]; exact hQ
  | r + 1, hr, d, s, hs, Q, hQ => by
    rw [gSg] at hQ
    have hx : nI (6 - (r + 1)) + 1 = nI (6 - r) := by rw [nI_1]; congr 1; omega
    rw [show d + 2 * (r + 1) + 4 = (d + 2 * r + 2) + 4 by omega]
    refine S_sgG h hE hM hs (fun q => ?_) (fun nat => ⟨fun _ => ?_, fun c => absurd (by rw [show (6 : Int32) = nI 6 by decide]; exact nI_lt (by omega) (by omega)) c⟩)
    · rw [gIf_pos q] at hQ; exact hQ
    · rw [gIf_neg nat] at hQ
      refine S_takesG 18 h (by omega) (by omega) (fun q => ?_) (fun q => ?_)
      · rw [gIf_pos q] at hQ
        refine T_X1_readSingle_24_71a _ _ ⟨fun c => absurd c (by decide), fun _ => ?_⟩
        rw [hx]
        have := S_singleG (Γ := Γ) h hE hM r (by omega) (d + 1) _ (gA_le hE (by omega) hs q) (mRt Γ M_X1_readSingle (d + 2 * r + 2 + 4) Q 60 0 0 81 [(0, .ref 24), (1, .int (nI (6 - (r + 1))))] []) (T_X1_readSingle_24_81a _ hQ)
        rw [show d + 1 + 2 * r + 4 = d + 2 * r + 2 + 3 by omega] at this
        exact this
      · rw [gIf_neg q, gPr] at hQ
        refine T_X1_readSingle_24_71a _ _ ⟨fun _ => ?_, fun c => absurd rfl c⟩
        have l21 := gN_le (k := 21) hE (by omega) hs
        refine S_needG 21 h (by omega) (by omega) (T_X1_readSingle_24_91a _ ?_)
        rw [gS_2, b01_0, hx]
        refine ⟨fun z => ?_, fun z => ?_⟩
        · rw [if_neg (by rw [z]; decide)] at hQ
          exact S_needG 22 h (by omega) (by omega) (T_X1_readSingle_24_112a _ hQ)
        · rw [if_pos (by cases y : (gN K 21 s).2; exact absurd y z; rfl)] at hQ
          refine S_testG (d := d + 2 * r + 2) (g := gSg K r) h hE hM (gSg_le hE r) (fun s hs Q' hQ' => S_singleG h hE hM r (by omega) d s hs Q' hQ') l21 (T_X1_readSingle_24_105a _ ?_)
          have := gTst_le (r := r) hE l21
          exact S_needG 22 h (by omega) (by omega) (T_X1_readSingle_24_112a _ hQ)
theorem S_moveG {Γ : Nat × (Nat → Int32)} {d : Nat} {Q : mQ} {σ : mS} {K P : Nat → Nat} {V : Nat → Int64} {M E : Nat} {s : gP} (k : Nat) (h : tC σ K P V M) (hE : gEnd K E) (hM : E < M) (hs : s.1 ≤ E) (hk : k < 26)
    (hQ : Q (.inl none) 60 mSH (gS σ (gMv K k s))) : mCall Γ M_X1_readMove (d + 18) 0 0 [.ref 24, .ref (1000 + k)] 60 mSH (gS σ s) Q := by
  have a1 := gN_le (k := 24) hE (by omega) hs
  have a2 := gB_le (k := 7) hE (by omega) a1
  have a3 := gB_le hE hk a2
  have a4 := gO_le (k := 10) hE (by omega) a3
  rw [gMv] at hQ
  refine E_X1_readMove_24 (1000 + k) (by omega) ?_
  refine S_needG 24 h (by omega) (by omega) (T_X1_readMove_24_7a _ (by omega) ?_)
  refine S_nameG 7 h hE hM a1 (by omega) (T_X1_readMove_24_14a _ (by omega) ?_)
  refine S_nameG k h hE hM a2 hk (T_X1_readMove_24_19a _ (by omega) ?_)
  refine S_numG 10 h hE hM a3 (by omega) (T_X1_readMove_24_26a _ (by omega) ?_)
  refine S_takesG 11 h (by omega) (by omega) (fun q => ?_) (fun q => ?_)
  · rw [gIf_pos q] at hQ
    refine T_X1_readMove_24_33a _ _ (by omega) ⟨fun c => absurd c (by decide), fun _ => ?_⟩
    exact S_testG (d := d + 14) (g := gSg K 6) h hE hM (gSg_le hE 6) (fun s hs Q' hQ' => S_singleG h hE hM 6 (by omega) d s hs Q' hQ') (gA_le hE (by omega) a4 q) (T_X1_readMove_24_41a _ (by omega) hQ)
  · rw [gIf_neg q] at hQ
    exact T_X1_readMove_24_33a _ _ (by omega) ⟨fun _ => hQ, fun c => absurd rfl c⟩
theorem S_lineG {Γ : Nat × (Nat → Int32)} {d : Nat} {Q : mQ} {σ : mS} {K P : Nat → Nat} {V : Nat → Int64} {M E : Nat} {s : gP} (h : tC σ K P V M) (hE : gEnd K E) (hM : E < M) (hs : s.1 ≤ E)
    (hQ : Q (.inl none) 60 mSH (gS σ (gLn K s))) : mCall Γ M_X1_readLine (d + 19) 0 0 [.ref 24] 60 mSH (gS σ s) Q := by
  rw [gLn] at hQ
  have fin : ∀ (s' : gP), s'.1 ≤ E → Q (.inl none) 60 mSH (gS σ (gN K 23 s')) → mCall Γ M_X1_need (d + 18) 0 0 [.ref 24, .ref 1023] 60 mSH (gS σ s') (mRt Γ M_X1_readLine (d + 19) Q 60 0 0 143 [(0, .ref 24)] []) := fun s' h' hq => S_needG 23 h (by omega) (by omega) (T_X1_readLine_24_143a hq)
  refine E_X1_readLine_24 ?_
  refine S_takesG 0 h (by omega) (by omega) (fun q => T_X1_readLine_24_7a _ ⟨fun c => absurd c (by decide), fun _ => ?_⟩) (fun q0 => T_X1_readLine_24_7a _ ⟨fun _ => ?_, fun c => absurd rfl c⟩)
  · rw [gIf_pos q] at hQ
    have a0 := gA_le hE (by omega) hs q
    have a1 := gN_le (k := 24) hE (by omega) a0
    refine S_needG 24 h (by omega) (by omega) (T_X1_readLine_24_17a ?_)
    exact S_numG 1 h hE hM a1 (by omega) (T_X1_readLine_24_24a (fin _ (gO_le hE (by omega) a1) hQ))
  rw [gIf_neg q0] at hQ
  refine S_takesG 2 h (by omega) (by omega) (fun q => T_X1_readLine_24_34a _ ⟨fun c => absurd c (by decide), fun _ => ?_⟩) (fun q2 => T_X1_readLine_24_34a _ ⟨fun _ => ?_, fun c => absurd rfl c⟩)
  · rw [gIf_pos q] at hQ
    have a0 := gA_le hE (by omega) hs q
    have a1 := gN_le (k := 24) hE (by omega) a0
    have a2 := gB_le (k := 3) hE (by omega) a1
    refine S_needG 24 h (by omega) (by omega) (T_X1_readLine_24_44a ?_)
    refine S_nameG 3 h hE hM a1 (by omega) (T_X1_readLine_24_51a ?_)
    exact S_numG 4 h hE hM a2 (by omega) (T_X1_readLine_24_58a (fin _ (gO_le hE (by omega) a2) hQ))
  rw [gIf_neg q2] at hQ
  refine S_takesG 5 h (by omega) (by omega) (fun q => T_X1_readLine_24_68a _ ⟨fun c => absurd c (by decide), fun _ => ?_⟩) (fun q5 => T_X1_readLine_24_68a _ ⟨fun _ => ?_, fun c => absurd rfl c⟩)
  · rw [gIf_pos q] at hQ
    have a0 := gA_le hE (by omega) hs q
    exact S_moveG 8 h hE hM a0 (by omega) (T_X1_readLine_24_78a (fin _ (gMv_le hE (by omega) a0) hQ))
  rw [gIf_neg q5] at hQ
  refine S_takesG 6 h (by omega) (by omega) (fun q => T_X1_readLine_24_88a _ ⟨fun c => absurd c (by decide), fun _ => ?_⟩) (fun q6 => T_X1_readLine_24_88a _ ⟨fun _ => ?_, fun c => absurd rfl c⟩)
  · rw [gIf_pos q] at hQ
    have a0 := gA_le hE (by omega) hs q
    exact S_moveG 9 h hE hM a0 (by omega) (T_X1_readLine_24_98a (fin _ (gMv_le hE (by omega) a0) hQ))
  rw [gIf_neg q6] at hQ
  have nm : gT K 12 s = true ∨ gT K 13 s = true → (gA s).1 ≤ E → mCall Γ M_X1_need (d + 18) 0 0 [.ref 24, .ref 1024] 60 mSH (gS σ (gA s)) (mRt Γ M_X1_readLine (d + 19) Q 60 0 0 128 [(0, .ref 24)] []) := by
    intro q a0
    rw [gIf_pos q] at hQ
    exact S_needG 24 h (by omega) (by omega) (T_X1_readLine_24_128a (fin _ (gN_le hE (by omega) a0) hQ))
  refine S_takesG 12 h (by omega) (by omega) (fun q => T_X1_readLine_24_108a _ ⟨fun c => absurd c (by decide), fun _ => nm (.inl q) (gA_le hE (by omega) hs q)⟩) (fun q12 => T_X1_readLine_24_108a _ ⟨fun _ => ?_, fun c => absurd rfl c⟩)
  refine S_takesG 13 h (by omega) (by omega) (fun q => T_X1_readLine_24_118a _ ⟨fun c => absurd c (by decide), fun _ => nm (.inr q) (gA_le hE (by omega) hs q)⟩) (fun q13 => T_X1_readLine_24_118a _ ⟨fun _ => ?_, fun c => absurd rfl c⟩)
  rw [gIf_neg (fun z => z.elim q12 q13)] at hQ
  rw [gS_X]
  exact fin _ hs hQ
theorem L_textG {Γ : Nat × (Nat → Int32)} {d n0 bc bs : Nat} {Q : mQ} {σ : mS} {K P : Nat → Nat} {V : Nat → Int64} {M E : Nat} (h : tC σ K P V M) (hE : gEnd K E) (hM : E < M) :
    ∀ m i, i + m = 400 → ∀ s : gP, s.1 ≤ E → Q (.inl (some (.int (if (gTx K m s).2 = true then -1 else nI (P (gTx K m s).1))))) 60 mSH (gS σ (gTx K m s)) →
    mK Γ M_X1_firstWrongPlace (d + 20) Q n0 bc bs 12 [(0, .ref 24), (1, .int (nI i))] [] 60 mSH (gS σ s)
  | m, i, hm, s, hs, hQ => by
    have place : gTx K m s = s → s.2 = false → mCall Γ M_X6_placeOf (d + 19) 0 0 [.ref 20, .int ((gS σ s).1 24 1)] 60 mSH (gS σ s) (mRt Γ M_X1_firstWrongPlace (d + 20) Q n0 bc bs 68 [(0, .ref 24), (1, .int (nI i))] []) := by
      intro e z
      rw [e, z, if_neg (by decide)] at hQ
      have hC := gS_tC h s
      have hsM : s.1 < M := by omega
      have hm401 := h.1.2
      rw [gS_1]
      refine S_X6_placeOf_20 _ (fun _ _ _ => (tC_in hC hsM).1) (T_X1_firstWrongPlace_24_68a _ _ ?_)
      rw [f_X6_placeOf_20, if_neg (nI_pos (by omega)), hC.1.1, if_neg (nI_ge hsM (by omega)), if_neg (by rw [i400]; exact nI_nlt (by omega) (by omega)), nI_clamp (by omega), (hC.2.2.2 _ hsM).2.1]
      exact hQ
    have done : gTx K m s = s → s.2 = true → Q (.inl (some (.int (-1)))) 60 mSH (gS σ s) := by
      intro e z
      rw [e, z, if_pos rfl] at hQ; exact hQ
    have bt : ∀ {b : Bool}, ¬ b = false → b = true := fun {b} q => by cases b; exact absurd rfl q; rfl
    match m, hm with
    | 0, hm =>
      refine T_X1_firstWrongPlace_24_12 _ ⟨fun _ => ?_, fun c => absurd (by rw [i400]; exact nI_le (by omega) (by omega)) c⟩
      rw [gS_2, b01_0]
      exact ⟨fun z => place rfl z, fun z => done rfl (bt z)⟩
    | m + 1, hm =>
      refine T_X1_firstWrongPlace_24_12 _ ⟨fun c => absurd c (by rw [i400]; exact nI_ge (by omega) (by omega)), fun _ => ?_⟩
      rw [gS_2, b01_0]
      refine ⟨fun z => place (by rw [gTx, gIf_neg (fun q => by rw [z] at q; exact absurd q.1 (by decide))]) z, fun z => ?_⟩
      refine S_seesG 26 h (by omega) (by omega) (fun q => ?_) (fun q => ?_)
      · refine T_X1_firstWrongPlace_24_33a _ _ ⟨fun c => absurd c (by decide), fun _ => ?_⟩
        rw [gS_2, b01_0]
        rw [gT, Bool.and_eq_true, decide_eq_true_eq] at q
        exact ⟨fun z2 => absurd z2 z, fun _ => done (by rw [gTx, gIf_neg (fun q2 => q2.2 q.2)]) (bt z)⟩
      · refine T_X1_firstWrongPlace_24_33a _ _ ⟨fun _ => ?_, fun c => absurd rfl c⟩
        have n26 : K s.1 ≠ 26 := fun e => q (by rw [gT, bt z, decide_eq_true e]; rfl)
        rw [gTx, gIf_pos ⟨bt z, n26⟩] at hQ
        refine S_lineG h hE hM hs (T_X1_firstWrongPlace_24_40a _ ?_)
        rw [nI_1]
        exact L_textG h hE hM m (i + 1) (by omega) _ (gLn_le hE hs) hQ
theorem S_textG {Γ : Nat × (Nat → Int32)} {d : Nat} {Q : mQ} {σ : mS} {K P : Nat → Nat} {V : Nat → Int64} {M E : Nat} (h : tC σ K P V M) (hE : gEnd K E) (hM : E < M)
    (hQ : Q (.inl (some (.int (if (gTx K 400 (0, true)).2 = true then -1 else nI (P (gTx K 400 (0, true)).1))))) 60 mSH (gS σ (gTx K 400 (0, true)))) : mCall Γ M_X1_firstWrongPlace (d + 20) 0 0 [.ref 24] 60 mSH σ Q :=
  E_X1_firstWrongPlace_24 (L_textG h hE hM 400 0 rfl (0, true) (Nat.zero_le _) hQ)
