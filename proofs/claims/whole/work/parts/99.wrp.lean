/-! ===== the wrappers of the law ===== -/
theorem vin01 : vp_in 0 1 := by have := vp_in_nI (show 0 < 1 by decide) (show 1 < 2 ^ 31 by decide); exact this
theorem W_feed {Γ : Nat × (Nat → Int32)} {d c s : Nat} {Q : mQ} {σ : mS} (x1 : Int32) (x2 : Int32) (x3 : Int32) (x4 : Int32) (x5 : Int32) (h : mCall Γ M_X7_feed d c s [.ref 0, .int x1, .int x2, .int x3, .int x4, .int x5] 60 mSH σ (mQw Q xIS xIS)) : mCall Γ M_L_feed (d + 1) c s [.ref 0, .int x1, .int x2, .int x3, .int x4, .int x5, .ref 59] 60 mSH σ Q := by
  refine mCall_ofH (by decide) (by decide) (Nat.le_of_ble_eq_true rfl) (mOkC (mOk_lo (Nat.le_of_ble_eq_true rfl)) (mOkC mOk_i (mOkC mOk_i (mOkC mOk_i (mOkC mOk_i (mOkC mOk_i (mOkC (mOk_lo (Nat.le_of_ble_eq_true rfl)) mOkN))))))) ?_
  show mK Γ M_L_feed (d + 1) Q 60 c s 0 [(0, .ref 0), (1, .int x1), (2, .int x2), (3, .int x3), (4, .int x4), (5, .int x5), (6, .ref 59)] [] 60 mSH σ
  refine mK_aload dL_feed_0 rfl (.tail _ (.tail _ (.tail _ (.tail _ (.tail _ (.tail _ (.head _))))))) ?_
  refine mK_iconst dL_feed_2 rfl qic_0 ?_
  refine mK_aload_n dL_feed_3 rfl rfl (.head _) ?_
  refine mK_iload_n dL_feed_4 rfl rfl (.tail _ (.head _)) ?_
  refine mK_iload_n dL_feed_5 rfl rfl (.tail _ (.tail _ (.head _))) ?_
  refine mK_iload_n dL_feed_6 rfl rfl (.tail _ (.tail _ (.tail _ (.head _)))) ?_
  refine mK_iload dL_feed_7 rfl (.tail _ (.tail _ (.tail _ (.tail _ (.head _))))) ?_
  refine mK_iload dL_feed_9 rfl (.tail _ (.tail _ (.tail _ (.tail _ (.tail _ (.head _)))))) ?_
  refine mK_invVH (J := M_X7_feed) (k := 5) (as := [.int x1, .int x2, .int x3, .int x4, .int x5]) (st := [.int 0, .ref 59]) (c1 := c) (s1 := s) dL_feed_11 jw_X7_feed jn_X7_feed rfl (Nat.le_of_ble_eq_true rfl) (Nat.le_refl _) (Nat.le_refl _) kw_918 kw_919 kw_920 (b := 0) (Nat.le_of_ble_eq_true rfl) (Nat.le_of_ble_eq_true rfl) rfl ?_
  refine mCall_mono h (fun o M th τ hq => ?_)
  obtain ⟨rfl, rfl, hq⟩ := hq
  have bad1 : Q (.inl (some (.int 1))) 60 mSH τ → mRh Γ M_L_feed (d + 1) Q 60 (c - c) (s - s) 11 [(0, .ref 0), (1, .int x1), (2, .int x2), (3, .int x3), (4, .int x4), (5, .int x5), (6, .ref 59)] [.int 0, .ref 59] (.inr xIS) 60 mSH τ := fun q => by
    refine ⟨21, 7, ⟨[], _, [], "java/lang/IllegalStateException", rfl, fun z hz => absurd hz List.not_mem_nil, rfl, by decide, kw_917, kn_924, by decide, .inr ⟨dL_feed_19, rfl⟩⟩, ?_⟩
    refine mK_iconst dL_feed_21 rfl qic_1 ?_
    exact mK_iret dL_feed_22 rfl q
  rcases hq with ⟨v, rfl, q⟩ | ⟨rfl, q⟩ | ⟨ne, re, q⟩
  · show mK Γ M_L_feed (d + 1) Q 60 (c - c) (s - s) 14 [(0, .ref 0), (1, .int x1), (2, .int x2), (3, .int x3), (4, .int x4), (5, .int x5), (6, .ref 59)] [.int v, .int 0, .ref 59] 60 mSH τ
    refine mK_i2l dL_feed_14 rfl ?_
    refine ru_last (n := 1) dL_feed_15 rfl rfl vin01 ?_
    refine mK_goto (tgt := 23) dL_feed_16 (by decide) ?_
    refine mK_iconst dL_feed_23 rfl qic_0 ?_
    exact mK_iret dL_feed_24 rfl q
  · exact bad1 q
  · exact absurd rfl ne
theorem W_give {Γ : Nat × (Nat → Int32)} {d c s : Nat} {Q : mQ} {σ : mS} (x1 : Int32) (x2 : Int32) (h : mCall Γ M_X7_give d c s [.ref 0, .int x1, .int x2] 60 mSH σ (mQw Q xIO xIA)) : mCall Γ M_L_give (d + 1) c s [.ref 0, .int x1, .int x2, .ref 59] 60 mSH σ Q := by
  refine mCall_ofH (by decide) (by decide) (Nat.le_of_ble_eq_true rfl) (mOkC (mOk_lo (Nat.le_of_ble_eq_true rfl)) (mOkC mOk_i (mOkC mOk_i (mOkC (mOk_lo (Nat.le_of_ble_eq_true rfl)) mOkN)))) ?_
  show mK Γ M_L_give (d + 1) Q 60 c s 0 [(0, .ref 0), (1, .int x1), (2, .int x2), (3, .ref 59)] [] 60 mSH σ
  refine mK_aload_n dL_give_0 rfl rfl (.tail _ (.tail _ (.tail _ (.head _)))) ?_
  refine mK_iconst dL_give_1 rfl qic_0 ?_
  refine mK_aload_n dL_give_2 rfl rfl (.head _) ?_
  refine mK_iload_n dL_give_3 rfl rfl (.tail _ (.head _)) ?_
  refine mK_iload_n dL_give_4 rfl rfl (.tail _ (.tail _ (.head _))) ?_
  refine mK_invVH (J := M_X7_give) (k := 2) (as := [.int x1, .int x2]) (st := [.int 0, .ref 59]) (c1 := c) (s1 := s) dL_give_5 jw_X7_give jn_X7_give rfl (Nat.le_of_ble_eq_true rfl) (Nat.le_refl _) (Nat.le_refl _) kw_982 kw_983 kw_984 (b := 0) (Nat.le_of_ble_eq_true rfl) (Nat.le_of_ble_eq_true rfl) rfl ?_
  refine mCall_mono h (fun o M th τ hq => ?_)
  obtain ⟨rfl, rfl, hq⟩ := hq
  have bad1 : Q (.inl (some (.int 1))) 60 mSH τ → mRh Γ M_L_give (d + 1) Q 60 (c - c) (s - s) 5 [(0, .ref 0), (1, .int x1), (2, .int x2), (3, .ref 59)] [.int 0, .ref 59] (.inr xIO) 60 mSH τ := fun q => by
    refine ⟨15, 4, ⟨[], _, [_], "java/lang/IndexOutOfBoundsException", rfl, fun z hz => absurd hz List.not_mem_nil, rfl, by decide, kw_969, kn_791, by decide, .inr ⟨dL_give_13, rfl⟩⟩, ?_⟩
    refine mK_iconst dL_give_15 rfl qic_1 ?_
    exact mK_iret dL_give_16 rfl q
  have bad2 : Q (.inl (some (.int 2))) 60 mSH τ → mRh Γ M_L_give (d + 1) Q 60 (c - c) (s - s) 5 [(0, .ref 0), (1, .int x1), (2, .int x2), (3, .ref 59)] [.int 0, .ref 59] (.inr xIA) 60 mSH τ := fun q => by
    refine ⟨19, 4, ⟨[_], _, [], "java/lang/IllegalArgumentException", rfl, fun z hz => by rw [List.mem_singleton] at hz; subst hz; exact .inr ⟨by decide, rfl, kw_969⟩, rfl, by decide, kw_945, kn_952, by decide, .inr ⟨dL_give_17, rfl⟩⟩, ?_⟩
    refine mK_iconst dL_give_19 rfl qic_2 ?_
    exact mK_iret dL_give_20 rfl q
  rcases hq with ⟨v, rfl, q⟩ | ⟨rfl, q⟩ | ⟨ne, re, q⟩
  · show mK Γ M_L_give (d + 1) Q 60 (c - c) (s - s) 8 [(0, .ref 0), (1, .int x1), (2, .int x2), (3, .ref 59)] [.int v, .int 0, .ref 59] 60 mSH τ
    refine mK_i2l dL_give_8 rfl ?_
    refine ru_last (n := 1) dL_give_9 rfl rfl vin01 ?_
    refine mK_goto (tgt := 21) dL_give_10 (by decide) ?_
    refine mK_iconst dL_give_21 rfl qic_0 ?_
    exact mK_iret dL_give_22 rfl q
  · exact bad1 q
  · subst re; exact bad2 q
theorem W_advise {Γ : Nat × (Nat → Int32)} {d c s : Nat} {Q : mQ} {σ : mS} (x1 : Int32) (x2 : Int32) (h : mCall Γ M_X7_advise d c s [.ref 0, .int x1, .int x2] 60 mSH σ (mQw Q xIO xIA)) : mCall Γ M_L_advise (d + 1) c s [.ref 0, .int x1, .int x2, .ref 59] 60 mSH σ Q := by
  refine mCall_ofH (by decide) (by decide) (Nat.le_of_ble_eq_true rfl) (mOkC (mOk_lo (Nat.le_of_ble_eq_true rfl)) (mOkC mOk_i (mOkC mOk_i (mOkC (mOk_lo (Nat.le_of_ble_eq_true rfl)) mOkN)))) ?_
  show mK Γ M_L_advise (d + 1) Q 60 c s 0 [(0, .ref 0), (1, .int x1), (2, .int x2), (3, .ref 59)] [] 60 mSH σ
  refine mK_aload_n dL_advise_0 rfl rfl (.tail _ (.tail _ (.tail _ (.head _)))) ?_
  refine mK_iconst dL_advise_1 rfl qic_0 ?_
  refine mK_aload_n dL_advise_2 rfl rfl (.head _) ?_
  refine mK_iload_n dL_advise_3 rfl rfl (.tail _ (.head _)) ?_
  refine mK_iload_n dL_advise_4 rfl rfl (.tail _ (.tail _ (.head _))) ?_
  refine mK_invVH (J := M_X7_advise) (k := 2) (as := [.int x1, .int x2]) (st := [.int 0, .ref 59]) (c1 := c) (s1 := s) dL_advise_5 jw_X7_advise jn_X7_advise rfl (Nat.le_of_ble_eq_true rfl) (Nat.le_refl _) (Nat.le_refl _) kw_1025 kw_1026 kw_1027 (b := 0) (Nat.le_of_ble_eq_true rfl) (Nat.le_of_ble_eq_true rfl) rfl ?_
  refine mCall_mono h (fun o M th τ hq => ?_)
  obtain ⟨rfl, rfl, hq⟩ := hq
  have bad1 : Q (.inl (some (.int 1))) 60 mSH τ → mRh Γ M_L_advise (d + 1) Q 60 (c - c) (s - s) 5 [(0, .ref 0), (1, .int x1), (2, .int x2), (3, .ref 59)] [.int 0, .ref 59] (.inr xIO) 60 mSH τ := fun q => by
    refine ⟨15, 4, ⟨[], _, [_], "java/lang/IndexOutOfBoundsException", rfl, fun z hz => absurd hz List.not_mem_nil, rfl, by decide, kw_969, kn_791, by decide, .inr ⟨dL_advise_13, rfl⟩⟩, ?_⟩
    refine mK_iconst dL_advise_15 rfl qic_1 ?_
    exact mK_iret dL_advise_16 rfl q
  have bad2 : Q (.inl (some (.int 2))) 60 mSH τ → mRh Γ M_L_advise (d + 1) Q 60 (c - c) (s - s) 5 [(0, .ref 0), (1, .int x1), (2, .int x2), (3, .ref 59)] [.int 0, .ref 59] (.inr xIA) 60 mSH τ := fun q => by
    refine ⟨19, 4, ⟨[_], _, [], "java/lang/IllegalArgumentException", rfl, fun z hz => by rw [List.mem_singleton] at hz; subst hz; exact .inr ⟨by decide, rfl, kw_969⟩, rfl, by decide, kw_945, kn_952, by decide, .inr ⟨dL_advise_17, rfl⟩⟩, ?_⟩
    refine mK_iconst dL_advise_19 rfl qic_2 ?_
    exact mK_iret dL_advise_20 rfl q
  rcases hq with ⟨v, rfl, q⟩ | ⟨rfl, q⟩ | ⟨ne, re, q⟩
  · show mK Γ M_L_advise (d + 1) Q 60 (c - c) (s - s) 8 [(0, .ref 0), (1, .int x1), (2, .int x2), (3, .ref 59)] [.int v, .int 0, .ref 59] 60 mSH τ
    refine mK_i2l dL_advise_8 rfl ?_
    refine ru_last (n := 1) dL_advise_9 rfl rfl vin01 ?_
    refine mK_goto (tgt := 21) dL_advise_10 (by decide) ?_
    refine mK_iconst dL_advise_21 rfl qic_0 ?_
    exact mK_iret dL_advise_22 rfl q
  · exact bad1 q
  · subst re; exact bad2 q
theorem W_trim {Γ : Nat × (Nat → Int32)} {d c s : Nat} {Q : mQ} {σ : mS} (x1 : Int32) (h : mCall Γ M_X7_trim d c s [.ref 0, .int x1] 60 mSH σ (mQw Q xIA xIA)) : mCall Γ M_L_trim (d + 1) c s [.ref 0, .int x1, .ref 59] 60 mSH σ Q := by
  refine mCall_ofH (by decide) (by decide) (Nat.le_of_ble_eq_true rfl) (mOkC (mOk_lo (Nat.le_of_ble_eq_true rfl)) (mOkC mOk_i (mOkC (mOk_lo (Nat.le_of_ble_eq_true rfl)) mOkN))) ?_
  show mK Γ M_L_trim (d + 1) Q 60 c s 0 [(0, .ref 0), (1, .int x1), (2, .ref 59)] [] 60 mSH σ
  refine mK_aload_n dL_trim_0 rfl rfl (.tail _ (.tail _ (.head _))) ?_
  refine mK_iconst dL_trim_1 rfl qic_0 ?_
  refine mK_aload_n dL_trim_2 rfl rfl (.head _) ?_
  refine mK_iload_n dL_trim_3 rfl rfl (.tail _ (.head _)) ?_
  refine mK_invVH (J := M_X7_trim) (k := 1) (as := [.int x1]) (st := [.int 0, .ref 59]) (c1 := c) (s1 := s) dL_trim_4 jw_X7_trim jn_X7_trim rfl (Nat.le_of_ble_eq_true rfl) (Nat.le_refl _) (Nat.le_refl _) kw_946 kw_947 kw_948 (b := 0) (Nat.le_of_ble_eq_true rfl) (Nat.le_of_ble_eq_true rfl) rfl ?_
  refine mCall_mono h (fun o M th τ hq => ?_)
  obtain ⟨rfl, rfl, hq⟩ := hq
  have bad1 : Q (.inl (some (.int 1))) 60 mSH τ → mRh Γ M_L_trim (d + 1) Q 60 (c - c) (s - s) 4 [(0, .ref 0), (1, .int x1), (2, .ref 59)] [.int 0, .ref 59] (.inr xIA) 60 mSH τ := fun q => by
    refine ⟨13, 3, ⟨[], _, [], "java/lang/IllegalArgumentException", rfl, fun z hz => absurd hz List.not_mem_nil, rfl, by decide, kw_945, kn_952, by decide, .inl ⟨3, dL_trim_12, rfl, rfl⟩⟩, ?_⟩
    refine mK_iconst dL_trim_13 rfl qic_1 ?_
    exact mK_iret dL_trim_14 rfl q
  rcases hq with ⟨v, rfl, q⟩ | ⟨rfl, q⟩ | ⟨ne, re, q⟩
  · show mK Γ M_L_trim (d + 1) Q 60 (c - c) (s - s) 7 [(0, .ref 0), (1, .int x1), (2, .ref 59)] [.int v, .int 0, .ref 59] 60 mSH τ
    refine mK_i2l dL_trim_7 rfl ?_
    refine ru_last (n := 1) dL_trim_8 rfl rfl vin01 ?_
    refine mK_goto (tgt := 15) dL_trim_9 (by decide) ?_
    refine mK_iconst dL_trim_15 rfl qic_0 ?_
    exact mK_iret dL_trim_16 rfl q
  · exact bad1 q
  · exact absurd rfl ne
theorem W_speaker {Γ : Nat × (Nat → Int32)} {d c s : Nat} {Q : mQ} {σ : mS} (x1 : Int32) (x2 : Int32) (h : mCall Γ M_X7_speaker d c s [.ref 0, .int x1, .int x2] 60 mSH σ (mQw Q xIO xIO)) : mCall Γ M_L_speaker (d + 1) c s [.ref 0, .int x1, .int x2, .ref 59] 60 mSH σ Q := by
  refine mCall_ofH (by decide) (by decide) (Nat.le_of_ble_eq_true rfl) (mOkC (mOk_lo (Nat.le_of_ble_eq_true rfl)) (mOkC mOk_i (mOkC mOk_i (mOkC (mOk_lo (Nat.le_of_ble_eq_true rfl)) mOkN)))) ?_
  show mK Γ M_L_speaker (d + 1) Q 60 c s 0 [(0, .ref 0), (1, .int x1), (2, .int x2), (3, .ref 59)] [] 60 mSH σ
  refine mK_aload_n dL_speaker_0 rfl rfl (.tail _ (.tail _ (.tail _ (.head _)))) ?_
  refine mK_iconst dL_speaker_1 rfl qic_0 ?_
  refine mK_aload_n dL_speaker_2 rfl rfl (.head _) ?_
  refine mK_iload_n dL_speaker_3 rfl rfl (.tail _ (.head _)) ?_
  refine mK_iload_n dL_speaker_4 rfl rfl (.tail _ (.tail _ (.head _))) ?_
  refine mK_invVH (J := M_X7_speaker) (k := 2) (as := [.int x1, .int x2]) (st := [.int 0, .ref 59]) (c1 := c) (s1 := s) dL_speaker_5 jw_X7_speaker jn_X7_speaker rfl (Nat.le_of_ble_eq_true rfl) (Nat.le_refl _) (Nat.le_refl _) kw_974 kw_857 kw_858 (b := 0) (Nat.le_of_ble_eq_true rfl) (Nat.le_of_ble_eq_true rfl) rfl ?_
  refine mCall_mono h (fun o M th τ hq => ?_)
  obtain ⟨rfl, rfl, hq⟩ := hq
  have bad1 : Q (.inl (some (.int 1))) 60 mSH τ → mRh Γ M_L_speaker (d + 1) Q 60 (c - c) (s - s) 5 [(0, .ref 0), (1, .int x1), (2, .int x2), (3, .ref 59)] [.int 0, .ref 59] (.inr xIO) 60 mSH τ := fun q => by
    refine ⟨15, 4, ⟨[], _, [], "java/lang/IndexOutOfBoundsException", rfl, fun z hz => absurd hz List.not_mem_nil, rfl, by decide, kw_969, kn_791, by decide, .inr ⟨dL_speaker_13, rfl⟩⟩, ?_⟩
    refine mK_iconst dL_speaker_15 rfl qic_1 ?_
    exact mK_iret dL_speaker_16 rfl q
  rcases hq with ⟨v, rfl, q⟩ | ⟨rfl, q⟩ | ⟨ne, re, q⟩
  · show mK Γ M_L_speaker (d + 1) Q 60 (c - c) (s - s) 8 [(0, .ref 0), (1, .int x1), (2, .int x2), (3, .ref 59)] [.int v, .int 0, .ref 59] 60 mSH τ
    refine mK_i2l dL_speaker_8 rfl ?_
    refine ru_last (n := 1) dL_speaker_9 rfl rfl vin01 ?_
    refine mK_goto (tgt := 17) dL_speaker_10 (by decide) ?_
    refine mK_iconst dL_speaker_17 rfl qic_0 ?_
    exact mK_iret dL_speaker_18 rfl q
  · exact bad1 q
  · exact absurd rfl ne
theorem W_item {Γ : Nat × (Nat → Int32)} {d c s : Nat} {Q : mQ} {σ : mS} (x1 : Int32) (x2 : Int32) (h : mCall Γ M_X7_item d c s [.ref 0, .int x1, .int x2] 60 mSH σ (mQw Q xIO xIO)) : mCall Γ M_L_item (d + 1) c s [.ref 0, .int x1, .int x2, .ref 59] 60 mSH σ Q := by
  refine mCall_ofH (by decide) (by decide) (Nat.le_of_ble_eq_true rfl) (mOkC (mOk_lo (Nat.le_of_ble_eq_true rfl)) (mOkC mOk_i (mOkC mOk_i (mOkC (mOk_lo (Nat.le_of_ble_eq_true rfl)) mOkN)))) ?_
  show mK Γ M_L_item (d + 1) Q 60 c s 0 [(0, .ref 0), (1, .int x1), (2, .int x2), (3, .ref 59)] [] 60 mSH σ
  refine mK_aload_n dL_item_0 rfl rfl (.tail _ (.tail _ (.tail _ (.head _)))) ?_
  refine mK_iconst dL_item_1 rfl qic_0 ?_
  refine mK_aload_n dL_item_2 rfl rfl (.head _) ?_
  refine mK_iload_n dL_item_3 rfl rfl (.tail _ (.head _)) ?_
  refine mK_iload_n dL_item_4 rfl rfl (.tail _ (.tail _ (.head _))) ?_
  refine mK_invVH (J := M_X7_item) (k := 2) (as := [.int x1, .int x2]) (st := [.int 0, .ref 59]) (c1 := c) (s1 := s) dL_item_5 jw_X7_item jn_X7_item rfl (Nat.le_of_ble_eq_true rfl) (Nat.le_refl _) (Nat.le_refl _) kw_978 kw_879 kw_880 (b := 0) (Nat.le_of_ble_eq_true rfl) (Nat.le_of_ble_eq_true rfl) rfl ?_
  refine mCall_mono h (fun o M th τ hq => ?_)
  obtain ⟨rfl, rfl, hq⟩ := hq
  have bad1 : Q (.inl (some (.int 1))) 60 mSH τ → mRh Γ M_L_item (d + 1) Q 60 (c - c) (s - s) 5 [(0, .ref 0), (1, .int x1), (2, .int x2), (3, .ref 59)] [.int 0, .ref 59] (.inr xIO) 60 mSH τ := fun q => by
    refine ⟨15, 4, ⟨[], _, [], "java/lang/IndexOutOfBoundsException", rfl, fun z hz => absurd hz List.not_mem_nil, rfl, by decide, kw_969, kn_791, by decide, .inr ⟨dL_item_13, rfl⟩⟩, ?_⟩
    refine mK_iconst dL_item_15 rfl qic_1 ?_
    exact mK_iret dL_item_16 rfl q
  rcases hq with ⟨v, rfl, q⟩ | ⟨rfl, q⟩ | ⟨ne, re, q⟩
  · show mK Γ M_L_item (d + 1) Q 60 (c - c) (s - s) 8 [(0, .ref 0), (1, .int x1), (2, .int x2), (3, .ref 59)] [.int v, .int 0, .ref 59] 60 mSH τ
    refine mK_i2l dL_item_8 rfl ?_
    refine ru_last (n := 1) dL_item_9 rfl rfl vin01 ?_
    refine mK_goto (tgt := 17) dL_item_10 (by decide) ?_
    refine mK_iconst dL_item_17 rfl qic_0 ?_
    exact mK_iret dL_item_18 rfl q
  · exact bad1 q
  · exact absurd rfl ne
theorem W_why {Γ : Nat × (Nat → Int32)} {d c s : Nat} {Q : mQ} {σ : mS} (x1 : Int32) (h : mCall Γ M_X7_why d c s [.ref 0, .int x1] 60 mSH σ (mQw Q xIO xIO)) : mCall Γ M_L_why (d + 1) c s [.ref 0, .int x1, .ref 59] 60 mSH σ Q := by
  refine mCall_ofH (by decide) (by decide) (Nat.le_of_ble_eq_true rfl) (mOkC (mOk_lo (Nat.le_of_ble_eq_true rfl)) (mOkC mOk_i (mOkC (mOk_lo (Nat.le_of_ble_eq_true rfl)) mOkN))) ?_
  show mK Γ M_L_why (d + 1) Q 60 c s 0 [(0, .ref 0), (1, .int x1), (2, .ref 59)] [] 60 mSH σ
  refine mK_aload_n dL_why_0 rfl rfl (.tail _ (.tail _ (.head _))) ?_
  refine mK_iconst dL_why_1 rfl qic_0 ?_
  refine mK_aload_n dL_why_2 rfl rfl (.head _) ?_
  refine mK_iload_n dL_why_3 rfl rfl (.tail _ (.head _)) ?_
  refine mK_invVH (J := M_X7_why) (k := 1) (as := [.int x1]) (st := [.int 0, .ref 59]) (c1 := c) (s1 := s) dL_why_4 jw_X7_why jn_X7_why rfl (Nat.le_of_ble_eq_true rfl) (Nat.le_refl _) (Nat.le_refl _) kw_991 kw_906 kw_907 (b := 0) (Nat.le_of_ble_eq_true rfl) (Nat.le_of_ble_eq_true rfl) rfl ?_
  refine mCall_mono h (fun o M th τ hq => ?_)
  obtain ⟨rfl, rfl, hq⟩ := hq
  have bad1 : Q (.inl (some (.int 1))) 60 mSH τ → mRh Γ M_L_why (d + 1) Q 60 (c - c) (s - s) 4 [(0, .ref 0), (1, .int x1), (2, .ref 59)] [.int 0, .ref 59] (.inr xIO) 60 mSH τ := fun q => by
    refine ⟨13, 3, ⟨[], _, [], "java/lang/IndexOutOfBoundsException", rfl, fun z hz => absurd hz List.not_mem_nil, rfl, by decide, kw_969, kn_791, by decide, .inl ⟨3, dL_why_12, rfl, rfl⟩⟩, ?_⟩
    refine mK_iconst dL_why_13 rfl qic_1 ?_
    exact mK_iret dL_why_14 rfl q
  rcases hq with ⟨v, rfl, q⟩ | ⟨rfl, q⟩ | ⟨ne, re, q⟩
  · show mK Γ M_L_why (d + 1) Q 60 (c - c) (s - s) 7 [(0, .ref 0), (1, .int x1), (2, .ref 59)] [.int v, .int 0, .ref 59] 60 mSH τ
    refine mK_i2l dL_why_7 rfl ?_
    refine ru_last (n := 1) dL_why_8 rfl rfl vin01 ?_
    refine mK_goto (tgt := 15) dL_why_9 (by decide) ?_
    refine mK_iconst dL_why_15 rfl qic_0 ?_
    exact mK_iret dL_why_16 rfl q
  · exact bad1 q
  · exact absurd rfl ne
theorem W_far {Γ : Nat × (Nat → Int32)} {d c s : Nat} {Q : mQ} {σ : mS} (x1 : Int32) (h : mCall Γ M_X7_far d c s [.ref 0, .int x1] 60 mSH σ (mQw Q xIO xIO)) : mCall Γ M_L_far (d + 1) c s [.ref 0, .int x1, .ref 59] 60 mSH σ Q := by
  refine mCall_ofH (by decide) (by decide) (Nat.le_of_ble_eq_true rfl) (mOkC (mOk_lo (Nat.le_of_ble_eq_true rfl)) (mOkC mOk_i (mOkC (mOk_lo (Nat.le_of_ble_eq_true rfl)) mOkN))) ?_
  show mK Γ M_L_far (d + 1) Q 60 c s 0 [(0, .ref 0), (1, .int x1), (2, .ref 59)] [] 60 mSH σ
  refine mK_aload_n dL_far_0 rfl rfl (.tail _ (.tail _ (.head _))) ?_
  refine mK_iconst dL_far_1 rfl qic_0 ?_
  refine mK_aload_n dL_far_2 rfl rfl (.head _) ?_
  refine mK_iload_n dL_far_3 rfl rfl (.tail _ (.head _)) ?_
  refine mK_invVH (J := M_X7_far) (k := 1) (as := [.int x1]) (st := [.int 0, .ref 59]) (c1 := c) (s1 := s) dL_far_4 jw_X7_far jn_X7_far rfl (Nat.le_of_ble_eq_true rfl) (Nat.le_refl _) (Nat.le_refl _) kw_995 kw_910 kw_911 (b := 0) (Nat.le_of_ble_eq_true rfl) (Nat.le_of_ble_eq_true rfl) rfl ?_
  refine mCall_mono h (fun o M th τ hq => ?_)
  obtain ⟨rfl, rfl, hq⟩ := hq
  have bad1 : Q (.inl (some (.int 1))) 60 mSH τ → mRh Γ M_L_far (d + 1) Q 60 (c - c) (s - s) 4 [(0, .ref 0), (1, .int x1), (2, .ref 59)] [.int 0, .ref 59] (.inr xIO) 60 mSH τ := fun q => by
    refine ⟨13, 3, ⟨[], _, [], "java/lang/IndexOutOfBoundsException", rfl, fun z hz => absurd hz List.not_mem_nil, rfl, by decide, kw_969, kn_791, by decide, .inl ⟨3, dL_far_12, rfl, rfl⟩⟩, ?_⟩
    refine mK_iconst dL_far_13 rfl qic_1 ?_
    exact mK_iret dL_far_14 rfl q
  rcases hq with ⟨v, rfl, q⟩ | ⟨rfl, q⟩ | ⟨ne, re, q⟩
  · show mK Γ M_L_far (d + 1) Q 60 (c - c) (s - s) 7 [(0, .ref 0), (1, .int x1), (2, .ref 59)] [.int v, .int 0, .ref 59] 60 mSH τ
    refine mK_i2l dL_far_7 rfl ?_
    refine ru_last (n := 1) dL_far_8 rfl rfl vin01 ?_
    refine mK_goto (tgt := 15) dL_far_9 (by decide) ?_
    refine mK_iconst dL_far_15 rfl qic_0 ?_
    exact mK_iret dL_far_16 rfl q
  · exact bad1 q
  · exact absurd rfl ne
theorem W_conceding {Γ : Nat × (Nat → Int32)} {d c s : Nat} {Q : mQ} {σ : mS} (x1 : Int32) (x2 : Int32) (h : mCall Γ M_X7_conceding d c s [.ref 0, .int x1, .int x2] 60 mSH σ (mQw Q xIO xIO)) : mCall Γ M_L_conceding (d + 1) c s [.ref 0, .int x1, .int x2, .ref 59] 60 mSH σ Q := by
  refine mCall_ofH (by decide) (by decide) (Nat.le_of_ble_eq_true rfl) (mOkC (mOk_lo (Nat.le_of_ble_eq_true rfl)) (mOkC mOk_i (mOkC mOk_i (mOkC (mOk_lo (Nat.le_of_ble_eq_true rfl)) mOkN)))) ?_
  show mK Γ M_L_conceding (d + 1) Q 60 c s 0 [(0, .ref 0), (1, .int x1), (2, .int x2), (3, .ref 59)] [] 60 mSH σ
  refine mK_aload_n dL_conceding_0 rfl rfl (.tail _ (.tail _ (.tail _ (.head _)))) ?_
  refine mK_iconst dL_conceding_1 rfl qic_0 ?_
  refine mK_aload_n dL_conceding_2 rfl rfl (.head _) ?_
  refine mK_iload_n dL_conceding_3 rfl rfl (.tail _ (.head _)) ?_
  refine mK_iload_n dL_conceding_4 rfl rfl (.tail _ (.tail _ (.head _))) ?_
  refine mK_invVH (J := M_X7_conceding) (k := 2) (as := [.int x1, .int x2]) (st := [.int 0, .ref 59]) (c1 := c) (s1 := s) dL_conceding_5 jw_X7_conceding jn_X7_conceding rfl (Nat.le_of_ble_eq_true rfl) (Nat.le_refl _) (Nat.le_refl _) kw_1006 kw_1007 kw_1008 (b := 0) (Nat.le_of_ble_eq_true rfl) (Nat.le_of_ble_eq_true rfl) rfl ?_
  refine mCall_mono h (fun o M th τ hq => ?_)
  obtain ⟨rfl, rfl, hq⟩ := hq
  have bad1 : Q (.inl (some (.int 1))) 60 mSH τ → mRh Γ M_L_conceding (d + 1) Q 60 (c - c) (s - s) 5 [(0, .ref 0), (1, .int x1), (2, .int x2), (3, .ref 59)] [.int 0, .ref 59] (.inr xIO) 60 mSH τ := fun q => by
    refine ⟨15, 4, ⟨[], _, [], "java/lang/IndexOutOfBoundsException", rfl, fun z hz => absurd hz List.not_mem_nil, rfl, by decide, kw_969, kn_791, by decide, .inr ⟨dL_conceding_13, rfl⟩⟩, ?_⟩
    refine mK_iconst dL_conceding_15 rfl qic_1 ?_
    exact mK_iret dL_conceding_16 rfl q
  rcases hq with ⟨v, rfl, q⟩ | ⟨rfl, q⟩ | ⟨ne, re, q⟩
  · show mK Γ M_L_conceding (d + 1) Q 60 (c - c) (s - s) 8 [(0, .ref 0), (1, .int x1), (2, .int x2), (3, .ref 59)] [.int v, .int 0, .ref 59] 60 mSH τ
    refine mK_i2l dL_conceding_8 rfl ?_
    refine ru_last (n := 1) dL_conceding_9 rfl rfl vin01 ?_
    refine mK_goto (tgt := 17) dL_conceding_10 (by decide) ?_
    refine mK_iconst dL_conceding_17 rfl qic_0 ?_
    exact mK_iret dL_conceding_18 rfl q
  · exact bad1 q
  · exact absurd rfl ne
theorem W_concede {Γ : Nat × (Nat → Int32)} {d c s : Nat} {Q : mQ} {σ : mS} (x1 : Int32) (h : mCall Γ M_X7_concede d c s [.ref 0, .int x1] 60 mSH σ (mQw Q xIO xIO)) : mCall Γ M_L_concede (d + 1) c s [.ref 0, .int x1, .ref 59] 60 mSH σ Q := by
  refine mCall_ofH (by decide) (by decide) (Nat.le_of_ble_eq_true rfl) (mOkC (mOk_lo (Nat.le_of_ble_eq_true rfl)) (mOkC mOk_i (mOkC (mOk_lo (Nat.le_of_ble_eq_true rfl)) mOkN))) ?_
  show mK Γ M_L_concede (d + 1) Q 60 c s 0 [(0, .ref 0), (1, .int x1), (2, .ref 59)] [] 60 mSH σ
  refine mK_aload_n dL_concede_0 rfl rfl (.tail _ (.tail _ (.head _))) ?_
  refine mK_iconst dL_concede_1 rfl qic_0 ?_
  refine mK_aload_n dL_concede_2 rfl rfl (.head _) ?_
  refine mK_iload_n dL_concede_3 rfl rfl (.tail _ (.head _)) ?_
  refine mK_invVH (J := M_X7_concede) (k := 1) (as := [.int x1]) (st := [.int 0, .ref 59]) (c1 := c) (s1 := s) dL_concede_4 jw_X7_concede jn_X7_concede rfl (Nat.le_of_ble_eq_true rfl) (Nat.le_refl _) (Nat.le_refl _) kw_1014 kw_1015 kw_1016 (b := 0) (Nat.le_of_ble_eq_true rfl) (Nat.le_of_ble_eq_true rfl) rfl ?_
  refine mCall_mono h (fun o M th τ hq => ?_)
  obtain ⟨rfl, rfl, hq⟩ := hq
  have bad1 : Q (.inl (some (.int 1))) 60 mSH τ → mRh Γ M_L_concede (d + 1) Q 60 (c - c) (s - s) 4 [(0, .ref 0), (1, .int x1), (2, .ref 59)] [.int 0, .ref 59] (.inr xIO) 60 mSH τ := fun q => by
    refine ⟨13, 3, ⟨[], _, [], "java/lang/IndexOutOfBoundsException", rfl, fun z hz => absurd hz List.not_mem_nil, rfl, by decide, kw_969, kn_791, by decide, .inl ⟨3, dL_concede_12, rfl, rfl⟩⟩, ?_⟩
    refine mK_iconst dL_concede_13 rfl qic_1 ?_
    exact mK_iret dL_concede_14 rfl q
  rcases hq with ⟨v, rfl, q⟩ | ⟨rfl, q⟩ | ⟨ne, re, q⟩
  · show mK Γ M_L_concede (d + 1) Q 60 (c - c) (s - s) 7 [(0, .ref 0), (1, .int x1), (2, .ref 59)] [.int v, .int 0, .ref 59] 60 mSH τ
    refine mK_i2l dL_concede_7 rfl ?_
    refine ru_last (n := 1) dL_concede_8 rfl rfl vin01 ?_
    refine mK_goto (tgt := 15) dL_concede_9 (by decide) ?_
    refine mK_iconst dL_concede_15 rfl qic_0 ?_
    exact mK_iret dL_concede_16 rfl q
  · exact bad1 q
  · exact absurd rfl ne
theorem W_least {Γ : Nat × (Nat → Int32)} {d c s : Nat} {Q : mQ} {σ : mS} (x1 : Int32) (h : mCall Γ M_X7_least d c s [.ref 0, .int x1] 60 mSH σ (mQw Q xIO xIO)) : mCall Γ M_L_least (d + 1) c s [.ref 0, .int x1, .ref 59] 60 mSH σ Q := by
  refine mCall_ofH (by decide) (by decide) (Nat.le_of_ble_eq_true rfl) (mOkC (mOk_lo (Nat.le_of_ble_eq_true rfl)) (mOkC mOk_i (mOkC (mOk_lo (Nat.le_of_ble_eq_true rfl)) mOkN))) ?_
  show mK Γ M_L_least (d + 1) Q 60 c s 0 [(0, .ref 0), (1, .int x1), (2, .ref 59)] [] 60 mSH σ
  refine mK_aload_n dL_least_0 rfl rfl (.tail _ (.tail _ (.head _))) ?_
  refine mK_iconst dL_least_1 rfl qic_0 ?_
  refine mK_aload_n dL_least_2 rfl rfl (.head _) ?_
  refine mK_iload_n dL_least_3 rfl rfl (.tail _ (.head _)) ?_
  refine mK_invVH (J := M_X7_least) (k := 1) (as := [.int x1]) (st := [.int 0, .ref 59]) (c1 := c) (s1 := s) dL_least_4 jw_X7_least jn_X7_least rfl (Nat.le_of_ble_eq_true rfl) (Nat.le_refl _) (Nat.le_refl _) kw_1039 kw_1040 kw_1041 (b := 0) (Nat.le_of_ble_eq_true rfl) (Nat.le_of_ble_eq_true rfl) rfl ?_
  refine mCall_mono h (fun o M th τ hq => ?_)
  obtain ⟨rfl, rfl, hq⟩ := hq
  have bad1 : Q (.inl (some (.int 1))) 60 mSH τ → mRh Γ M_L_least (d + 1) Q 60 (c - c) (s - s) 4 [(0, .ref 0), (1, .int x1), (2, .ref 59)] [.int 0, .ref 59] (.inr xIO) 60 mSH τ := fun q => by
    refine ⟨13, 3, ⟨[], _, [], "java/lang/IndexOutOfBoundsException", rfl, fun z hz => absurd hz List.not_mem_nil, rfl, by decide, kw_969, kn_791, by decide, .inl ⟨3, dL_least_12, rfl, rfl⟩⟩, ?_⟩
    refine mK_iconst dL_least_13 rfl qic_1 ?_
    exact mK_iret dL_least_14 rfl q
  rcases hq with ⟨v, rfl, q⟩ | ⟨rfl, q⟩ | ⟨ne, re, q⟩
  · show mK Γ M_L_least (d + 1) Q 60 (c - c) (s - s) 7 [(0, .ref 0), (1, .int x1), (2, .ref 59)] [.int v, .int 0, .ref 59] 60 mSH τ
    refine mK_i2l dL_least_7 rfl ?_
    refine ru_last (n := 1) dL_least_8 rfl rfl vin01 ?_
    refine mK_goto (tgt := 15) dL_least_9 (by decide) ?_
    refine mK_iconst dL_least_15 rfl qic_0 ?_
    exact mK_iret dL_least_16 rfl q
  · exact bad1 q
  · exact absurd rfl ne
theorem W_frees {Γ : Nat × (Nat → Int32)} {d c s : Nat} {Q : mQ} {σ : mS} (x1 : Int32) (h : mCall Γ M_X7_frees d c s [.ref 0, .int x1] 60 mSH σ (mQw Q xIO xIO)) : mCall Γ M_L_frees (d + 1) c s [.ref 0, .int x1, .ref 59] 60 mSH σ Q := by
  refine mCall_ofH (by decide) (by decide) (Nat.le_of_ble_eq_true rfl) (mOkC (mOk_lo (Nat.le_of_ble_eq_true rfl)) (mOkC mOk_i (mOkC (mOk_lo (Nat.le_of_ble_eq_true rfl)) mOkN))) ?_
  show mK Γ M_L_frees (d + 1) Q 60 c s 0 [(0, .ref 0), (1, .int x1), (2, .ref 59)] [] 60 mSH σ
  refine mK_aload_n dL_frees_0 rfl rfl (.tail _ (.tail _ (.head _))) ?_
  refine mK_iconst dL_frees_1 rfl qic_0 ?_
  refine mK_aload_n dL_frees_2 rfl rfl (.head _) ?_
  refine mK_iload_n dL_frees_3 rfl rfl (.tail _ (.head _)) ?_
  refine mK_invVH (J := M_X7_frees) (k := 1) (as := [.int x1]) (st := [.int 0, .ref 59]) (c1 := c) (s1 := s) dL_frees_4 jw_X7_frees jn_X7_frees rfl (Nat.le_of_ble_eq_true rfl) (Nat.le_refl _) (Nat.le_refl _) kw_1047 kw_1048 kw_1049 (b := 0) (Nat.le_of_ble_eq_true rfl) (Nat.le_of_ble_eq_true rfl) rfl ?_
  refine mCall_mono h (fun o M th τ hq => ?_)
  obtain ⟨rfl, rfl, hq⟩ := hq
  have bad1 : Q (.inl (some (.int 1))) 60 mSH τ → mRh Γ M_L_frees (d + 1) Q 60 (c - c) (s - s) 4 [(0, .ref 0), (1, .int x1), (2, .ref 59)] [.int 0, .ref 59] (.inr xIO) 60 mSH τ := fun q => by
    refine ⟨13, 3, ⟨[], _, [], "java/lang/IndexOutOfBoundsException", rfl, fun z hz => absurd hz List.not_mem_nil, rfl, by decide, kw_969, kn_791, by decide, .inl ⟨3, dL_frees_12, rfl, rfl⟩⟩, ?_⟩
    refine mK_iconst dL_frees_13 rfl qic_1 ?_
    exact mK_iret dL_frees_14 rfl q
  rcases hq with ⟨v, rfl, q⟩ | ⟨rfl, q⟩ | ⟨ne, re, q⟩
  · show mK Γ M_L_frees (d + 1) Q 60 (c - c) (s - s) 7 [(0, .ref 0), (1, .int x1), (2, .ref 59)] [.int v, .int 0, .ref 59] 60 mSH τ
    refine mK_i2l dL_frees_7 rfl ?_
    refine ru_last (n := 1) dL_frees_8 rfl rfl vin01 ?_
    refine mK_goto (tgt := 15) dL_frees_9 (by decide) ?_
    refine mK_iconst dL_frees_15 rfl qic_0 ?_
    exact mK_iret dL_frees_16 rfl q
  · exact bad1 q
  · exact absurd rfl ne
theorem W_byteAt {Γ : Nat × (Nat → Int32)} {d c s : Nat} {Q : mQ} {σ : mS} (x1 : Int32) (h : mCall Γ M_X7_byteAt d c s [.ref 0, .int x1] 60 mSH σ (mQw Q xIO xIO)) : mCall Γ M_L_byteAt (d + 1) c s [.ref 0, .int x1, .ref 59] 60 mSH σ Q := by
  refine mCall_ofH (by decide) (by decide) (Nat.le_of_ble_eq_true rfl) (mOkC (mOk_lo (Nat.le_of_ble_eq_true rfl)) (mOkC mOk_i (mOkC (mOk_lo (Nat.le_of_ble_eq_true rfl)) mOkN))) ?_
  show mK Γ M_L_byteAt (d + 1) Q 60 c s 0 [(0, .ref 0), (1, .int x1), (2, .ref 59)] [] 60 mSH σ
  refine mK_aload_n dL_byteAt_0 rfl rfl (.tail _ (.tail _ (.head _))) ?_
  refine mK_iconst dL_byteAt_1 rfl qic_0 ?_
  refine mK_aload_n dL_byteAt_2 rfl rfl (.head _) ?_
  refine mK_iload_n dL_byteAt_3 rfl rfl (.tail _ (.head _)) ?_
  refine mK_invVH (J := M_X7_byteAt) (k := 1) (as := [.int x1]) (st := [.int 0, .ref 59]) (c1 := c) (s1 := s) dL_byteAt_4 jw_X7_byteAt jn_X7_byteAt rfl (Nat.le_of_ble_eq_true rfl) (Nat.le_refl _) (Nat.le_refl _) kw_1062 kw_1063 kw_1064 (b := 0) (Nat.le_of_ble_eq_true rfl) (Nat.le_of_ble_eq_true rfl) rfl ?_
  refine mCall_mono h (fun o M th τ hq => ?_)
  obtain ⟨rfl, rfl, hq⟩ := hq
  have bad1 : Q (.inl (some (.int 1))) 60 mSH τ → mRh Γ M_L_byteAt (d + 1) Q 60 (c - c) (s - s) 4 [(0, .ref 0), (1, .int x1), (2, .ref 59)] [.int 0, .ref 59] (.inr xIO) 60 mSH τ := fun q => by
    refine ⟨13, 3, ⟨[], _, [], "java/lang/IndexOutOfBoundsException", rfl, fun z hz => absurd hz List.not_mem_nil, rfl, by decide, kw_969, kn_791, by decide, .inl ⟨3, dL_byteAt_12, rfl, rfl⟩⟩, ?_⟩
    refine mK_iconst dL_byteAt_13 rfl qic_1 ?_
    exact mK_iret dL_byteAt_14 rfl q
  rcases hq with ⟨v, rfl, q⟩ | ⟨rfl, q⟩ | ⟨ne, re, q⟩
  · show mK Γ M_L_byteAt (d + 1) Q 60 (c - c) (s - s) 7 [(0, .ref 0), (1, .int x1), (2, .ref 59)] [.int v, .int 0, .ref 59] 60 mSH τ
    refine mK_i2l dL_byteAt_7 rfl ?_
    refine ru_last (n := 1) dL_byteAt_8 rfl rfl vin01 ?_
    refine mK_goto (tgt := 15) dL_byteAt_9 (by decide) ?_
    refine mK_iconst dL_byteAt_15 rfl qic_0 ?_
    exact mK_iret dL_byteAt_16 rfl q
  · exact bad1 q
  · exact absurd rfl ne
/-! ===== the law: from one call to the next ===== -/
abbrev lLL (i : Nat) : List (Nat × Value) := [(0, .ref 1300), (1, .ref 0), (2, .ref 26), (3, .ref 59), (4, .int (nI i))]
def sA1 (Γ : Nat × (Nat → Int32)) (i : Nat) : Int32 := Γ.2 (nI i + 1).toNatClampNeg
theorem scr_in1 {i L : Nat} (h : i + 6 ≤ L) (hL : L ≤ 3072) : vp_in (nI i + 1) L := by
  have e : nI i + 1 = nI (i + 1) := nI_add i 1
  rw [e]; exact vp_in_nI (by omega) (by omega)
def sA2 (Γ : Nat × (Nat → Int32)) (i : Nat) : Int32 := Γ.2 (nI i + 2).toNatClampNeg
theorem scr_in2 {i L : Nat} (h : i + 6 ≤ L) (hL : L ≤ 3072) : vp_in (nI i + 2) L := by
  have e : nI i + 2 = nI (i + 2) := nI_add i 2
  rw [e]; exact vp_in_nI (by omega) (by omega)
def sA3 (Γ : Nat × (Nat → Int32)) (i : Nat) : Int32 := Γ.2 (nI i + 3).toNatClampNeg
theorem scr_in3 {i L : Nat} (h : i + 6 ≤ L) (hL : L ≤ 3072) : vp_in (nI i + 3) L := by
  have e : nI i + 3 = nI (i + 3) := nI_add i 3
  rw [e]; exact vp_in_nI (by omega) (by omega)
def sA4 (Γ : Nat × (Nat → Int32)) (i : Nat) : Int32 := Γ.2 (nI i + 4).toNatClampNeg
theorem scr_in4 {i L : Nat} (h : i + 6 ≤ L) (hL : L ≤ 3072) : vp_in (nI i + 4) L := by
  have e : nI i + 4 = nI (i + 4) := nI_add i 4
  rw [e]; exact vp_in_nI (by omega) (by omega)
def sA5 (Γ : Nat × (Nat → Int32)) (i : Nat) : Int32 := Γ.2 (nI i + 5).toNatClampNeg
theorem scr_in5 {i L : Nat} (h : i + 6 ≤ L) (hL : L ≤ 3072) : vp_in (nI i + 5) L := by
  have e : nI i + 5 = nI (i + 5) := nI_add i 5
  rw [e]; exact vp_in_nI (by omega) (by omega)
theorem lw_room {s : State} {pl : Platform} {r r' : Room} (hf : r.frames ≤ r'.frames) (hl : r.locals ≤ r'.locals) (hc : r.cells ≤ r'.cells) (hs : r.slots ≤ r'.slots) (h : s.hasRoom pl r' = true) : s.hasRoom pl r = true := by
  simp only [State.hasRoom, Bool.and_eq_true, decide_eq_true_eq] at h ⊢
  obtain ⟨⟨⟨⟨y, a, b, c, d, e⟩, f⟩, g⟩, i⟩ := h
  exact ⟨⟨⟨⟨by omega, by omega, by omega, by omega, by omega, e⟩, by omega⟩, by omega⟩, i⟩
theorem met_room {l : Launch} {x : MethodName} {ws : List Cond} {r r' : Room} {P : Array Value → State → Prop} {K : Program → Env → List Frame → State → Array Value → Prop} {Q : Array Value → State → Outcome → State → Prop} (h : MetFree l x (headSpec ws r) P K Q) (hf : r.frames ≤ r'.frames) (hl : r.locals ≤ r'.locals) (hc : r.cells ≤ r'.cells) (hs : r.slots ≤ r'.slots) : MetFree l x (headSpec ws r') P K Q := by
  intro p e ha hcs hk s m args below hfr happ hP hK
  obtain ⟨a1, a2, a3, a4, a5, a6, a7, a8⟩ := (Spec.appliesLoose_iff hfr).mp happ
  exact h p e ha hcs hk s m args below hfr ((Spec.appliesLoose_iff hfr).mpr ⟨a1, a2, a3, a4, a5, a6, lw_room hf hl hc hs a7, a8⟩) hP hK
theorem mCall_up {Γ : Nat × (Nat → Int32)} {I : mM} {d d' c s : Nat} {av : List Value} {N : Nat} {sh : mH} {σ : mS} {Q : mQ} (hd : d ≤ d') (h : mCall Γ I d c s av N sh σ Q) : mCall Γ I d' c s av N sh σ Q := by
  intro l D cd ad aC sz hl
  have h1 : (mR d c s).frames ≤ (mR d' c s).frames := Nat.add_le_add_right hd 6
  have h2 : (mR d c s).locals ≤ (mR d' c s).locals := Nat.add_le_add_right (Nat.mul_le_mul_left 60 hd) 200
  exact met_room (h l D cd ad aC sz hl) h1 h2 (Nat.le_refl _) (Nat.le_refl _)
theorem wr_end {Γ : Nat × (Nat → Int32)} {d : Nat} {E1 E2 : String} {JM : mM} {c s : Nat} {as : List Value} {o : mO} {N : Nat} {sh : mH} {τ : mS} {Q' : mQ} (h : PO Γ d E1 E2 JM c s as o N sh τ)
    (K : ∀ (k v : Int32) (τ' : mS), (k = 0 → τ'.2.1 59 0 = v.toInt64) → (∀ Q : mQ, (∀ ρ, Rel ρ ∧ ρ.1 26 0 = k ∧ ρ.2.1 59 = τ'.2.1 59 → Q (.inl (some (.int v))) 60 mSH ρ) → mCall Γ JM d c s as 60 mSH τ' Q) → Q' (.inl (some (.int k))) 60 mSH τ') : mQw Q' E1 E2 o N sh τ := by
  obtain ⟨h1, h2, k, v, ho, m⟩ := h
  refine ⟨h1, h2, ?_⟩
  rcases ho with ⟨e, ho⟩ | ⟨e, ho⟩ | ⟨e, ne, ho⟩
  · subst e
    exact .inl ⟨v, ho, K 0 v _ (fun _ => by show (mPL τ 59 0 v.toInt64).2.1 59 0 = _; rw [mPL_at, if_pos rfl]) (m _ (e59_p τ _))⟩
  · subst e
    exact .inr (.inl ⟨ho, K 1 v _ (fun q => absurd q (by decide)) (m _ (e59_r τ))⟩)
  · subst e
    exact .inr (.inr ⟨ne, ho, K 2 v _ (fun q => absurd q (by decide)) (m _ (e59_r τ))⟩)
/-- the same for a truth -/
def mQb (Q : mQ) (E1 : String) : mQ := fun o N sh τ => N = 60 ∧ sh = mSH ∧
  ((∃ v : Int32, o = .inl (some (.int v)) ∧ Q (.inl (some (.int 0))) 60 mSH (mPL τ 59 0 (if v = 0 then 0 else 1))) ∨ (o = .inr E1 ∧ Q (.inl (some (.int 1))) 60 mSH τ))
theorem wr_endb {Γ : Nat × (Nat → Int32)} {d : Nat} {E1 : String} {JM : mM} {c s : Nat} {as : List Value} {o : mO} {N : Nat} {sh : mH} {τ : mS} {Q' : mQ} (h : PO Γ d E1 E1 JM c s as o N sh τ)
    (K : ∀ (k v : Int32) (τ' : mS), (k = 0 → τ'.2.1 59 0 = if v = 0 then 0 else 1) → (∀ Q : mQ, (∀ ρ, Rel ρ ∧ ρ.1 26 0 = k ∧ ρ.2.1 59 = τ'.2.1 59 → Q (.inl (some (.int v))) 60 mSH ρ) → mCall Γ JM d c s as 60 mSH τ' Q) → Q' (.inl (some (.int k))) 60 mSH τ') : mQb Q' E1 o N sh τ := by
  obtain ⟨h1, h2, k, v, ho, m⟩ := h
  refine ⟨h1, h2, ?_⟩
  rcases ho with ⟨e, ho⟩ | ⟨e, ho⟩ | ⟨e, ne, ho⟩
  · subst e
    exact .inl ⟨v, ho, K 0 v _ (fun _ => by show (mPL τ 59 0 _).2.1 59 0 = _; rw [mPL_at, if_pos rfl]) (m _ (e59_p τ _))⟩
  · subst e
    exact .inr ⟨ho, K 1 v _ (fun q => absurd q (by decide)) (m _ (e59_r τ))⟩
  · exact absurd rfl ne
/-- calls that never throw -/
def PN (Γ : Nat × (Nat → Int32)) (d : Nat) (JM : mM) (c s : Nat) (as : List Value) (o : mO) (N : Nat) (sh : mH) (τ : mS) : Prop := ∀ E1 E2 : String, PO Γ d E1 E2 JM c s as o N sh τ
theorem PN_of {Γ : Nat × (Nat → Int32)} {d : Nat} {JM : mM} {c s : Nat} {as : List Value} {o : mO} {N : Nat} {sh : mH} {τ : mS} (h : PN Γ d JM c s as o N sh τ) : N = 60 ∧ sh = mSH ∧ ∃ v : Int32, o = .inl (some (.int v)) ∧
    ∀ τ', e59 τ τ' → ∀ Q : mQ, (∀ ρ, Rel ρ ∧ ρ.1 26 0 = 0 ∧ ρ.2.1 59 = τ'.2.1 59 → Q (.inl (some (.int v))) 60 mSH ρ) → mCall Γ JM d c s as 60 mSH τ' Q := by
  obtain ⟨h1, h2, k, v, ho, m⟩ := h "" ""
  rcases ho with ⟨e, ho⟩ | ⟨e, ho⟩ | ⟨e, ne, ho⟩
  · subst e
    exact ⟨h1, h2, v, ho, m⟩
  · obtain ⟨_, _, k', v', ho', _⟩ := h "a" "a"
    rcases ho' with ⟨_, ho'⟩ | ⟨_, ho'⟩ | ⟨_, ne, ho'⟩
    · rw [ho] at ho'; cases ho'
    · rw [ho] at ho'; exact absurd (Sum.inr.inj ho') (by decide)
    · exact absurd rfl ne
  · exact absurd rfl ne
theorem W_defends {Γ : Nat × (Nat → Int32)} {d c s : Nat} {Q : mQ} {σ : mS} (x1 : Int32) (x2 : Int32) (h : mCall Γ M_X7_defends d c s [.ref 0, .int x1, .int x2] 60 mSH σ (mQb Q xIO)) : mCall Γ M_L_defends (d + 1) c s [.ref 0, .int x1, .int x2, .ref 59] 60 mSH σ Q := by
  refine mCall_ofH (by decide) (by decide) (Nat.le_of_ble_eq_true rfl) (mOkC (mOk_lo (Nat.le_of_ble_eq_true rfl)) (mOkC mOk_i (mOkC mOk_i (mOkC (mOk_lo (Nat.le_of_ble_eq_true rfl)) mOkN)))) ?_
  show mK Γ M_L_defends (d + 1) Q 60 c s 0 [(0, .ref 0), (1, .int x1), (2, .int x2), (3, .ref 59)] [] 60 mSH σ
  refine mK_aload_n dL_defends_0 rfl rfl (.tail _ (.tail _ (.tail _ (.head _)))) ?_
  refine mK_iconst dL_defends_1 rfl qic_0 ?_
  refine mK_aload_n dL_defends_2 rfl rfl (.head _) ?_
  refine mK_iload_n dL_defends_3 rfl rfl (.tail _ (.head _)) ?_
  refine mK_iload_n dL_defends_4 rfl rfl (.tail _ (.tail _ (.head _))) ?_
  refine mK_invVH (J := M_X7_defends) (k := 2) (as := [.int x1, .int x2]) (st := [.int 0, .ref 59]) (c1 := c) (s1 := s) dL_defends_5 jw_X7_defends jn_X7_defends rfl (Nat.le_of_ble_eq_true rfl) (Nat.le_refl _) (Nat.le_refl _) kw_999 kw_1000 kw_1001 (b := 0) (Nat.le_of_ble_eq_true rfl) (Nat.le_of_ble_eq_true rfl) rfl ?_
  refine mCall_mono h (fun o M th τ hq => ?_)
  obtain ⟨rfl, rfl, hq⟩ := hq
  rcases hq with ⟨v, rfl, q⟩ | ⟨rfl, q⟩
  · show mK Γ M_L_defends (d + 1) Q 60 (c - c) (s - s) 8 [(0, .ref 0), (1, .int x1), (2, .int x2), (3, .ref 59)] [.int v, .int 0, .ref 59] 60 mSH τ
    refine mK_if_eq (tgt := 15) dL_defends_8 rfl (by decide) (fun z => ?_) (fun z => ?_)
    · rw [if_pos z] at q
      refine mK_lconst dL_defends_15 rfl (v := 0) (by decide) ?_
      refine ru_last (n := 1) dL_defends_16 rfl rfl vin01 ?_
      refine mK_goto (tgt := 24) dL_defends_17 (by decide) ?_
      refine mK_iconst dL_defends_24 rfl qic_0 ?_
      exact mK_iret dL_defends_25 rfl q
    · rw [if_neg z] at q
      refine mK_lconst dL_defends_11 rfl (v := 1) (by decide) ?_
      refine mK_goto (tgt := 16) dL_defends_12 (by decide) ?_
      refine ru_last (n := 1) dL_defends_16 rfl rfl vin01 ?_
      refine mK_goto (tgt := 24) dL_defends_17 (by decide) ?_
      refine mK_iconst dL_defends_24 rfl qic_0 ?_
      exact mK_iret dL_defends_25 rfl q
  · refine ⟨22, 4, ⟨[], _, [], "java/lang/IndexOutOfBoundsException", rfl, fun z hz => absurd hz List.not_mem_nil, rfl, by decide, kw_969, kn_791, by decide, .inr ⟨dL_defends_20, rfl⟩⟩, ?_⟩
    refine mK_iconst dL_defends_22 rfl qic_1 ?_
    exact mK_iret dL_defends_23 rfl q
