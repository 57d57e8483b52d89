set_option maxRecDepth 20000 in
theorem LC_give {Γ : Nat × (Nat → Int32)} {d : Nat} {Q : mQ} {n0 bc bs i : Nat} {σ : mS} (h : Rel σ) (hL : Γ.1 ≤ 3072) (hi : i + 6 ≤ Γ.1) (hb : 130 ≤ bc) (hs : 700 ≤ bs) (K : ∀ ρ, Rel ρ → mK Γ M_L_law (d + 38) Q n0 (bc - 130) (bs - 700) 1214 (lLL i) [] 60 mSH ρ) : mK Γ M_L_law (d + 38) Q n0 bc bs 518 (lLL i) [] 60 mSH σ := by
  refine mK_aload_n dL_law_518 rfl rfl (.tail _ (.head _)) ?_
  refine mK_aload_n dL_law_519 rfl rfl (.head _) ?_
  refine mK_iload dL_law_520 rfl (.tail _ (.tail _ (.tail _ (.tail _ (.head _))))) ?_
  refine mK_iconst dL_law_522 rfl qic_1 ?_
  refine mK_iadd dL_law_523 rfl ?_
  refine mK_sld dL_law_524 rfl (scr_in1 hi hL) ?_
  show mK Γ M_L_law (d + 38) Q n0 bc bs 525 [(0, .ref 1300), (1, .ref 0), (2, .ref 26), (3, .ref 59), (4, .int (nI i))] [.int (sA1 Γ i), .ref 0] 60 mSH σ
  refine mK_aload_n dL_law_525 rfl rfl (.head _) ?_
  refine mK_iload dL_law_526 rfl (.tail _ (.tail _ (.tail _ (.tail _ (.head _))))) ?_
  refine mK_iconst dL_law_528 rfl qic_2 ?_
  refine mK_iadd dL_law_529 rfl ?_
  refine mK_sld dL_law_530 rfl (scr_in2 hi hL) ?_
  show mK Γ M_L_law (d + 38) Q n0 bc bs 531 [(0, .ref 1300), (1, .ref 0), (2, .ref 26), (3, .ref 59), (4, .int (nI i))] [.int (sA2 Γ i), .int (sA1 Γ i), .ref 0] 60 mSH σ
  refine mK_aload_n dL_law_531 rfl rfl (.tail _ (.tail _ (.tail _ (.head _)))) ?_
  refine mK_invSH (J := M_L_give) (k := 4) (as := [.ref 0, .int (sA1 Γ i), .int (sA2 Γ i), .ref 59]) (st := []) (c1 := 2) (s1 := 12) dL_law_532 rfl jv_L_give jn_L_give rfl (Nat.le_of_ble_eq_true rfl) (by omega) (by omega) rfl (by decide) kw_979 kw_980 ?_
  refine W_give (d := d + 36) (sA1 Γ i) (sA2 Γ i) (mCall_mono (P_give (d := d + 24) h (sA1 Γ i) (sA2 Γ i)) (fun o M th τ hq => wr_end hq (fun k v τ' e m => ?_)))
  show mK Γ M_L_law (d + 38) Q n0 (bc - 2) (bs - 12) 535 [(0, .ref 1300), (1, .ref 0), (2, .ref 26), (3, .ref 59), (4, .int (nI i))] [.int k] 60 mSH τ'
  refine ru_istore (lv1 := [(0, .ref 1300), (1, .ref 0), (2, .ref 26), (3, .ref 59), (4, .int (nI i)), (5, .int k)]) dL_law_535 rfl (Nat.le_of_ble_eq_true rfl) rfl ?_
  refine mK_aload_n dL_law_537 rfl rfl (.tail _ (.tail _ (.head _))) ?_
  refine mK_aload_n dL_law_538 rfl rfl (.head _) ?_
  refine mK_iload dL_law_539 rfl (.tail _ (.tail _ (.tail _ (.tail _ (.head _))))) ?_
  refine mK_iconst dL_law_541 rfl qic_1 ?_
  refine mK_iadd dL_law_542 rfl ?_
  refine mK_sld dL_law_543 rfl (scr_in1 hi hL) ?_
  show mK Γ M_L_law (d + 38) Q n0 (bc - 2) (bs - 12) 544 [(0, .ref 1300), (1, .ref 0), (2, .ref 26), (3, .ref 59), (4, .int (nI i)), (5, .int k)] [.int (sA1 Γ i), .ref 26] 60 mSH τ'
  refine mK_aload_n dL_law_544 rfl rfl (.head _) ?_
  refine mK_iload dL_law_545 rfl (.tail _ (.tail _ (.tail _ (.tail _ (.head _))))) ?_
  refine mK_iconst dL_law_547 rfl qic_2 ?_
  refine mK_iadd dL_law_548 rfl ?_
  refine mK_sld dL_law_549 rfl (scr_in2 hi hL) ?_
  show mK Γ M_L_law (d + 38) Q n0 (bc - 2) (bs - 12) 550 [(0, .ref 1300), (1, .ref 0), (2, .ref 26), (3, .ref 59), (4, .int (nI i)), (5, .int k)] [.int (sA2 Γ i), .int (sA1 Γ i), .ref 26] 60 mSH τ'
  refine mK_invV (J := M_X9_give) (k := 2) (as := [.int (sA1 Γ i), .int (sA2 Γ i)]) (st := []) (c1 := 0) (s1 := 0) (b := 26) dL_law_550 rfl jw_X9_give jn_X9_give rfl (Nat.le_of_ble_eq_true rfl) (by omega) (by omega) rfl kw_1507 kw_1508 kw_1509 (Nat.le_of_ble_eq_true rfl) (Nat.le_of_ble_eq_true rfl) rfl ?_
  refine mCall_up (d := d + 36) (by omega) (m _ (fun ρ hρ => ?_))
  obtain ⟨hR, hk, h59⟩ := hρ
  show mK Γ M_L_law (d + 38) Q n0 (bc - 2 - 0) (bs - 12 - 0) 553 [(0, .ref 1300), (1, .ref 0), (2, .ref 26), (3, .ref 59), (4, .int (nI i)), (5, .int k)] [.int v] 60 mSH ρ
  refine ru_istore (lv1 := [(0, .ref 1300), (1, .ref 0), (2, .ref 26), (3, .ref 59), (4, .int (nI i)), (5, .int k), (6, .int v)]) dL_law_553 rfl (Nat.le_of_ble_eq_true rfl) rfl ?_
  refine mK_aload_n dL_law_555 rfl rfl (.tail _ (.tail _ (.head _))) ?_
  refine mK_invV (J := M_X9_thrown) (k := 0) (as := []) (st := []) (c1 := 0) (s1 := 0) (b := 26) dL_law_556 rfl jw_X9_thrown jn_X9_thrown rfl (Nat.le_of_ble_eq_true rfl) (by omega) (by omega) rfl kw_1200 kw_1201 kw_1202 (Nat.le_of_ble_eq_true rfl) (Nat.le_of_ble_eq_true rfl) rfl ?_
  refine S_X9_thrown_26 (d := d + 36) ?_
  show mK Γ M_L_law (d + 38) Q n0 (bc - 2 - 0 - 0) (bs - 12 - 0 - 0) 559 [(0, .ref 1300), (1, .ref 0), (2, .ref 26), (3, .ref 59), (4, .int (nI i)), (5, .int k), (6, .int v)] [.int (ρ.1 26 0)] 60 mSH ρ
  refine mK_iload dL_law_559 rfl (.tail _ (.tail _ (.tail _ (.tail _ (.tail _ (.head _)))))) ?_
  refine mK_icmp_eq (tgt := 566) dL_law_561 rfl (by decide) (fun _ => ?_) (fun q => absurd hk q)
  refine mK_iload dL_law_566 rfl (.tail _ (.tail _ (.tail _ (.tail _ (.tail _ (.head _)))))) ?_
  have fin : mK Γ M_L_law (d + 38) Q n0 (bc - 2 - 0 - 0) (bs - 12 - 0 - 0) 583 [(0, .ref 1300), (1, .ref 0), (2, .ref 26), (3, .ref 59), (4, .int (nI i)), (5, .int k), (6, .int v)] [] 60 mSH ρ := by
    refine mK_goto (tgt := 1214) dL_law_583 (by decide) ?_
    exact ru_pick [0, 1, 2, 3, 4] rfl (mK_bud (by omega) (by omega) (K ρ hR))
  refine ru_if_ne (tgt := 583) dL_law_568 rfl (by decide) (fun _ => fin) (fun q => ?_)
  have hx : ρ.2.1 59 0 = v.toInt64 := by rw [h59]; exact e q
  refine mK_aload_n dL_law_571 rfl rfl (.tail _ (.tail _ (.tail _ (.head _)))) ?_
  refine mK_iconst dL_law_572 rfl qic_0 ?_
  refine ru_lald (j := 59) (n := 1) dL_law_573 rfl rfl vin01 ?_
  show mK Γ M_L_law (d + 38) Q n0 (bc - 2 - 0 - 0) (bs - 12 - 0 - 0) 574 [(0, .ref 1300), (1, .ref 0), (2, .ref 26), (3, .ref 59), (4, .int (nI i)), (5, .int k), (6, .int v)] [.long (ρ.2.1 59 0)] 60 mSH ρ
  refine mK_iload dL_law_574 rfl (.tail _ (.tail _ (.tail _ (.tail _ (.tail _ (.tail _ (.head _))))))) ?_
  refine mK_i2l dL_law_576 rfl ?_
  exact ru_lif_eq (tgt := 583) dL_law_577 rfl dL_law_578 rfl (by decide) (fun _ => fin) (fun q => absurd hx q)
set_option maxRecDepth 20000 in
theorem LC_why {Γ : Nat × (Nat → Int32)} {d : Nat} {Q : mQ} {n0 bc bs i : Nat} {σ : mS} (h : Rel σ) (hL : Γ.1 ≤ 3072) (hi : i + 6 ≤ Γ.1) (hb : 130 ≤ bc) (hs : 700 ≤ bs) (K : ∀ ρ, Rel ρ → mK Γ M_L_law (d + 38) Q n0 (bc - 130) (bs - 700) 1214 (lLL i) [] 60 mSH ρ) : mK Γ M_L_law (d + 38) Q n0 bc bs 586 (lLL i) [] 60 mSH σ := by
  refine mK_aload_n dL_law_586 rfl rfl (.tail _ (.head _)) ?_
  refine mK_aload_n dL_law_587 rfl rfl (.head _) ?_
  refine mK_iload dL_law_588 rfl (.tail _ (.tail _ (.tail _ (.tail _ (.head _))))) ?_
  refine mK_iconst dL_law_590 rfl qic_1 ?_
  refine mK_iadd dL_law_591 rfl ?_
  refine mK_sld dL_law_592 rfl (scr_in1 hi hL) ?_
  show mK Γ M_L_law (d + 38) Q n0 bc bs 593 [(0, .ref 1300), (1, .ref 0), (2, .ref 26), (3, .ref 59), (4, .int (nI i))] [.int (sA1 Γ i), .ref 0] 60 mSH σ
  refine mK_aload_n dL_law_593 rfl rfl (.tail _ (.tail _ (.tail _ (.head _)))) ?_
  refine mK_invSH (J := M_L_why) (k := 3) (as := [.ref 0, .int (sA1 Γ i), .ref 59]) (st := []) (c1 := 1) (s1 := 6) dL_law_594 rfl jv_L_why jn_L_why rfl (Nat.le_of_ble_eq_true rfl) (by omega) (by omega) rfl (by decide) kw_988 kw_989 ?_
  refine W_why (d := d + 36) (sA1 Γ i) (mCall_mono (P_why (d := d + 24) h (sA1 Γ i)) (fun o M th τ hq => wr_end hq (fun k v τ' e m => ?_)))
  show mK Γ M_L_law (d + 38) Q n0 (bc - 1) (bs - 6) 597 [(0, .ref 1300), (1, .ref 0), (2, .ref 26), (3, .ref 59), (4, .int (nI i))] [.int k] 60 mSH τ'
  refine ru_istore (lv1 := [(0, .ref 1300), (1, .ref 0), (2, .ref 26), (3, .ref 59), (4, .int (nI i)), (5, .int k)]) dL_law_597 rfl (Nat.le_of_ble_eq_true rfl) rfl ?_
  refine mK_aload_n dL_law_599 rfl rfl (.tail _ (.tail _ (.head _))) ?_
  refine mK_aload_n dL_law_600 rfl rfl (.head _) ?_
  refine mK_iload dL_law_601 rfl (.tail _ (.tail _ (.tail _ (.tail _ (.head _))))) ?_
  refine mK_iconst dL_law_603 rfl qic_1 ?_
  refine mK_iadd dL_law_604 rfl ?_
  refine mK_sld dL_law_605 rfl (scr_in1 hi hL) ?_
  show mK Γ M_L_law (d + 38) Q n0 (bc - 1) (bs - 6) 606 [(0, .ref 1300), (1, .ref 0), (2, .ref 26), (3, .ref 59), (4, .int (nI i)), (5, .int k)] [.int (sA1 Γ i), .ref 26] 60 mSH τ'
  refine mK_invV (J := M_X9_why) (k := 1) (as := [.int (sA1 Γ i)]) (st := []) (c1 := 0) (s1 := 0) (b := 26) dL_law_606 rfl jw_X9_why jn_X9_why rfl (Nat.le_of_ble_eq_true rfl) (by omega) (by omega) rfl kw_1511 kw_1512 kw_1513 (Nat.le_of_ble_eq_true rfl) (Nat.le_of_ble_eq_true rfl) rfl ?_
  refine mCall_up (d := d + 36) (by omega) (m _ (fun ρ hρ => ?_))
  obtain ⟨hR, hk, h59⟩ := hρ
  show mK Γ M_L_law (d + 38) Q n0 (bc - 1 - 0) (bs - 6 - 0) 609 [(0, .ref 1300), (1, .ref 0), (2, .ref 26), (3, .ref 59), (4, .int (nI i)), (5, .int k)] [.int v] 60 mSH ρ
  refine ru_istore (lv1 := [(0, .ref 1300), (1, .ref 0), (2, .ref 26), (3, .ref 59), (4, .int (nI i)), (5, .int k), (6, .int v)]) dL_law_609 rfl (Nat.le_of_ble_eq_true rfl) rfl ?_
  refine mK_aload_n dL_law_611 rfl rfl (.tail _ (.tail _ (.head _))) ?_
  refine mK_invV (J := M_X9_thrown) (k := 0) (as := []) (st := []) (c1 := 0) (s1 := 0) (b := 26) dL_law_612 rfl jw_X9_thrown jn_X9_thrown rfl (Nat.le_of_ble_eq_true rfl) (by omega) (by omega) rfl kw_1200 kw_1201 kw_1202 (Nat.le_of_ble_eq_true rfl) (Nat.le_of_ble_eq_true rfl) rfl ?_
  refine S_X9_thrown_26 (d := d + 36) ?_
  show mK Γ M_L_law (d + 38) Q n0 (bc - 1 - 0 - 0) (bs - 6 - 0 - 0) 615 [(0, .ref 1300), (1, .ref 0), (2, .ref 26), (3, .ref 59), (4, .int (nI i)), (5, .int k), (6, .int v)] [.int (ρ.1 26 0)] 60 mSH ρ
  refine mK_iload dL_law_615 rfl (.tail _ (.tail _ (.tail _ (.tail _ (.tail _ (.head _)))))) ?_
  refine mK_icmp_eq (tgt := 622) dL_law_617 rfl (by decide) (fun _ => ?_) (fun q => absurd hk q)
  refine mK_iload dL_law_622 rfl (.tail _ (.tail _ (.tail _ (.tail _ (.tail _ (.head _)))))) ?_
  have fin : mK Γ M_L_law (d + 38) Q n0 (bc - 1 - 0 - 0) (bs - 6 - 0 - 0) 639 [(0, .ref 1300), (1, .ref 0), (2, .ref 26), (3, .ref 59), (4, .int (nI i)), (5, .int k), (6, .int v)] [] 60 mSH ρ := by
    refine mK_goto (tgt := 1214) dL_law_639 (by decide) ?_
    exact ru_pick [0, 1, 2, 3, 4] rfl (mK_bud (by omega) (by omega) (K ρ hR))
  refine ru_if_ne (tgt := 639) dL_law_624 rfl (by decide) (fun _ => fin) (fun q => ?_)
  have hx : ρ.2.1 59 0 = v.toInt64 := by rw [h59]; exact e q
  refine mK_aload_n dL_law_627 rfl rfl (.tail _ (.tail _ (.tail _ (.head _)))) ?_
  refine mK_iconst dL_law_628 rfl qic_0 ?_
  refine ru_lald (j := 59) (n := 1) dL_law_629 rfl rfl vin01 ?_
  show mK Γ M_L_law (d + 38) Q n0 (bc - 1 - 0 - 0) (bs - 6 - 0 - 0) 630 [(0, .ref 1300), (1, .ref 0), (2, .ref 26), (3, .ref 59), (4, .int (nI i)), (5, .int k), (6, .int v)] [.long (ρ.2.1 59 0)] 60 mSH ρ
  refine mK_iload dL_law_630 rfl (.tail _ (.tail _ (.tail _ (.tail _ (.tail _ (.tail _ (.head _))))))) ?_
  refine mK_i2l dL_law_632 rfl ?_
  exact ru_lif_eq (tgt := 639) dL_law_633 rfl dL_law_634 rfl (by decide) (fun _ => fin) (fun q => absurd hx q)
set_option maxRecDepth 20000 in
theorem LC_far {Γ : Nat × (Nat → Int32)} {d : Nat} {Q : mQ} {n0 bc bs i : Nat} {σ : mS} (h : Rel σ) (hL : Γ.1 ≤ 3072) (hi : i + 6 ≤ Γ.1) (hb : 130 ≤ bc) (hs : 700 ≤ bs) (K : ∀ ρ, Rel ρ → mK Γ M_L_law (d + 38) Q n0 (bc - 130) (bs - 700) 1214 (lLL i) [] 60 mSH ρ) : mK Γ M_L_law (d + 38) Q n0 bc bs 642 (lLL i) [] 60 mSH σ := by
  refine mK_aload_n dL_law_642 rfl rfl (.tail _ (.head _)) ?_
  refine mK_aload_n dL_law_643 rfl rfl (.head _) ?_
  refine mK_iload dL_law_644 rfl (.tail _ (.tail _ (.tail _ (.tail _ (.head _))))) ?_
  refine mK_iconst dL_law_646 rfl qic_1 ?_
  refine mK_iadd dL_law_647 rfl ?_
  refine mK_sld dL_law_648 rfl (scr_in1 hi hL) ?_
  show mK Γ M_L_law (d + 38) Q n0 bc bs 649 [(0, .ref 1300), (1, .ref 0), (2, .ref 26), (3, .ref 59), (4, .int (nI i))] [.int (sA1 Γ i), .ref 0] 60 mSH σ
  refine mK_aload_n dL_law_649 rfl rfl (.tail _ (.tail _ (.tail _ (.head _)))) ?_
  refine mK_invSH (J := M_L_far) (k := 3) (as := [.ref 0, .int (sA1 Γ i), .ref 59]) (st := []) (c1 := 1) (s1 := 6) dL_law_650 rfl jv_L_far jn_L_far rfl (Nat.le_of_ble_eq_true rfl) (by omega) (by omega) rfl (by decide) kw_992 kw_993 ?_
  refine W_far (d := d + 36) (sA1 Γ i) (mCall_mono (P_far (d := d + 24) h (sA1 Γ i)) (fun o M th τ hq => wr_end hq (fun k v τ' e m => ?_)))
  show mK Γ M_L_law (d + 38) Q n0 (bc - 1) (bs - 6) 653 [(0, .ref 1300), (1, .ref 0), (2, .ref 26), (3, .ref 59), (4, .int (nI i))] [.int k] 60 mSH τ'
  refine ru_istore (lv1 := [(0, .ref 1300), (1, .ref 0), (2, .ref 26), (3, .ref 59), (4, .int (nI i)), (5, .int k)]) dL_law_653 rfl (Nat.le_of_ble_eq_true rfl) rfl ?_
  refine mK_aload_n dL_law_655 rfl rfl (.tail _ (.tail _ (.head _))) ?_
  refine mK_aload_n dL_law_656 rfl rfl (.head _) ?_
  refine mK_iload dL_law_657 rfl (.tail _ (.tail _ (.tail _ (.tail _ (.head _))))) ?_
  refine mK_iconst dL_law_659 rfl qic_1 ?_
  refine mK_iadd dL_law_660 rfl ?_
  refine mK_sld dL_law_661 rfl (scr_in1 hi hL) ?_
  show mK Γ M_L_law (d + 38) Q n0 (bc - 1) (bs - 6) 662 [(0, .ref 1300), (1, .ref 0), (2, .ref 26), (3, .ref 59), (4, .int (nI i)), (5, .int k)] [.int (sA1 Γ i), .ref 26] 60 mSH τ'
  refine mK_invV (J := M_X9_far) (k := 1) (as := [.int (sA1 Γ i)]) (st := []) (c1 := 0) (s1 := 0) (b := 26) dL_law_662 rfl jw_X9_far jn_X9_far rfl (Nat.le_of_ble_eq_true rfl) (by omega) (by omega) rfl kw_1519 kw_1520 kw_1521 (Nat.le_of_ble_eq_true rfl) (Nat.le_of_ble_eq_true rfl) rfl ?_
  refine mCall_up (d := d + 36) (by omega) (m _ (fun ρ hρ => ?_))
  obtain ⟨hR, hk, h59⟩ := hρ
  show mK Γ M_L_law (d + 38) Q n0 (bc - 1 - 0) (bs - 6 - 0) 665 [(0, .ref 1300), (1, .ref 0), (2, .ref 26), (3, .ref 59), (4, .int (nI i)), (5, .int k)] [.int v] 60 mSH ρ
  refine ru_istore (lv1 := [(0, .ref 1300), (1, .ref 0), (2, .ref 26), (3, .ref 59), (4, .int (nI i)), (5, .int k), (6, .int v)]) dL_law_665 rfl (Nat.le_of_ble_eq_true rfl) rfl ?_
  refine mK_aload_n dL_law_667 rfl rfl (.tail _ (.tail _ (.head _))) ?_
  refine mK_invV (J := M_X9_thrown) (k := 0) (as := []) (st := []) (c1 := 0) (s1 := 0) (b := 26) dL_law_668 rfl jw_X9_thrown jn_X9_thrown rfl (Nat.le_of_ble_eq_true rfl) (by omega) (by omega) rfl kw_1200 kw_1201 kw_1202 (Nat.le_of_ble_eq_true rfl) (Nat.le_of_ble_eq_true rfl) rfl ?_
  refine S_X9_thrown_26 (d := d + 36) ?_
  show mK Γ M_L_law (d + 38) Q n0 (bc - 1 - 0 - 0) (bs - 6 - 0 - 0) 671 [(0, .ref 1300), (1, .ref 0), (2, .ref 26), (3, .ref 59), (4, .int (nI i)), (5, .int k), (6, .int v)] [.int (ρ.1 26 0)] 60 mSH ρ
  refine mK_iload dL_law_671 rfl (.tail _ (.tail _ (.tail _ (.tail _ (.tail _ (.head _)))))) ?_
  refine mK_icmp_eq (tgt := 678) dL_law_673 rfl (by decide) (fun _ => ?_) (fun q => absurd hk q)
  refine mK_iload dL_law_678 rfl (.tail _ (.tail _ (.tail _ (.tail _ (.tail _ (.head _)))))) ?_
  have fin : mK Γ M_L_law (d + 38) Q n0 (bc - 1 - 0 - 0) (bs - 6 - 0 - 0) 695 [(0, .ref 1300), (1, .ref 0), (2, .ref 26), (3, .ref 59), (4, .int (nI i)), (5, .int k), (6, .int v)] [] 60 mSH ρ := by
    refine mK_goto (tgt := 1214) dL_law_695 (by decide) ?_
    exact ru_pick [0, 1, 2, 3, 4] rfl (mK_bud (by omega) (by omega) (K ρ hR))
  refine ru_if_ne (tgt := 695) dL_law_680 rfl (by decide) (fun _ => fin) (fun q => ?_)
  have hx : ρ.2.1 59 0 = v.toInt64 := by rw [h59]; exact e q
  refine mK_aload_n dL_law_683 rfl rfl (.tail _ (.tail _ (.tail _ (.head _)))) ?_
  refine mK_iconst dL_law_684 rfl qic_0 ?_
  refine ru_lald (j := 59) (n := 1) dL_law_685 rfl rfl vin01 ?_
  show mK Γ M_L_law (d + 38) Q n0 (bc - 1 - 0 - 0) (bs - 6 - 0 - 0) 686 [(0, .ref 1300), (1, .ref 0), (2, .ref 26), (3, .ref 59), (4, .int (nI i)), (5, .int k), (6, .int v)] [.long (ρ.2.1 59 0)] 60 mSH ρ
  refine mK_iload dL_law_686 rfl (.tail _ (.tail _ (.tail _ (.tail _ (.tail _ (.tail _ (.head _))))))) ?_
  refine mK_i2l dL_law_688 rfl ?_
  exact ru_lif_eq (tgt := 695) dL_law_689 rfl dL_law_690 rfl (by decide) (fun _ => fin) (fun q => absurd hx q)
set_option maxRecDepth 20000 in
theorem LC_defends {Γ : Nat × (Nat → Int32)} {d : Nat} {Q : mQ} {n0 bc bs i : Nat} {σ : mS} (h : Rel σ) (hL : Γ.1 ≤ 3072) (hi : i + 6 ≤ Γ.1) (hb : 130 ≤ bc) (hs : 700 ≤ bs) (K : ∀ ρ, Rel ρ → mK Γ M_L_law (d + 38) Q n0 (bc - 130) (bs - 700) 1214 (lLL i) [] 60 mSH ρ) : mK Γ M_L_law (d + 38) Q n0 bc bs 698 (lLL i) [] 60 mSH σ := by
  refine mK_aload_n dL_law_698 rfl rfl (.tail _ (.head _)) ?_
  refine mK_aload_n dL_law_699 rfl rfl (.head _) ?_
  refine mK_iload dL_law_700 rfl (.tail _ (.tail _ (.tail _ (.tail _ (.head _))))) ?_
  refine mK_iconst dL_law_702 rfl qic_1 ?_
  refine mK_iadd dL_law_703 rfl ?_
  refine mK_sld dL_law_704 rfl (scr_in1 hi hL) ?_
  show mK Γ M_L_law (d + 38) Q n0 bc bs 705 [(0, .ref 1300), (1, .ref 0), (2, .ref 26), (3, .ref 59), (4, .int (nI i))] [.int (sA1 Γ i), .ref 0] 60 mSH σ
  refine mK_aload_n dL_law_705 rfl rfl (.head _) ?_
  refine mK_iload dL_law_706 rfl (.tail _ (.tail _ (.tail _ (.tail _ (.head _))))) ?_
  refine mK_iconst dL_law_708 rfl qic_2 ?_
  refine mK_iadd dL_law_709 rfl ?_
  refine mK_sld dL_law_710 rfl (scr_in2 hi hL) ?_
  show mK Γ M_L_law (d + 38) Q n0 bc bs 711 [(0, .ref 1300), (1, .ref 0), (2, .ref 26), (3, .ref 59), (4, .int (nI i))] [.int (sA2 Γ i), .int (sA1 Γ i), .ref 0] 60 mSH σ
  refine mK_aload_n dL_law_711 rfl rfl (.tail _ (.tail _ (.tail _ (.head _)))) ?_
  refine mK_invSH (J := M_L_defends) (k := 4) (as := [.ref 0, .int (sA1 Γ i), .int (sA2 Γ i), .ref 59]) (st := []) (c1 := 2) (s1 := 12) dL_law_712 rfl jv_L_defends jn_L_defends rfl (Nat.le_of_ble_eq_true rfl) (by omega) (by omega) rfl (by decide) kw_996 kw_997 ?_
  refine W_defends (d := d + 36) (sA1 Γ i) (sA2 Γ i) (mCall_mono (P_defends (d := d + 24) h (sA1 Γ i) (sA2 Γ i)) (fun o M th τ hq => wr_endb hq (fun k v τ' e m => ?_)))
  show mK Γ M_L_law (d + 38) Q n0 (bc - 2) (bs - 12) 715 [(0, .ref 1300), (1, .ref 0), (2, .ref 26), (3, .ref 59), (4, .int (nI i))] [.int k] 60 mSH τ'
  refine ru_istore (lv1 := [(0, .ref 1300), (1, .ref 0), (2, .ref 26), (3, .ref 59), (4, .int (nI i)), (5, .int k)]) dL_law_715 rfl (Nat.le_of_ble_eq_true rfl) rfl ?_
  refine mK_aload_n dL_law_717 rfl rfl (.tail _ (.tail _ (.head _))) ?_
  refine mK_aload_n dL_law_718 rfl rfl (.head _) ?_
  refine mK_iload dL_law_719 rfl (.tail _ (.tail _ (.tail _ (.tail _ (.head _))))) ?_
  refine mK_iconst dL_law_721 rfl qic_1 ?_
  refine mK_iadd dL_law_722 rfl ?_
  refine mK_sld dL_law_723 rfl (scr_in1 hi hL) ?_
  show mK Γ M_L_law (d + 38) Q n0 (bc - 2) (bs - 12) 724 [(0, .ref 1300), (1, .ref 0), (2, .ref 26), (3, .ref 59), (4, .int (nI i)), (5, .int k)] [.int (sA1 Γ i), .ref 26] 60 mSH τ'
  refine mK_aload_n dL_law_724 rfl rfl (.head _) ?_
  refine mK_iload dL_law_725 rfl (.tail _ (.tail _ (.tail _ (.tail _ (.head _))))) ?_
  refine mK_iconst dL_law_727 rfl qic_2 ?_
  refine mK_iadd dL_law_728 rfl ?_
  refine mK_sld dL_law_729 rfl (scr_in2 hi hL) ?_
  show mK Γ M_L_law (d + 38) Q n0 (bc - 2) (bs - 12) 730 [(0, .ref 1300), (1, .ref 0), (2, .ref 26), (3, .ref 59), (4, .int (nI i)), (5, .int k)] [.int (sA2 Γ i), .int (sA1 Γ i), .ref 26] 60 mSH τ'
  refine mK_invV (J := M_X9_defends) (k := 2) (as := [.int (sA1 Γ i), .int (sA2 Γ i)]) (st := []) (c1 := 0) (s1 := 0) (b := 26) dL_law_730 rfl jw_X9_defends jn_X9_defends rfl (Nat.le_of_ble_eq_true rfl) (by omega) (by omega) rfl kw_1527 kw_1528 kw_1529 (Nat.le_of_ble_eq_true rfl) (Nat.le_of_ble_eq_true rfl) rfl ?_
  refine mCall_up (d := d + 36) (by omega) (m _ (fun ρ hρ => ?_))
  obtain ⟨hR, hk, h59⟩ := hρ
  show mK Γ M_L_law (d + 38) Q n0 (bc - 2 - 0) (bs - 12 - 0) 733 [(0, .ref 1300), (1, .ref 0), (2, .ref 26), (3, .ref 59), (4, .int (nI i)), (5, .int k)] [.int v] 60 mSH ρ
  refine ru_istore (lv1 := [(0, .ref 1300), (1, .ref 0), (2, .ref 26), (3, .ref 59), (4, .int (nI i)), (5, .int k), (6, .int v)]) dL_law_733 rfl (Nat.le_of_ble_eq_true rfl) rfl ?_
  refine mK_aload_n dL_law_735 rfl rfl (.tail _ (.tail _ (.head _))) ?_
  refine mK_invV (J := M_X9_thrown) (k := 0) (as := []) (st := []) (c1 := 0) (s1 := 0) (b := 26) dL_law_736 rfl jw_X9_thrown jn_X9_thrown rfl (Nat.le_of_ble_eq_true rfl) (by omega) (by omega) rfl kw_1200 kw_1201 kw_1202 (Nat.le_of_ble_eq_true rfl) (Nat.le_of_ble_eq_true rfl) rfl ?_
  refine S_X9_thrown_26 (d := d + 36) ?_
  show mK Γ M_L_law (d + 38) Q n0 (bc - 2 - 0 - 0) (bs - 12 - 0 - 0) 739 [(0, .ref 1300), (1, .ref 0), (2, .ref 26), (3, .ref 59), (4, .int (nI i)), (5, .int k), (6, .int v)] [.int (ρ.1 26 0)] 60 mSH ρ
  refine mK_iload dL_law_739 rfl (.tail _ (.tail _ (.tail _ (.tail _ (.tail _ (.head _)))))) ?_
  refine mK_icmp_eq (tgt := 746) dL_law_741 rfl (by decide) (fun _ => ?_) (fun q => absurd hk q)
  refine mK_iload dL_law_746 rfl (.tail _ (.tail _ (.tail _ (.tail _ (.tail _ (.head _)))))) ?_
  have fin : mK Γ M_L_law (d + 38) Q n0 (bc - 2 - 0 - 0) (bs - 12 - 0 - 0) 770 [(0, .ref 1300), (1, .ref 0), (2, .ref 26), (3, .ref 59), (4, .int (nI i)), (5, .int k), (6, .int v)] [] 60 mSH ρ := by
    refine mK_goto (tgt := 1214) dL_law_770 (by decide) ?_
    exact ru_pick [0, 1, 2, 3, 4] rfl (mK_bud (by omega) (by omega) (K ρ hR))
  refine ru_if_ne (tgt := 770) dL_law_748 rfl (by decide) (fun _ => fin) (fun q => ?_)
  have hx : ρ.2.1 59 0 = if v = 0 then 0 else 1 := by rw [h59]; exact e q
  refine mK_aload_n dL_law_751 rfl rfl (.tail _ (.tail _ (.tail _ (.head _)))) ?_
  refine mK_iconst dL_law_752 rfl qic_0 ?_
  refine ru_lald (j := 59) (n := 1) dL_law_753 rfl rfl vin01 ?_
  show mK Γ M_L_law (d + 38) Q n0 (bc - 2 - 0 - 0) (bs - 12 - 0 - 0) 754 [(0, .ref 1300), (1, .ref 0), (2, .ref 26), (3, .ref 59), (4, .int (nI i)), (5, .int k), (6, .int v)] [.long (ρ.2.1 59 0)] 60 mSH ρ
  refine mK_iload dL_law_754 rfl (.tail _ (.tail _ (.tail _ (.tail _ (.tail _ (.tail _ (.head _))))))) ?_
  refine mK_if_eq (tgt := 763) dL_law_756 rfl (by decide) (fun z => ?_) (fun z => ?_)
  · refine mK_lconst dL_law_763 rfl (v := 0) (by decide) ?_
    exact ru_lif_eq (tgt := 770) dL_law_764 rfl dL_law_765 rfl (by decide) (fun _ => fin) (fun q => absurd (hx.trans (if_pos z)) q)
  · refine mK_lconst dL_law_759 rfl (v := 1) (by decide) ?_
    refine mK_goto (tgt := 764) dL_law_760 (by decide) ?_
    exact ru_lif_eq (tgt := 770) dL_law_764 rfl dL_law_765 rfl (by decide) (fun _ => fin) (fun q => absurd (hx.trans (if_neg z)) q)
set_option maxRecDepth 20000 in
theorem LC_conceding {Γ : Nat × (Nat → Int32)} {d : Nat} {Q : mQ} {n0 bc bs i : Nat} {σ : mS} (h : Rel σ) (hL : Γ.1 ≤ 3072) (hi : i + 6 ≤ Γ.1) (hb : 130 ≤ bc) (hs : 700 ≤ bs) (K : ∀ ρ, Rel ρ → mK Γ M_L_law (d + 38) Q n0 (bc - 130) (bs - 700) 1214 (lLL i) [] 60 mSH ρ) : mK Γ M_L_law (d + 38) Q n0 bc bs 786 (lLL i) [] 60 mSH σ := by
  refine mK_aload_n dL_law_786 rfl rfl (.tail _ (.head _)) ?_
  refine mK_aload_n dL_law_787 rfl rfl (.head _) ?_
  refine mK_iload dL_law_788 rfl (.tail _ (.tail _ (.tail _ (.tail _ (.head _))))) ?_
  refine mK_iconst dL_law_790 rfl qic_1 ?_
  refine mK_iadd dL_law_791 rfl ?_
  refine mK_sld dL_law_792 rfl (scr_in1 hi hL) ?_
  show mK Γ M_L_law (d + 38) Q n0 bc bs 793 [(0, .ref 1300), (1, .ref 0), (2, .ref 26), (3, .ref 59), (4, .int (nI i))] [.int (sA1 Γ i), .ref 0] 60 mSH σ
  refine mK_aload_n dL_law_793 rfl rfl (.head _) ?_
  refine mK_iload dL_law_794 rfl (.tail _ (.tail _ (.tail _ (.tail _ (.head _))))) ?_
  refine mK_iconst dL_law_796 rfl qic_2 ?_
  refine mK_iadd dL_law_797 rfl ?_
  refine mK_sld dL_law_798 rfl (scr_in2 hi hL) ?_
  show mK Γ M_L_law (d + 38) Q n0 bc bs 799 [(0, .ref 1300), (1, .ref 0), (2, .ref 26), (3, .ref 59), (4, .int (nI i))] [.int (sA2 Γ i), .int (sA1 Γ i), .ref 0] 60 mSH σ
  refine mK_aload_n dL_law_799 rfl rfl (.tail _ (.tail _ (.tail _ (.head _)))) ?_
  refine mK_invSH (J := M_L_conceding) (k := 4) (as := [.ref 0, .int (sA1 Γ i), .int (sA2 Γ i), .ref 59]) (st := []) (c1 := 2) (s1 := 12) dL_law_800 rfl jv_L_conceding jn_L_conceding rfl (Nat.le_of_ble_eq_true rfl) (by omega) (by omega) rfl (by decide) kw_1003 kw_1004 ?_
  refine W_conceding (d := d + 36) (sA1 Γ i) (sA2 Γ i) (mCall_mono (P_conceding (d := d + 24) h (sA1 Γ i) (sA2 Γ i)) (fun o M th τ hq => wr_end hq (fun k v τ' e m => ?_)))
  show mK Γ M_L_law (d + 38) Q n0 (bc - 2) (bs - 12) 803 [(0, .ref 1300), (1, .ref 0), (2, .ref 26), (3, .ref 59), (4, .int (nI i))] [.int k] 60 mSH τ'
  refine ru_istore (lv1 := [(0, .ref 1300), (1, .ref 0), (2, .ref 26), (3, .ref 59), (4, .int (nI i)), (5, .int k)]) dL_law_803 rfl (Nat.le_of_ble_eq_true rfl) rfl ?_
  refine mK_aload_n dL_law_805 rfl rfl (.tail _ (.tail _ (.head _))) ?_
  refine mK_aload_n dL_law_806 rfl rfl (.head _) ?_
  refine mK_iload dL_law_807 rfl (.tail _ (.tail _ (.tail _ (.tail _ (.head _))))) ?_
  refine mK_iconst dL_law_809 rfl qic_1 ?_
  refine mK_iadd dL_law_810 rfl ?_
  refine mK_sld dL_law_811 rfl (scr_in1 hi hL) ?_
  show mK Γ M_L_law (d + 38) Q n0 (bc - 2) (bs - 12) 812 [(0, .ref 1300), (1, .ref 0), (2, .ref 26), (3, .ref 59), (4, .int (nI i)), (5, .int k)] [.int (sA1 Γ i), .ref 26] 60 mSH τ'
  refine mK_aload_n dL_law_812 rfl rfl (.head _) ?_
  refine mK_iload dL_law_813 rfl (.tail _ (.tail _ (.tail _ (.tail _ (.head _))))) ?_
  refine mK_iconst dL_law_815 rfl qic_2 ?_
  refine mK_iadd dL_law_816 rfl ?_
  refine mK_sld dL_law_817 rfl (scr_in2 hi hL) ?_
  show mK Γ M_L_law (d + 38) Q n0 (bc - 2) (bs - 12) 818 [(0, .ref 1300), (1, .ref 0), (2, .ref 26), (3, .ref 59), (4, .int (nI i)), (5, .int k)] [.int (sA2 Γ i), .int (sA1 Γ i), .ref 26] 60 mSH τ'
  refine mK_invV (J := M_X9_conceding) (k := 2) (as := [.int (sA1 Γ i), .int (sA2 Γ i)]) (st := []) (c1 := 0) (s1 := 0) (b := 26) dL_law_818 rfl jw_X9_conceding jn_X9_conceding rfl (Nat.le_of_ble_eq_true rfl) (by omega) (by omega) rfl kw_1535 kw_1536 kw_1537 (Nat.le_of_ble_eq_true rfl) (Nat.le_of_ble_eq_true rfl) rfl ?_
  refine mCall_up (d := d + 36) (by omega) (m _ (fun ρ hρ => ?_))
  obtain ⟨hR, hk, h59⟩ := hρ
  show mK Γ M_L_law (d + 38) Q n0 (bc - 2 - 0) (bs - 12 - 0) 821 [(0, .ref 1300), (1, .ref 0), (2, .ref 26), (3, .ref 59), (4, .int (nI i)), (5, .int k)] [.int v] 60 mSH ρ
  refine ru_istore (lv1 := [(0, .ref 1300), (1, .ref 0), (2, .ref 26), (3, .ref 59), (4, .int (nI i)), (5, .int k), (6, .int v)]) dL_law_821 rfl (Nat.le_of_ble_eq_true rfl) rfl ?_
  refine mK_aload_n dL_law_823 rfl rfl (.tail _ (.tail _ (.head _))) ?_
  refine mK_invV (J := M_X9_thrown) (k := 0) (as := []) (st := []) (c1 := 0) (s1 := 0) (b := 26) dL_law_824 rfl jw_X9_thrown jn_X9_thrown rfl (Nat.le_of_ble_eq_true rfl) (by omega) (by omega) rfl kw_1200 kw_1201 kw_1202 (Nat.le_of_ble_eq_true rfl) (Nat.le_of_ble_eq_true rfl) rfl ?_
  refine S_X9_thrown_26 (d := d + 36) ?_
  show mK Γ M_L_law (d + 38) Q n0 (bc - 2 - 0 - 0) (bs - 12 - 0 - 0) 827 [(0, .ref 1300), (1, .ref 0), (2, .ref 26), (3, .ref 59), (4, .int (nI i)), (5, .int k), (6, .int v)] [.int (ρ.1 26 0)] 60 mSH ρ
  refine mK_iload dL_law_827 rfl (.tail _ (.tail _ (.tail _ (.tail _ (.tail _ (.head _)))))) ?_
  refine mK_icmp_eq (tgt := 834) dL_law_829 rfl (by decide) (fun _ => ?_) (fun q => absurd hk q)
  refine mK_iload dL_law_834 rfl (.tail _ (.tail _ (.tail _ (.tail _ (.tail _ (.head _)))))) ?_
  have fin : mK Γ M_L_law (d + 38) Q n0 (bc - 2 - 0 - 0) (bs - 12 - 0 - 0) 851 [(0, .ref 1300), (1, .ref 0), (2, .ref 26), (3, .ref 59), (4, .int (nI i)), (5, .int k), (6, .int v)] [] 60 mSH ρ := by
    refine mK_goto (tgt := 1214) dL_law_851 (by decide) ?_
    exact ru_pick [0, 1, 2, 3, 4] rfl (mK_bud (by omega) (by omega) (K ρ hR))
  refine ru_if_ne (tgt := 851) dL_law_836 rfl (by decide) (fun _ => fin) (fun q => ?_)
  have hx : ρ.2.1 59 0 = v.toInt64 := by rw [h59]; exact e q
  refine mK_aload_n dL_law_839 rfl rfl (.tail _ (.tail _ (.tail _ (.head _)))) ?_
  refine mK_iconst dL_law_840 rfl qic_0 ?_
  refine ru_lald (j := 59) (n := 1) dL_law_841 rfl rfl vin01 ?_
  show mK Γ M_L_law (d + 38) Q n0 (bc - 2 - 0 - 0) (bs - 12 - 0 - 0) 842 [(0, .ref 1300), (1, .ref 0), (2, .ref 26), (3, .ref 59), (4, .int (nI i)), (5, .int k), (6, .int v)] [.long (ρ.2.1 59 0)] 60 mSH ρ
  refine mK_iload dL_law_842 rfl (.tail _ (.tail _ (.tail _ (.tail _ (.tail _ (.tail _ (.head _))))))) ?_
  refine mK_i2l dL_law_844 rfl ?_
  exact ru_lif_eq (tgt := 851) dL_law_845 rfl dL_law_846 rfl (by decide) (fun _ => fin) (fun q => absurd hx q)
set_option maxRecDepth 20000 in
theorem LC_concede {Γ : Nat × (Nat → Int32)} {d : Nat} {Q : mQ} {n0 bc bs i : Nat} {σ : mS} (h : Rel σ) (hL : Γ.1 ≤ 3072) (hi : i + 6 ≤ Γ.1) (hb : 130 ≤ bc) (hs : 700 ≤ bs) (K : ∀ ρ, Rel ρ → mK Γ M_L_law (d + 38) Q n0 (bc - 130) (bs - 700) 1214 (lLL i) [] 60 mSH ρ) : mK Γ M_L_law (d + 38) Q n0 bc bs 854 (lLL i) [] 60 mSH σ := by
  refine mK_aload_n dL_law_854 rfl rfl (.tail _ (.head _)) ?_
  refine mK_aload_n dL_law_855 rfl rfl (.head _) ?_
  refine mK_iload dL_law_856 rfl (.tail _ (.tail _ (.tail _ (.tail _ (.head _))))) ?_
  refine mK_iconst dL_law_858 rfl qic_1 ?_
  refine mK_iadd dL_law_859 rfl ?_
  refine mK_sld dL_law_860 rfl (scr_in1 hi hL) ?_
  show mK Γ M_L_law (d + 38) Q n0 bc bs 861 [(0, .ref 1300), (1, .ref 0), (2, .ref 26), (3, .ref 59), (4, .int (nI i))] [.int (sA1 Γ i), .ref 0] 60 mSH σ
  refine mK_aload_n dL_law_861 rfl rfl (.tail _ (.tail _ (.tail _ (.head _)))) ?_
  refine mK_invSH (J := M_L_concede) (k := 3) (as := [.ref 0, .int (sA1 Γ i), .ref 59]) (st := []) (c1 := 1) (s1 := 6) dL_law_862 rfl jv_L_concede jn_L_concede rfl (Nat.le_of_ble_eq_true rfl) (by omega) (by omega) rfl (by decide) kw_1011 kw_1012 ?_
  refine W_concede (d := d + 36) (sA1 Γ i) (mCall_mono (P_concede (d := d + 24) h (sA1 Γ i)) (fun o M th τ hq => wr_end hq (fun k v τ' e m => ?_)))
  show mK Γ M_L_law (d + 38) Q n0 (bc - 1) (bs - 6) 865 [(0, .ref 1300), (1, .ref 0), (2, .ref 26), (3, .ref 59), (4, .int (nI i))] [.int k] 60 mSH τ'
  refine ru_istore (lv1 := [(0, .ref 1300), (1, .ref 0), (2, .ref 26), (3, .ref 59), (4, .int (nI i)), (5, .int k)]) dL_law_865 rfl (Nat.le_of_ble_eq_true rfl) rfl ?_
  refine mK_aload_n dL_law_867 rfl rfl (.tail _ (.tail _ (.head _))) ?_
  refine mK_aload_n dL_law_868 rfl rfl (.head _) ?_
  refine mK_iload dL_law_869 rfl (.tail _ (.tail _ (.tail _ (.tail _ (.head _))))) ?_
  refine mK_iconst dL_law_871 rfl qic_1 ?_
  refine mK_iadd dL_law_872 rfl ?_
  refine mK_sld dL_law_873 rfl (scr_in1 hi hL) ?_
  show mK Γ M_L_law (d + 38) Q n0 (bc - 1) (bs - 6) 874 [(0, .ref 1300), (1, .ref 0), (2, .ref 26), (3, .ref 59), (4, .int (nI i)), (5, .int k)] [.int (sA1 Γ i), .ref 26] 60 mSH τ'
  refine mK_invV (J := M_X9_concede) (k := 1) (as := [.int (sA1 Γ i)]) (st := []) (c1 := 0) (s1 := 0) (b := 26) dL_law_874 rfl jw_X9_concede jn_X9_concede rfl (Nat.le_of_ble_eq_true rfl) (by omega) (by omega) rfl kw_1543 kw_1544 kw_1545 (Nat.le_of_ble_eq_true rfl) (Nat.le_of_ble_eq_true rfl) rfl ?_
  refine mCall_up (d := d + 36) (by omega) (m _ (fun ρ hρ => ?_))
  obtain ⟨hR, hk, h59⟩ := hρ
  show mK Γ M_L_law (d + 38) Q n0 (bc - 1 - 0) (bs - 6 - 0) 877 [(0, .ref 1300), (1, .ref 0), (2, .ref 26), (3, .ref 59), (4, .int (nI i)), (5, .int k)] [.int v] 60 mSH ρ
  refine ru_istore (lv1 := [(0, .ref 1300), (1, .ref 0), (2, .ref 26), (3, .ref 59), (4, .int (nI i)), (5, .int k), (6, .int v)]) dL_law_877 rfl (Nat.le_of_ble_eq_true rfl) rfl ?_
  refine mK_aload_n dL_law_879 rfl rfl (.tail _ (.tail _ (.head _))) ?_
  refine mK_invV (J := M_X9_thrown) (k := 0) (as := []) (st := []) (c1 := 0) (s1 := 0) (b := 26) dL_law_880 rfl jw_X9_thrown jn_X9_thrown rfl (Nat.le_of_ble_eq_true rfl) (by omega) (by omega) rfl kw_1200 kw_1201 kw_1202 (Nat.le_of_ble_eq_true rfl) (Nat.le_of_ble_eq_true rfl) rfl ?_
  refine S_X9_thrown_26 (d := d + 36) ?_
  show mK Γ M_L_law (d + 38) Q n0 (bc - 1 - 0 - 0) (bs - 6 - 0 - 0) 883 [(0, .ref 1300), (1, .ref 0), (2, .ref 26), (3, .ref 59), (4, .int (nI i)), (5, .int k), (6, .int v)] [.int (ρ.1 26 0)] 60 mSH ρ
  refine mK_iload dL_law_883 rfl (.tail _ (.tail _ (.tail _ (.tail _ (.tail _ (.head _)))))) ?_
  refine mK_icmp_eq (tgt := 890) dL_law_885 rfl (by decide) (fun _ => ?_) (fun q => absurd hk q)
  refine mK_iload dL_law_890 rfl (.tail _ (.tail _ (.tail _ (.tail _ (.tail _ (.head _)))))) ?_
  have fin : mK Γ M_L_law (d + 38) Q n0 (bc - 1 - 0 - 0) (bs - 6 - 0 - 0) 907 [(0, .ref 1300), (1, .ref 0), (2, .ref 26), (3, .ref 59), (4, .int (nI i)), (5, .int k), (6, .int v)] [] 60 mSH ρ := by
    refine mK_goto (tgt := 1214) dL_law_907 (by decide) ?_
    exact ru_pick [0, 1, 2, 3, 4] rfl (mK_bud (by omega) (by omega) (K ρ hR))
  refine ru_if_ne (tgt := 907) dL_law_892 rfl (by decide) (fun _ => fin) (fun q => ?_)
  have hx : ρ.2.1 59 0 = v.toInt64 := by rw [h59]; exact e q
  refine mK_aload_n dL_law_895 rfl rfl (.tail _ (.tail _ (.tail _ (.head _)))) ?_
  refine mK_iconst dL_law_896 rfl qic_0 ?_
  refine ru_lald (j := 59) (n := 1) dL_law_897 rfl rfl vin01 ?_
  show mK Γ M_L_law (d + 38) Q n0 (bc - 1 - 0 - 0) (bs - 6 - 0 - 0) 898 [(0, .ref 1300), (1, .ref 0), (2, .ref 26), (3, .ref 59), (4, .int (nI i)), (5, .int k), (6, .int v)] [.long (ρ.2.1 59 0)] 60 mSH ρ
  refine mK_iload dL_law_898 rfl (.tail _ (.tail _ (.tail _ (.tail _ (.tail _ (.tail _ (.head _))))))) ?_
  refine mK_i2l dL_law_900 rfl ?_
  exact ru_lif_eq (tgt := 907) dL_law_901 rfl dL_law_902 rfl (by decide) (fun _ => fin) (fun q => absurd hx q)
set_option maxRecDepth 20000 in
theorem LC_leader {Γ : Nat × (Nat → Int32)} {d : Nat} {Q : mQ} {n0 bc bs i : Nat} {σ : mS} (h : Rel σ) (hL : Γ.1 ≤ 3072) (hi : i + 6 ≤ Γ.1) (hb : 130 ≤ bc) (hs : 700 ≤ bs) (K : ∀ ρ, Rel ρ → mK Γ M_L_law (d + 38) Q n0 (bc - 130) (bs - 700) 1214 (lLL i) [] 60 mSH ρ) : mK Γ M_L_law (d + 38) Q n0 bc bs 773 (lLL i) [] 60 mSH σ := by
  refine mK_aload_n dL_law_773 rfl rfl (.tail _ (.head _)) ?_
  refine mK_invV (J := M_X7_leader) (k := 0) (as := []) (st := []) (c1 := 0) (s1 := 0) (b := 0) dL_law_774 rfl jw_X7_leader jn_X7_leader rfl (Nat.le_of_ble_eq_true rfl) (by omega) (by omega) rfl kw_697 kw_698 kw_699 (Nat.le_of_ble_eq_true rfl) (Nat.le_of_ble_eq_true rfl) rfl ?_
  refine mCall_up (d := d + 36) (by omega) (mCall_mono (PN_leader (d := d + 24) h) (fun o M th τ hq => ?_))
  obtain ⟨rfl, rfl, v, rfl, m⟩ := PN_of hq
  show mK Γ M_L_law (d + 38) Q n0 (bc - 0) (bs - 0) 777 [(0, .ref 1300), (1, .ref 0), (2, .ref 26), (3, .ref 59), (4, .int (nI i))] [.int v] 60 mSH τ
  refine mK_aload_n dL_law_777 rfl rfl (.tail _ (.tail _ (.head _))) ?_
  refine mK_invV (J := M_X9_leader) (k := 0) (as := []) (st := [.int v]) (c1 := 0) (s1 := 0) (b := 26) dL_law_778 rfl jw_X9_leader jn_X9_leader rfl (Nat.le_of_ble_eq_true rfl) (by omega) (by omega) rfl kw_1531 kw_1532 kw_1533 (Nat.le_of_ble_eq_true rfl) (Nat.le_of_ble_eq_true rfl) rfl ?_
  refine mCall_up (d := d + 36) (by omega) (m τ (e59_r τ) _ (fun ρ hρ => ?_))
  have hR : Rel ρ := hρ.1
  show mK Γ M_L_law (d + 38) Q n0 (bc - 0 - 0) (bs - 0 - 0) 781 [(0, .ref 1300), (1, .ref 0), (2, .ref 26), (3, .ref 59), (4, .int (nI i))] [.int v, .int v] 60 mSH ρ
  exact mK_icmp_eq (tgt := 1214) dL_law_781 rfl (by decide) (fun _ => ru_pick [0, 1, 2, 3, 4] rfl (mK_bud (by omega) (by omega) (K ρ hR))) (fun q => absurd rfl q)
