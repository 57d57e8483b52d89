/-! ===== the law: its loop ===== -/
theorem law_le {i L : Nat} (hi : i ≤ L) (hL : L ≤ 3072) (h : ¬ (Int32.ofNat L - 6 < nI i)) : i + 6 ≤ L := by
  apply Classical.byContradiction
  intro c
  apply h
  by_cases h6 : 6 ≤ L
  · have e : Int32.ofNat L - 6 = nI (L - 6) := nI_sub h6
    rw [e]
    exact nI_lt (by omega) (by omega)
  · have n0 : (0 : Int32) ≤ nI i := Int32.not_lt.mp (nI_pos (by omega))
    have l0 : Int32.ofNat L - 6 < 0 := by
      have : L = 0 ∨ L = 1 ∨ L = 2 ∨ L = 3 ∨ L = 4 ∨ L = 5 := by omega
      rcases this with rfl | rfl | rfl | rfl | rfl | rfl <;> decide
    exact Int32.lt_of_lt_of_le l0 n0
theorem LC_sw {Γ : Nat × (Nat → Int32)} {d : Nat} {Q : mQ} {n0 bc bs i : Nat} {σ : mS} {x : Int32} (h : Rel σ) (hL : Γ.1 ≤ 3072) (hi : i + 6 ≤ Γ.1) (hb : 130 ≤ bc) (hs : 700 ≤ bs) (K : ∀ ρ, Rel ρ → mK Γ M_L_law (d + 38) Q n0 (bc - 130) (bs - 700) 1214 (lLL i) [] 60 mSH ρ) : mK Γ M_L_law (d + 38) Q n0 bc bs 40 (lLL i) [.int x] 60 mSH σ := by
  by_cases out : x.toInt < 0 ∨ 20 < x.toInt
  · exact mK_tabOut dL_law_40 out (tgt := 1214) (by decide) (mK_bud (by omega) (by omega) (K σ h))
  have : x.toInt = 0 ∨ x.toInt = 1 ∨ x.toInt = 2 ∨ x.toInt = 3 ∨ x.toInt = 4 ∨ x.toInt = 5 ∨ x.toInt = 6 ∨ x.toInt = 7 ∨ x.toInt = 8 ∨ x.toInt = 9 ∨ x.toInt = 10 ∨ x.toInt = 11 ∨ x.toInt = 12 ∨ x.toInt = 13 ∨ x.toInt = 14 ∨ x.toInt = 15 ∨ x.toInt = 16 ∨ x.toInt = 17 ∨ x.toInt = 18 ∨ x.toInt = 19 ∨ x.toInt = 20 := by omega
  rcases this with e | e | e | e | e | e | e | e | e | e | e | e | e | e | e | e | e | e | e | e | e
  · exact mK_tabIn dL_law_40 (by omega) (by omega) (off := 100) (by rw [e]; rfl) (tgt := 140) (by decide) (LC_feed h hL hi hb hs K)
  · exact mK_tabIn dL_law_40 (by omega) (by omega) (off := 204) (by rw [e]; rfl) (tgt := 244) (by decide) (LC_trim h hL hi hb hs K)
  · exact mK_tabIn dL_law_40 (by omega) (by omega) (off := 260) (by rw [e]; rfl) (tgt := 300) (by decide) (LC_tell h hL hi hb hs K)
  · exact mK_tabIn dL_law_40 (by omega) (by omega) (off := 273) (by rw [e]; rfl) (tgt := 313) (by decide) (LC_errorAt h hL hi hb hs K)
  · exact mK_tabIn dL_law_40 (by omega) (by omega) (off := 286) (by rw [e]; rfl) (tgt := 326) (by decide) (LC_count h hL hi hb hs K)
  · exact mK_tabIn dL_law_40 (by omega) (by omega) (off := 342) (by rw [e]; rfl) (tgt := 382) (by decide) (LC_speaker h hL hi hb hs K)
  · exact mK_tabIn dL_law_40 (by omega) (by omega) (off := 410) (by rw [e]; rfl) (tgt := 450) (by decide) (LC_item h hL hi hb hs K)
  · exact mK_tabIn dL_law_40 (by omega) (by omega) (off := 478) (by rw [e]; rfl) (tgt := 518) (by decide) (LC_give h hL hi hb hs K)
  · exact mK_tabIn dL_law_40 (by omega) (by omega) (off := 546) (by rw [e]; rfl) (tgt := 586) (by decide) (LC_why h hL hi hb hs K)
  · exact mK_tabIn dL_law_40 (by omega) (by omega) (off := 602) (by rw [e]; rfl) (tgt := 642) (by decide) (LC_far h hL hi hb hs K)
  · exact mK_tabIn dL_law_40 (by omega) (by omega) (off := 658) (by rw [e]; rfl) (tgt := 698) (by decide) (LC_defends h hL hi hb hs K)
  · exact mK_tabIn dL_law_40 (by omega) (by omega) (off := 733) (by rw [e]; rfl) (tgt := 773) (by decide) (LC_leader h hL hi hb hs K)
  · exact mK_tabIn dL_law_40 (by omega) (by omega) (off := 746) (by rw [e]; rfl) (tgt := 786) (by decide) (LC_conceding h hL hi hb hs K)
  · exact mK_tabIn dL_law_40 (by omega) (by omega) (off := 814) (by rw [e]; rfl) (tgt := 854) (by decide) (LC_concede h hL hi hb hs K)
  · exact mK_tabIn dL_law_40 (by omega) (by omega) (off := 870) (by rw [e]; rfl) (tgt := 910) (by decide) (LC_advise h hL hi hb hs K)
  · exact mK_tabIn dL_law_40 (by omega) (by omega) (off := 938) (by rw [e]; rfl) (tgt := 978) (by decide) (LC_least h hL hi hb hs K)
  · exact mK_tabIn dL_law_40 (by omega) (by omega) (off := 994) (by rw [e]; rfl) (tgt := 1034) (by decide) (LC_frees h hL hi hb hs K)
  · exact mK_tabIn dL_law_40 (by omega) (by omega) (off := 1050) (by rw [e]; rfl) (tgt := 1090) (by decide) (LC_sheet h hL hi hb hs K)
  · exact mK_tabIn dL_law_40 (by omega) (by omega) (off := 1063) (by rw [e]; rfl) (tgt := 1103) (by decide) (LC_byteAt h hL hi hb hs K)
  · exact mK_tabIn dL_law_40 (by omega) (by omega) (off := 1119) (by rw [e]; rfl) (tgt := 1159) (by decide) (LC_share h hL hi hb hs K)
  · exact mK_tabIn dL_law_40 (by omega) (by omega) (off := 1160) (by rw [e]; rfl) (tgt := 1200) (by decide) (LC_digest h hL hi hb hs K)
theorem law_loop {Γ : Nat × (Nat → Int32)} {d : Nat} {Q : mQ} {n0 : Nat} (hL : Γ.1 ≤ 3072) (hQ : ∀ ρ, Q (.inl (some (.int 1))) 60 mSH ρ) : ∀ (n i bc bs : Nat) (σ : mS), Rel σ → i ≤ Γ.1 → Γ.1 < i + 6 * n + 6 → 130 * n ≤ bc → 700 * n ≤ bs → mK Γ M_L_law (d + 38) Q n0 bc bs 23 (lLL i) [] 60 mSH σ := by
  intro n
  induction n with
  | zero =>
    intro i bc bs σ h hi hn hb hs
    refine mK_iload dL_law_23 rfl (.tail _ (.tail _ (.tail _ (.tail _ (.head _))))) ?_
    refine mK_aload_n dL_law_25 rfl rfl (.head _) ?_
    refine mK_slen dL_law_26 rfl ?_
    refine mK_bipush dL_law_27 rfl qbi_6 ?_
    refine mK_isub dL_law_29 rfl ?_
    refine mK_icmp_gt dL_law_30 rfl (tgt := 1220) (by decide) (fun _ => ?_) (fun q => absurd (law_le hi hL q) (by omega))
    refine mK_iconst dL_law_1220 rfl qic_1 ?_
    exact mK_zret dL_law_1221 rfl (.inr rfl) (hQ σ)
  | succ n ih =>
    intro i bc bs σ h hi hn hb hs
    refine mK_iload dL_law_23 rfl (.tail _ (.tail _ (.tail _ (.tail _ (.head _))))) ?_
    refine mK_aload_n dL_law_25 rfl rfl (.head _) ?_
    refine mK_slen dL_law_26 rfl ?_
    refine mK_bipush dL_law_27 rfl qbi_6 ?_
    refine mK_isub dL_law_29 rfl ?_
    refine mK_icmp_gt dL_law_30 rfl (tgt := 1220) (by decide) (fun _ => ?_) (fun q => ?_)
    · refine mK_iconst dL_law_1220 rfl qic_1 ?_
      exact mK_zret dL_law_1221 rfl (.inr rfl) (hQ σ)
    · have hi6 := law_le hi hL q
      refine mK_aload_n dL_law_33 rfl rfl (.head _) ?_
      refine mK_iload dL_law_34 rfl (.tail _ (.tail _ (.tail _ (.tail _ (.head _))))) ?_
      refine mK_sld dL_law_36 rfl (vp_in_nI (by omega) (by omega)) ?_
      refine mK_bipush dL_law_37 rfl qbi_31 ?_
      refine mK_iand dL_law_39 rfl ?_
      refine LC_sw h hL hi6 (by omega) (by omega) (fun ρ hR => ?_)
      refine ru_iinc (lv1 := lLL (i + 6)) dL_law_1214 rfl (.tail _ (.tail _ (.tail _ (.tail _ (.head _))))) qic_6 (Nat.le_of_ble_eq_true rfl) (by rw [show nI i + 6 = nI (i + 6) from nI_add i 6]; rfl) ?_
      refine mK_goto (tgt := 23) dL_law_1217 (by decide) ?_
      exact ih (i + 6) _ _ ρ hR (by omega) (by omega) (by omega) (by omega)
