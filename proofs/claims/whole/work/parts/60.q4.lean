/-! ===== defends, give, trim, feed, share: pairs ===== -/
def dDef (D : mDeb) (b : Nat → Int32) (x : Nat) (y : Int32) : Int32 := if dst D x = true ∧ b x = 1 ∧ dst D (uN (dt D x)) = true ∧ dt D (uN (dt D x)) = y then 1 else 0
theorem P_defends {Γ : Nat × (Nat → Int32)} {d : Nat} {σ : mS} (h : Rel σ) (x y : Int32) : mCall Γ M_X7_defends (d + 12) 2 12 [.ref 0, .int x, .int y] 60 mSH σ (PO Γ (d + 12) xIO xIO M_X9_defends 0 0 [.ref 26, .int x, .int y]) := by
  have h40 := h.n40
  rcases itemCase (dn (DM σ)) x with ⟨k, hk, rfl⟩ | hx
  · rcases itemCase (dn (DM σ)) y with ⟨l, hl, rfl⟩ | hy
    · have hk' : k < dn (DC σ) := by rw [h.D]; exact hk
      have mm : PO Γ (d + 12) xIO xIO M_X9_defends 0 0 [.ref 26, .int (nI k), .int (nI l)] (.inl (some (.int (dDef (DM σ) (bF (DM σ)) k (nI l))))) 60 mSH σ := by
        refine PO_q h (FQ_r σ) 0 _ (.inl ⟨rfl, rfl⟩) (fun τ hτ e f Q hQ => ?_)
        have hkτ : k < dn (DM τ) := by rw [e]; exact hk
        have hlτ : l < dn (DM τ) := by rw [e]; exact hl
        have q := hQ _ (Rel_q hτ 0)
        have vk : vp_in (nI k) 40 := vp_in_nI (by omega) (by omega)
        have cl : (nI k).toNatClampNeg = k := nI_clamp (by omega)
        have a52 : τ.1 52 k = bF (DM σ) k := by rw [hτ.B k hkτ, e]
        have a40 : τ.1 40 k = dt (DM σ) k := by rw [m_target hkτ, e]
        have ms := m_strong0 (th_V hτ.S 0) (k := k) hkτ
        have hk40 : τ.1 36 k = 1 → vp_in (τ.1 40 k) 40 := fun k1 => by
          rw [m_kind hkτ] at k1; rw [m_target hkτ]
          rcases dV_k0 hτ.S hkτ with z | ⟨_, i, hi, z⟩
          · rw [z.1] at k1; exact absurd k1 (by decide)
          · rw [z]; exact vp_in_nI (by have := hτ.n40; omega) (by omega)
        refine C_X9_defends_26 (nI k) (nI l) ⟨isIn01 _ _ _ _, fun c => ab1 (isIt1 hτ hkτ) c, fun _ => ⟨isIn01 _ _ _ _, fun c => ab1 (isIt1 hτ hlτ) c, fun _ => ⟨vk, ?_⟩⟩⟩
        rw [cl]
        refine ⟨hk40, fun s => ?_, fun s => ?_⟩
        · have s' := ms.mp s
          rw [show DM (th τ 0) = DM σ from e] at s'
          rw [dDef, if_neg (fun z => by rw [s'] at z; exact absurd z.1 (by decide))] at q; exact q
        · have s' : dst (DM σ) k = true := by
            have : ¬ dst (DM (th τ 0)) k = false := fun z => s (ms.mpr z)
            rw [show DM (th τ 0) = DM σ from e] at this
            exact Bool.not_eq_false _ ▸ this
          obtain ⟨j, hj, ej⟩ := dV_st h.S hk s'
          rw [a52, a40, ej, nI_clamp (show j < 2 ^ 31 by omega)]
          have hjτ : j < dn (DM τ) := by rw [e]; omega
          have a40j : τ.1 40 j = dt (DM σ) j := by rw [m_target hjτ, e]
          have msj := m_strong0 (th_V hτ.S 0) (k := j) hjτ
          rw [dDef, ej, uN_nI (by omega)] at q
          refine ⟨fun b1 => ⟨vp_in_nI (by omega) (by omega), fun k1 => ?_, fun sj => ?_, fun sj => ?_⟩, fun b1 => ?_⟩
          · have k1 : τ.1 36 j = 1 := k1
            show vp_in (τ.1 40 j) 40
            rw [m_kind hjτ] at k1; rw [m_target hjτ]
            rcases dV_k0 hτ.S hjτ with z | ⟨_, i, hi, z⟩
            · rw [z.1] at k1; exact absurd k1 (by decide)
            · rw [z]; exact vp_in_nI (by omega) (by omega)
          · have sj' := msj.mp sj
            rw [show DM (th τ 0) = DM σ from e] at sj'
            rw [if_neg (fun z => by rw [sj'] at z; exact absurd z.2.2.1 (by decide))] at q; exact q
          · have sj' : dst (DM σ) j = true := by
              have : ¬ dst (DM (th τ 0)) j = false := fun z => sj (msj.mpr z)
              rw [show DM (th τ 0) = DM σ from e] at this
              exact Bool.not_eq_false _ ▸ this
            rw [a40j]
            refine ⟨fun w => ?_, fun w => ?_⟩
            · rw [if_pos ⟨s', b1, sj', w⟩] at q; exact q
            · rw [if_neg (fun z => w z.2.2.2)] at q; exact q
          · rw [if_neg (fun z => b1 z.2.1)] at q; exact q
      refine C_X7_defends_0 (nI k) (nI l) ⟨fun c => ab1 (h.hi1 hk) c, fun _ => ⟨fun c => ab1 (h.hi1 hl) c, fun _ => ?_⟩⟩
      rw [c_strong0 h.V hk', c_target h.V hk', h.D, c_isIn0_16 (b := bF (DM σ)) h40 h.bOK h.2.1.2.1 (by omega)]
      rw [dDef] at mm
      refine ⟨fun s => ?_, fun s => ⟨fun b1 => ?_, fun b1 => ?_⟩⟩
      · rw [if_neg (fun z => by rw [s] at z; exact absurd z.1 (by decide))] at mm; exact mm
      · rw [if_neg (fun z => b1 z.2.1)] at mm; exact mm
      · have s' : dst (DM σ) k = true := Bool.not_eq_false _ ▸ s
        obtain ⟨j, hj, ej⟩ := dV_st h.S hk s'
        have hj' : j < dn (DC σ) := by rw [h.D]; omega
        rw [ej, uN_nI (by omega)] at mm
        rw [ej, c_strong0 h.V hj', c_target h.V hj', h.D]
        refine ⟨fun sj => ?_, fun sj => ⟨fun w => ?_, fun w => ?_⟩⟩
        · rw [if_neg (fun z => by rw [sj] at z; exact absurd z.2.2.1 (by decide))] at mm; exact mm
        · rw [if_pos ⟨s', Classical.not_not.mp b1, Bool.not_eq_false _ ▸ sj, w⟩] at mm; exact mm
        · rw [if_neg (fun z => w z.2.2.2)] at mm; exact mm
    · refine C_X7_defends_0 (nI k) y ⟨fun c => ab1 (h.hi1 hk) c, fun _ => ⟨fun _ => ?_, fun c => absurd (h.hi0 hy) c⟩⟩
      refine PO_q h (FQ_r σ) 1 0 (.inr (.inl ⟨rfl, rfl⟩)) (fun τ hτ e _ Q hQ => ?_)
      have q : Q (.inl (some (.int 0))) 60 mSH (h_X9_no_26 (mPI τ 26 0 0) 1).2 := noQ (hQ _ (Rel_q hτ 1))
      exact C_X9_defends_26 (nI k) y ⟨isIn01 _ _ _ _, fun c => ab1 (isIt1 hτ (by rw [e]; exact hk)) c, fun _ => ⟨isIn01 _ _ _ _, fun _ => ⟨fun _ => q, fun c => absurd rfl c⟩, fun c => absurd (isIt0 hτ (by rw [e]; exact hy)) c⟩⟩
  · refine C_X7_defends_0 x y ⟨fun _ => ?_, fun c => absurd (h.hi0 hx) c⟩
    refine PO_q h (FQ_r σ) 1 0 (.inr (.inl ⟨rfl, rfl⟩)) (fun τ hτ e _ Q hQ => ?_)
    have q : Q (.inl (some (.int 0))) 60 mSH (h_X9_no_26 (mPI τ 26 0 0) 1).2 := noQ (hQ _ (Rel_q hτ 1))
    exact C_X9_defends_26 x y ⟨isIn01 _ _ _ _, fun _ => ⟨fun _ => q, fun c => absurd rfl c⟩, fun c => absurd (isIt0 hτ (by rw [e]; exact hx)) c⟩
/-! a debate with other times -/
def dTm (D : mDeb) (f : Nat → Int32) : mDeb := (fun k => match k with
  | 0 => D.1 0
  | 1 => D.1 1
  | 2 => D.1 2
  | 3 => D.1 3
  | 4 => D.1 4
  | 5 => D.1 5
  | 6 => D.1 6
  | 7 => D.1 7
  | _ => f, D.2)
theorem dTm_B (D : mDeb) (f : Nat → Int32) (co hi : Nat → Bool) : ∀ j, stB (dTm D f) co hi j = stB D co hi j
  | 0 => rfl
  | j + 1 => by rw [stB_s, stB_s, dTm_B D f co hi j]; rfl
theorem dTm_Rf (D : mDeb) (f : Nat → Int32) (co hi : Nat → Bool) : ∀ n j, stRf (dTm D f) co hi n j = stRf D co hi n j
  | 0, j => rfl
  | n + 1, j => by
    have : stQ (dTm D f) co hi j = stQ D co hi j := by rw [stQ, stQ, dTm_B, dTm_B]
    rw [stRf, stRf, dTm_Rf D f co hi n (j + 1), this]
theorem dTm_N (D : mDeb) (f : Nat → Int32) (co hi : Nat → Bool) : ∀ j, stN (dTm D f) co hi j = stN D co hi j
  | 0 => rfl
  | j + 1 => by
    funext k
    rw [stN_s, stN_s, dTm_N D f co hi j, dTm_B, dTm_B]
theorem dTm_bF (D : mDeb) (f : Nat → Int32) : bF (dTm D f) = bF D := by
  show stB (dTm D f) (coD D noS) noS (stRf (dTm D f) (coD D noS) noS 40 0) = stB D (coD D noS) noS (stRf D (coD D noS) noS 40 0)
  rw [dTm_B, dTm_Rf]
theorem dTm_rF (D : mDeb) (f : Nat → Int32) : rF (dTm D f) = rF D := dTm_Rf D f (coD D noS) noS 40 0
theorem dTm_nF (D : mDeb) (f : Nat → Int32) : nF (dTm D f) = nF D := by
  show stN (dTm D f) (coD D noS) noS (rF (dTm D f)) = _
  rw [dTm_N, dTm_rF]; rfl
theorem dTm_V {D : mDeb} (f : Nat → Int32) (h : dV D) : dV (dTm D f) := h
theorem DC_tm (σ : mS) (p : Nat) (x : Int32) : DC (mPI σ 7 p x) = dTm (DC σ) (mkI (ds (DC σ)) (fun k => if k = p then x else σ.1 7 k)) := by
  refine Prod.ext ?_ rfl
  funext k
  rcases k with _ | _ | _ | _ | _ | _ | _ | _ | k
  all_goals first | rfl | (show mkI _ _ = mkI _ _; rw [show (mPI σ 7 p x).1 7 = fun k => if k = p then x else σ.1 7 k from funext (fun k => mPI_at ..)]; rfl)
theorem DM_tm (σ : mS) (p : Nat) (x : Int32) : DM (mPI σ 34 p x) = dTm (DM σ) (mkI (ds (DM σ)) (fun k => if k = p then x else σ.1 34 k)) := by
  refine Prod.ext ?_ rfl
  funext k
  rcases k with _ | _ | _ | _ | _ | _ | _ | _ | k
  all_goals first | rfl | (show mkI _ _ = mkI _ _; rw [show (mPI σ 34 p x).1 34 = fun k => if k = p then x else σ.1 34 k from funext (fun k => mPI_at ..)]; rfl)
/-- both sides' times are set -/
theorem Rel_tm {σ : mS} (h : Rel σ) {p : Nat} (hp : p < ds (DM σ)) (x : Int32) : Rel (mPI (mPI σ 7 p x) 34 p x) := by
  obtain ⟨⟨a1, a2, a3⟩, ⟨s1, s2, s3, s4, s5⟩, ⟨m1, m2, m3⟩, t, pp, e⟩ := id h
  have eM0 : DM (mPI (mPI σ 7 p x) 34 p x) = dTm (DM σ) (mkI (ds (DM σ)) (fun k => if k = p then x else σ.1 34 k)) := DM_tm (mPI σ 7 p x) p x
  have eC0 : DC (mPI (mPI σ 7 p x) 34 p x) = dTm (DC σ) (mkI (ds (DC σ)) (fun k => if k = p then x else σ.1 7 k)) := DC_tm σ p x
  have ef : mkI (ds (DC σ)) (fun k => if k = p then x else σ.1 7 k) = mkI (ds (DM σ)) (fun k => if k = p then x else σ.1 34 k) := by
    rw [a2]
    funext k
    rw [mkI, mkI]
    by_cases hk : k < ds (DM σ)
    · rw [if_pos hk, if_pos hk]
      by_cases w : k = p
      · rw [if_pos w, if_pos w]
      · rw [if_neg w, if_neg w, h.tm hk, m_tm hk]
    · rw [if_neg hk, if_neg hk]
  refine ⟨⟨?_, ?_, ?_⟩, ⟨s1, ?_, ?_, ?_, ?_⟩, ⟨?_, ?_, m3⟩, t, pp, e⟩
  · rw [cV, eC0]; exact a1
  · rw [eC0, eM0, ef, a2]
  · rw [eM0]; exact a3
  · rw [eM0, dTm_bF]; exact s2
  · rw [eM0, dTm_bF]; exact s3
  · rw [eM0, dTm_rF]; exact s4
  · rw [eM0, dTm_nF]; exact s5
  · rw [eM0, dTm_bF, dTm_nF]; exact m1
  · rw [eM0, dTm_rF]; exact m2
theorem i3600 : (3600 : Int32) = nI 3600 := by decide
theorem P_give {Γ : Nat × (Nat → Int32)} {d : Nat} {σ : mS} (h : Rel σ) (x y : Int32) : mCall Γ M_X7_give (d + 12) 2 12 [.ref 0, .int x, .int y] 60 mSH σ (PO Γ (d + 12) xIO xIA M_X9_give 0 0 [.ref 26, .int x, .int y]) := by
  have h6 := h.s6
  rcases itemCase (ds (DM σ)) x with ⟨p, hp, rfl⟩ | hx
  · have bad : y < 1 ∨ 3600 < y → PO Γ (d + 12) xIO xIA M_X9_give 0 0 [.ref 26, .int (nI p), .int y] (.inr xIA) 60 mSH σ := fun hf => by
      refine PO_q h (FQ_r σ) 2 0 (.inr (.inr ⟨rfl, by decide, rfl⟩)) (fun τ hτ e _ Q hQ => ?_)
      refine C_X9_give_26 (nI p) y ⟨isIn01 _ _ _ _, fun c => ab1 (isSp1 hτ (by rw [e]; exact hp)) c, fun _ => ⟨fun _ => noQ (hQ _ (Rel_q hτ 2)), fun c => absurd ?_ c⟩⟩
      rw [f_X9_isIn]
      rcases hf with q | q
      · rw [if_pos q]
      · by_cases a : y < 1
        · rw [if_pos a]
        · rw [if_neg a, if_pos q]
    refine C_X7_give_0 (nI p) y ⟨fun c => ab1 (h.hs1 hp) c, fun _ => ⟨fun c => bad (.inl c), fun c1 => ⟨fun c2 => ?_, fun c2 => bad (.inr (Int32.not_le.mp c2))⟩⟩⟩
    have cl : (nI p).toNatClampNeg = p := nI_clamp (by omega)
    have eg : g_X0_addTime_5 σ (nI p) y = mPI σ 7 p (dm (DM σ) p + y) := by rw [g_X0_addTime_5, h.hs1 hp, if_neg (by decide), cl, h.tm hp]
    rw [eg]
    have hsp : f_X0_hasSpeaker_5 (mPI σ 7 p (dm (DM σ) p + y)) (nI p) = 1 := h.hs1 hp
    have ev : f_X0_timeOf_5 (mPI σ 7 p (dm (DM σ) p + y)) (nI p) = dm (DM σ) p + y := by rw [f_X0_timeOf_5, hsp, if_neg (by decide), cl, mPI_at, if_pos rfl]
    rw [ev]
    refine ⟨rfl, rfl, 0, _, .inl ⟨rfl, rfl⟩, fun τ e Q hQ => ?_⟩
    have ef : FQ (mPI σ 7 p (dm (DM σ) p + y)) τ := FQ_e (FQ_r _) e
    have eD : DM τ = DM σ := (FQ_DM ef).trans rfl
    have sVτ : sV τ := by rw [sV, eD]; exact h.S
    have hp' : p < ds (DM τ) := by rw [eD]; exact hp
    refine C_X9_give_26 (nI p) y ⟨isIn01 _ _ _ _, fun c => ab1 (m_isSp1 (th_V sVτ 0) hp') c, fun _ => ⟨fun c => ab1 ?_ c, fun _ => ⟨vp_in_nI (by omega) (by omega), ?_⟩⟩⟩
    · rw [f_X9_isIn, if_neg c1, if_neg (Int32.not_lt.mpr c2)]
    · rw [cl, m_tm hp', eD, mPI_at, if_pos rfl]
      have r0 : Rel (th (mPI (mPI σ 7 p (dm (DM σ) p + y)) 34 p (dm (DM σ) p + y)) 0) := Rel_th (Rel_tm h hp _) 0
      have fq : FQ (th (mPI (mPI σ 7 p (dm (DM σ) p + y)) 34 p (dm (DM σ) p + y)) 0) (mPI (mPI τ 26 0 0) 34 p (dm (DM σ) p + y)) := by
        refine ⟨fun a _ _ => ?_, fun a h1 h2 => ?_, ?_⟩
        · by_cases z34 : a = 34
          · subst z34
            funext k
            rw [mPI_at, th_ne _ _ (by decide), mPI_at, mPI_ne (by decide), e.1]
          · rw [mPI_ne z34]
            by_cases z26 : a = 26
            · subst z26
              funext k
              rw [mPI_at, th, mPI_at, mPI_ne (by decide), e.1]
            · rw [mPI_ne z26, th_ne _ _ z26, mPI_ne z34, e.1]
        · exact e.2.1 a h2
        · exact e.2.2
      refine hQ _ ⟨Rel_FQ r0 fq, ?_, rfl⟩
      rw [mPI_ne (by decide), mPI_at, if_pos rfl]
  · refine C_X7_give_0 x y ⟨fun _ => ?_, fun c => absurd (h.hs0 hx) c⟩
    refine PO_q h (FQ_r σ) 1 0 (.inr (.inl ⟨rfl, rfl⟩)) (fun τ hτ e _ Q hQ => ?_)
    exact C_X9_give_26 x y ⟨isIn01 _ _ _ _, fun _ => noQ (hQ _ (Rel_q hτ 1)), fun c => absurd (isSp0 hτ (by rw [e]; exact hx)) c⟩
