/-! ===== new arrays, and letting them go ===== -/
def mBk (σ τ : mS) : Prop := ∀ j, j < 60 → σ.1 j = τ.1 j ∧ σ.2.1 j = τ.2.1 j ∧ σ.2.2 j = τ.2.2 j
def mB (sh : mH) : Prop := ∀ j, j < 60 → sh j = mSH j
theorem mB_0 : mB mSH := fun _ _ => rfl
theorem mB_s {sh : mH} {N : Nat} {e : mE} (h : mB sh) (hN : 60 ≤ N) : mB (mNw sh N e) := fun j hj => by
  rw [mNw, if_neg (by omega)]; exact h j hj
theorem mgd {α : Type} : ∀ {L : List (Option α)} {k : Nat} {a : α}, L.getD k none = some a → some a ∈ L
  | [], k, a, h => by simp at h
  | x :: L, 0, a, h => by
    have h : x = some a := h
    rw [h]; exact List.mem_cons_self
  | x :: L, k + 1, a, h => List.mem_cons_of_mem _ (mgd (L := L) (k := k) h)
theorem mCd_SH : mCd 60 mSH := by
  intro j hj k a h
  rcases j with _ | _ | _ | _ | _ | _ | _ | _ | _ | _ | _ | _ | _ | _ | _ | _ | _ | _ | _ | _ | _ | _ | _ | _ | _ | _ | _ | _ | _ | _ | _ | _ | _ | _ | _ | _ | _ | _ | _ | _ | _ | _ | _ | _ | _ | _ | _ | _ | _ | _ | _ | _ | _ | _ | _ | _ | _ | _ | _ | _ | j
  all_goals first
    | omega
    | (have h : (none : Option Nat) = some a := h
       cases h; done)
    | (have q := mgd h
       simp at q
       omega)
theorem mK_back {Γ : Nat × (Nat → Int32)} {I : mM} {d : Nat} {Q : mQ} {bc bs pc : Nat} {lv : List (Nat × Value)} {st : List Value} {N : Nat} {sh : mH} {σ τ : mS} (h : 60 ≤ N) (hs : mB sh) (he : mBk σ τ) (hko : mKo 60 lv st) (k : mK Γ I d Q 60 bc bs pc lv st 60 mSH τ) : mK Γ I d Q 60 bc bs pc lv st N sh σ := by
  refine mK_forget h (Nat.le_refl _) (fun j hj b a hb => by rw [hs j hj] at hb; exact mCd_SH j hj b a hb) hko ?_
  intro p l e R s m args below meth c H locs cells slots ls D cd ad ad0 aC A mc ms hX hY hS hl hag hb hc
  have ew : mWs cd ad aC 60 sh σ = mWs cd ad aC 60 mSH τ := by
    rw [mWs, mWs]
    apply List.map_congr_left
    intro j hj
    have hj := List.mem_range.mp hj
    have := he j hj
    rw [hs j hj]
    exact congrArg (Prod.mk (ad j)) (mCl_congr this.1 this.2.1 this.2.2)
  refine k p l e R s m args below meth c H locs cells slots ls D cd ad ad0 aC A mc ms hX ?_ hS hl hag hb hc
  obtain ⟨hP, ⟨tys, hK, hty⟩, hD, hN, hcl⟩ := hY
  rw [ew] at hP hD
  exact ⟨hP, ⟨tys, hK, fun j hj h100 => by rw [← hs j hj] at h100 ⊢; exact hty j hj h100⟩, hD, hN, mCd_SH⟩
theorem mK_iretB {Γ : Nat × (Nat → Int32)} {I : mM} {d : Nat} {Q : mQ} {bc bs pc : Nat} {lv : List (Nat × Value)} {N : Nat} {sh : mH} {σ : mS} {x : Int32} (hd : decode I.2.1 pc = .ok (.ireturn, 1)) (hr : I.2.2.2.1 = some .int) (h : 60 ≤ N) (hs : mB sh) (hQ : ∃ τ : mS, mBk σ τ ∧ Q (.inl (some (.int x))) 60 mSH τ) : mK Γ I d Q 60 bc bs pc lv [.int x] N sh σ := by
  obtain ⟨τ, he, hq⟩ := hQ
  refine mK_lv (lv' := []) (fun q hq => absurd hq List.not_mem_nil) ?_
  refine mK_back h hs he ⟨fun q hq => absurd hq List.not_mem_nil, fun v hv => ?_⟩ (mK_iret hd hr hq)
  rcases List.mem_singleton.mp hv with rfl
  exact mOk_i
