/-! ===== only the items there are count ===== -/
def agr {α : Type} (n : Nat) (f g : Nat → α) : Prop := ∀ k, k < n → f k = g k
theorem scW_congr {D : mDeb} (h : dV D) {co co' : Nat → Bool} {b b' : Nat → Int32} (hc : agr (dn D) co co') (hb : agr (dn D) b b') (p : Nat) : ∀ i, i ≤ dn D → scW D co b p i = scW D co' b' p i
  | 0, _ => rfl
  | i + 1, hi => by
    have h40 := h.2.1
    rw [scW_s, scW_s, scW_congr h hc hb p i (by omega)]
    have e1 : dWorth D co b i = dWorth D co' b' i := by rw [dWorth, dWorth, hc i (by omega), hb i (by omega)]
    rw [e1]
    rcases dV_t h (show i < dn D by omega) with e | ⟨j, hj, e⟩
    · have e3 : ¬ (dt D i ≠ -1 ∧ db D (uN (dt D i)) = nI p) := fun q => q.1 e
      rw [if_neg e3, if_neg e3]
    · have e2 : dHelp D b i = dHelp D b' i := by rw [dHelp, dHelp, e, uN_nI (by omega), hb i (by omega), hb j (by omega)]
      rw [e2]
theorem dScore_congr {D : mDeb} (h : dV D) {co co' : Nat → Bool} {b b' : Nat → Int32} (hc : agr (dn D) co co') (hb : agr (dn D) b b') (p : Nat) : dScore D co b p = dScore D co' b' p := scW_congr h hc hb p (dn D) (Nat.le_refl _)
theorem ldG_congr {D : mDeb} (h : dV D) {co co' : Nat → Bool} {b b' : Nat → Int32} (hc : agr (dn D) co co') (hb : agr (dn D) b b') (p : Nat) : ∀ k, ldG D co b p k = ldG D co' b' p k
  | 0 => rfl
  | k + 1 => by rw [ldG_s, ldG_s, ldG_congr h hc hb p k, dScore_congr h hc hb k]
theorem dLead_congr {D : mDeb} (h : dV D) {co co' : Nat → Bool} {b b' : Nat → Int32} (hc : agr (dn D) co co') (hb : agr (dn D) b b') (p : Nat) : dLead D co b p = dLead D co' b' p := by rw [dLead, dLead, dScore_congr h hc hb p, ldG_congr h hc hb p]
theorem ldB_congr {D : mDeb} (h : dV D) {co co' : Nat → Bool} {b b' : Nat → Int32} (hc : agr (dn D) co co') (hb : agr (dn D) b b') : ∀ k, ldB D co b k = ldB D co' b' k
  | 0 => rfl
  | k + 1 => by rw [ldB, ldB, ldB_congr h hc hb k, dScore_congr h hc hb k, dScore_congr h hc hb]
theorem dLeader_congr {D : mDeb} (h : dV D) {co co' : Nat → Bool} {b b' : Nat → Int32} (hc : agr (dn D) co co') (hb : agr (dn D) b b') : dLeader D co b = dLeader D co' b' := by rw [dLeader, dLeader, ldB_congr h hc hb]
theorem whF_congr {D : mDeb} {b b' : Nat → Int32} (hb : agr (dn D) b b') (x : Nat) : ∀ m i, i + m = dn D → whF D b x i m = whF D b' x i m
  | 0, i, _ => rfl
  | m + 1, i, hm => by rw [whF, whF, hb i (by omega), whF_congr hb x m (i + 1) (by omega)]
theorem dWhy_congr {D : mDeb} {b b' : Nat → Int32} (hb : agr (dn D) b b') {x : Nat} (hx : x < dn D) : dWhy D b x = dWhy D b' x := by rw [dWhy, dWhy, hb x hx, whF_congr hb x (dn D) 0 (by omega)]
theorem sStep_congr {D : mDeb} (h : dV D) {co co' hi hi' : Nat → Bool} (hc : agr (dn D) co co') (hh : agr (dn D) hi hi') (b : Nat → Int32) : sStep D co hi b = sStep D co' hi' b := by
  funext k
  rw [sStep, sStep]
  by_cases e : k < dn D
  · rw [if_pos e, if_pos e]
    have : sFinds D co hi b k = sFinds D co' hi' b k := by rw [sFinds, sFinds, sHit, sHit, hc k e, hh k e]
    rw [this]
  · rw [if_neg e, if_neg e]
theorem stB_congr {D : mDeb} (h : dV D) {co co' hi hi' : Nat → Bool} (hc : agr (dn D) co co') (hh : agr (dn D) hi hi') : ∀ j, stB D co hi j = stB D co' hi' j
  | 0 => rfl
  | j + 1 => by rw [stB_s, stB_s, stB_congr h hc hh j, sStep_congr h hc hh]
theorem stQ_congr {D : mDeb} (h : dV D) {co co' hi hi' : Nat → Bool} (hc : agr (dn D) co co') (hh : agr (dn D) hi hi') (j : Nat) : stQ D co hi j = stQ D co' hi' j := by rw [stQ, stQ, stB_congr h hc hh, stB_congr h hc hh]
theorem stRf_congr {D : mDeb} (h : dV D) {co co' hi hi' : Nat → Bool} (hc : agr (dn D) co co') (hh : agr (dn D) hi hi') : ∀ f j, stRf D co hi f j = stRf D co' hi' f j
  | 0, j => rfl
  | f + 1, j => by rw [stRf, stRf, stRf_congr h hc hh f (j + 1), stQ_congr h hc hh j]
theorem stR_congr {D : mDeb} (h : dV D) {co co' hi hi' : Nat → Bool} (hc : agr (dn D) co co') (hh : agr (dn D) hi hi') : stR D co hi = stR D co' hi' := stRf_congr h hc hh 40 0
theorem stF_congr {D : mDeb} (h : dV D) {co co' hi hi' : Nat → Bool} (hc : agr (dn D) co co') (hh : agr (dn D) hi hi') : stF D co hi = stF D co' hi' := by rw [stF, stF, stR_congr h hc hh, stB_congr h hc hh]
theorem stN_congr {D : mDeb} (h : dV D) {co co' hi hi' : Nat → Bool} (hc : agr (dn D) co co') (hh : agr (dn D) hi hi') : ∀ j, stN D co hi j = stN D co' hi' j
  | 0 => rfl
  | j + 1 => by
    funext k
    rw [stN_s, stN_s, stN_congr h hc hh j, stB_congr h hc hh, stB_congr h hc hh]
