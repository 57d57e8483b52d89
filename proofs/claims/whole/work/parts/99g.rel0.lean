/-! ===== the fresh objects are related ===== -/
theorem z_dn : dn (DM sg5) = 0 := by
  have : (DM sg5).1 0 0 = 0 := rfl
  rw [dn, this]; rfl
theorem z_ds : ds (DM sg5) = 0 := by
  have : (DM sg5).1 1 0 = 0 := rfl
  rw [ds, this]; rfl
theorem z_D : DC sg5 = DM sg5 := by
  have hb : (fun k => if bB (sg5.2.1 5 11) k = true then (1 : Int32) else 0) = sg5.1 41 := funext fun k => by
    show (if bB 0 k = true then (1 : Int32) else 0) = 0
    rw [bB_0]; rfl
  rw [DC, hb]; rfl
theorem z_V : dV (DM sg5) := by
  refine ⟨?_, ?_, ?_, ?_, fun k hk => ?_⟩
  · rw [z_dn]; rfl
  · rw [z_dn]; decide
  · rw [z_ds]; rfl
  · rw [z_ds]; decide
  · rw [z_dn] at hk; exact absurd hk (Nat.not_lt_zero k)
theorem z_B (co hi : Nat → Bool) (j : Nat) : stB (DM sg5) co hi j = fun _ => 0 := funext fun k => (stB_ok (DM sg5) co hi j).2 k (by rw [z_dn]; exact Nat.zero_le k)
theorem z_R (co hi : Nat → Bool) : stR (DM sg5) co hi = 0 := by
  have q : stQ (DM sg5) co hi 0 := fun k _ => by rw [z_B]
  show (@ite Nat (stQ (DM sg5) co hi 0) (Classical.propDecidable _) 0 (stRf (DM sg5) co hi 39 (0 + 1))) = 0
  exact if_pos q
theorem z_bF : bF (DM sg5) = fun _ => 0 := z_B _ _ _
theorem z_rF : rF (DM sg5) = 0 := z_R _ _
theorem z_nF : nF (DM sg5) = fun _ => 0 := by rw [nF, z_rF]; rfl
theorem z_s1 : sSet (fun _ => 0) 1 = 0 := by decide +kernel
theorem z_s2 : sSet (fun _ => 0) 2 = 0 := by decide +kernel
theorem Rel_0 : Rel sg5 := by
  refine ⟨⟨⟨?_, fun k hk => ?_, fun k _ => ?_⟩, z_D, fun k hk => ?_, fun k hk => ?_⟩, ⟨rfl, ?_, ?_, ?_, fun k _ => ?_⟩, ⟨fun k hk => ?_, ?_, rfl, rfl, rfl⟩, ⟨0, by decide, rfl, rfl, fun i hi => absurd hi (Nat.not_lt_zero i)⟩, ⟨0, by decide, rfl, rfl, fun i hi => absurd hi (Nat.not_lt_zero i)⟩, rfl⟩
  · rw [z_D]; exact z_V
  · rw [z_D, z_dn] at hk; exact absurd hk (Nat.not_lt_zero k)
  · show bB 0 k = false
    exact bB_0 k
  · rw [z_dn] at hk; exact absurd hk (Nat.not_lt_zero k)
  · rw [z_ds] at hk; exact absurd hk (Nat.not_lt_zero k)
  · rw [z_bF, z_s1]; rfl
  · rw [z_bF, z_s2]; rfl
  · rw [z_rF]; rfl
  · rw [z_nF]; rfl
  · rw [z_dn] at hk; exact absurd hk (Nat.not_lt_zero k)
  · rw [z_rF]; rfl
