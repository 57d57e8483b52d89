/-! ===== the constants of the world, at the start ===== -/
theorem ne_ref {args : Array Value} {s : State} {t u : Term} {a b : Nat} (ht : t.eval args s none [] s = some (.ref a)) (hu : u.eval args s none [] s = some (.ref b)) (h : a ≠ b) : (Cond.not (.eq t u)).before args s = true := by
  simp [Cond.before, Cond.holds, Cond.value, ht, hu, h]
theorem len_c {args : Array Value} {s : State} {t u : Term} (h : t.eval args s none [] s = u.eval args s none [] s) : (Term.length t).eval args s none [] s = (Term.length u).eval args s none [] s := by
  simp only [Term.eval, h]
theorem elem_c {args : Array Value} {s : State} {t u k : Term} (h : t.eval args s none [] s = u.eval args s none [] s) : (Term.elem t k).eval args s none [] s = (Term.elem u k).eval args s none [] s := by
  simp only [Term.eval, h]
theorem ofNat_inj {a b : Nat} (ha : a < 1000) (hb : b < 1000) (h : Int32.ofNat a = Int32.ofNat b) : a = b := (nI_eq (show a < 2 ^ 31 by omega) (show b < 2 ^ 31 by omega)).mp h
theorem sb_apart : ∀ i, i < 21 → ∀ j, j < 21 → i ≠ j → mSl.getD i 0 ≠ mSl.getD j 0 ∨ ∃ k, k < 8 ∧ k < mSl.getD i 0 ∧ (mSb.getD i []).getD k 0 ≠ (mSb.getD j []).getD k 0 := by decide +kernel
theorem sl_small : ∀ i, i < 21 → mSl.getD i 0 < 1000 := by decide +kernel
section
variable {args : Array Value} {s : State}
abbrev sTm (i : Nat) : Term := .string "DebateHallModel" (mScL.getD i 0)
theorem st_ne (hg : ∀ w ∈ gvL, w.before args s = true) : ∀ i j : Nat, i < 21 → j < 21 → i ≠ j → (Cond.not (Cond.eq (sTm i) (sTm j))).before args s = true := by
  intro i j hi hj hij
  obtain ⟨a, -, -, -, ea, -⟩ := Cond.exactly_spec (hg _ (mem_at (gvI i hi)))
  obtain ⟨b, -, -, -, eb, -⟩ := Cond.exactly_spec (hg _ (mem_at (gvI j hj)))
  refine ne_ref ea eb (fun e => ?_)
  have ef : (Term.field (sTm i) "java/lang/String" "value" "[B").eval args s none [] s = (Term.field (sTm j) "java/lang/String" "value" "[B").eval args s none [] s := by
    rw [va_fe ea, va_fe eb, e]
  have l1 := va_eqt (hg _ (mem_at (gvM i hi)))
  have l2 := va_eqt (hg _ (mem_at (gvM j hj)))
  rw [len_c ef, l2] at l1
  have el : mSl.getD j 0 = mSl.getD i 0 := ofNat_inj (sl_small j hj) (sl_small i hi) (by injection (Option.some.inj l1))
  rcases sb_apart i hi j hj hij with h | ⟨k, -, hk, h⟩
  · exact h el.symm
  · have b1 := va_eqt (hg _ (mem_at (gvN i hi k hk)))
    have b2 := va_eqt (hg _ (mem_at (gvN j hj k (by rw [el]; exact hk))))
    rw [elem_c ef, b2] at b1
    exact h (by injection (Option.some.inj b1) with q; exact q.symm)
/-- numbers of the constants -/
def cdS (aE aS aV : Nat → Nat) (tA tK b z zf : Nat) : Nat → Nat := fun a => if a < 1100 then aE (a - 1000) else if a = 1100 then tA else if a = 1101 then tK else if a < 1300 then aS (a - 1200) else if a = 1300 then b else if a < 1500 then aV (a - 1400) else if a = 1500 then z else zf
theorem cdS_E {aE aS aV : Nat → Nat} {tA tK b z zf i : Nat} (h : i < 28) : cdS aE aS aV tA tK b z zf (1000 + i) = aE i := by rw [cdS, if_pos (by omega), Nat.add_sub_cancel_left]
theorem cdS_S {aE aS aV : Nat → Nat} {tA tK b z zf i : Nat} (h : i < 21) : cdS aE aS aV tA tK b z zf (1200 + i) = aS i := by rw [cdS, if_neg (by omega), if_neg (by omega), if_neg (by omega), if_pos (by omega), Nat.add_sub_cancel_left]
theorem cdS_V {aE aS aV : Nat → Nat} {tA tK b z zf i : Nat} (h : i < 21) : cdS aE aS aV tA tK b z zf (1400 + i) = aV i := by rw [cdS, if_neg (by omega), if_neg (by omega), if_neg (by omega), if_neg (by omega), if_neg (by omega), if_pos (by omega), Nat.add_sub_cancel_left]
theorem mC_start {b L : Nat} {xs : Nat → Int32} (hts : ∀ w ∈ lw_tbl, w.before args s = true) (hg : ∀ w ∈ gvL, w.before args s = true) (hX : va_X b L xs s s.heap) (hb : b < s.heap.size) :
    ∃ cd : Nat → Nat, cd 1300 = b ∧ mC cd (fun q => s.heap.size ≤ q) L xs s s.heap := by
  have hA : ∀ a : Nat, a < s.heap.size → ¬ (fun q => s.heap.size ≤ q) a := fun a h => Nat.not_le.mpr h
  have k0 : ∀ i : Nat, ∃ t : Nat, i < 28 → (Term.static "DebateHall$Kind" (mKn.getD i "") "LDebateHall$Kind;").eval args s none [] s = some (.ref t) ∧ va_O "DebateHall$Kind" t (fun q => s.heap.size ≤ q) s s.heap := by
    intro i
    by_cases hi : i < 28
    · obtain ⟨a, c, cell, k, q1, q2, q3, q4, q5, q6, -⟩ := Cond.exactly_spec (hg _ (mem_at (gvA i hi)))
      exact ⟨a, fun _ => ⟨q1, cell, q3, q5, by rw [q6]; exact q2, hA a (Array.getElem?_eq_some_iff.mp q3).1⟩⟩
    · exact ⟨0, fun h => absurd h hi⟩
  obtain ⟨aE, hE⟩ := Classical.axiomOfChoice k0
  obtain ⟨tA, eA, hTA⟩ := va_Tof (tm := .static "DebateHall$Kind" "ALL" "[LDebateHall$Kind;") (ty := .object "DebateHall$Kind") (N := 28) (f := fun i => .ref (aE i)) (A := fun q => s.heap.size ≤ q) (by decide) (hg _ (mem_at gvF1)) (va_eqt (hg _ (mem_at gvF2))) (fun j hj => va_eqv (hg _ (mem_at (gvE j hj))) (hE j hj).1) hA
  obtain ⟨tK, eK, hTK⟩ := va_Tof (tm := .static "DebateHallModel" "KEYS" "[J") (ty := .long) (N := 21) (f := fun i => .long (mKy i)) (A := fun q => s.heap.size ≤ q) (by decide) (hg _ (mem_at gvH1)) (va_eqt (hg _ (mem_at gvH2))) (fun j hj => va_eqtl (hg _ (mem_at (gvG j hj)))) hA
  obtain ⟨aS, aV, hS, eS⟩ := vk_Sof (args := args) (s := s) (N := 21) (tm := sTm) (len := mSl) (byt := mSb) (A := fun q => s.heap.size ≤ q) (fun i hi => by have := sl_small i hi; omega) (fun i hi => hg _ (mem_at (gvI i hi))) (fun i hi => hg _ (mem_at (gvJ i hi))) (fun i hi => hg _ (mem_at (gvK i hi))) (fun i hi => hg _ (mem_at (gvM i hi))) (fun i hi j hj => hg _ (mem_at (gvN i hi j hj))) (fun i j hi hj h => .inl (st_ne hg i j hi hj h)) hA
  have hz : ∃ z zf : Nat, (Term.static "jdk/internal/util/Preconditions" "SIOOBE_FORMATTER" "Ljava/util/function/BiFunction;").eval args s none [] s = some (va_rf (if zf = 0 then none else some z)) := by
    have h := hg _ (mem_at gvR4)
    cases hv : (Term.static "jdk/internal/util/Preconditions" "SIOOBE_FORMATTER" "Ljava/util/function/BiFunction;").eval args s none [] s with
    | none => simp [Cond.before, Cond.holds, Cond.value, hv] at h
    | some w =>
      simp only [Cond.before, Cond.holds, Cond.value, hv] at h
      cases w with
      | null => exact ⟨0, 0, rfl⟩
      | ref t => exact ⟨t, 1, rfl⟩
      | _ => simp at h
  obtain ⟨z, zf, hz⟩ := hz
  refine ⟨cdS aE aS aV tA tK b z zf, rfl, ⟨⟨fun i hi => ⟨?_, ?_, fun q hq => absurd hq List.not_mem_nil⟩, fun i j hi hj e => ?_⟩, ?_⟩, ⟨va_Zref (hts _ (mem_at gvF3)) (hts _ (mem_at gvF4)) eA hA, ?_⟩, ⟨va_Zref (hts _ (mem_at gvH3)) (hts _ (mem_at gvH4)) eK hA, hTK⟩, ⟨fun i hi => ?_, fun i j hi hj e => ?_⟩, fun i hi => ?_, ⟨va_Zof (hts _ (mem_at gvS2)) (hts _ (mem_at gvT2)) (va_eqt (hg _ (mem_at gvR3))) hA, va_Zof (hts _ (mem_at gvS3)) (hts _ (mem_at gvT3)) hz hA⟩, fun q hq => ?_, vx_Zqof (hts _ (mem_at gvS0)) (hts _ (mem_at gvT0)) (hg _ (mem_at gvR1)) hA, vx_Zqof (hts _ (mem_at gvS1)) (hts _ (mem_at gvT0)) (hg _ (mem_at gvR2)) hA, hX, hA b hb, fun w hw => ?_, va_Nc.of (hg _ (mem_at gvR5))⟩
  · have hi : i < 28 := hi
    show va_Z _ _ _ (.ref (cdS aE aS aV tA tK b z zf (1000 + i))) _ _ _
    rw [cdS_E hi]
    exact va_Zref (hts _ (mem_at (gvD i hi))) (hts _ (mem_at gvF4)) (hE i hi).1 hA
  · have hi : i < 28 := hi
    show va_O _ (cdS aE aS aV tA tK b z zf (1000 + i)) _ _ _
    rw [cdS_E hi]
    exact (hE i hi).2
  · have hi : i < 28 := hi
    have hj : j < 28 := hj
    have e : cdS aE aS aV tA tK b z zf (1000 + i) = cdS aE aS aV tA tK b z zf (1000 + j) := e
    rw [cdS_E hi, cdS_E hj] at e
    have o1 := va_eqt (hg _ (mem_at (gvB i hi)))
    have o2 := va_eqt (hg _ (mem_at (gvB j hj)))
    rw [va_fe (hE i hi).1, e, ← va_fe (hE j hj).1, o2] at o1
    exact ofNat_inj (by omega) (by omega) (by injection (Option.some.inj o1) with q; exact q.symm)
  · refine va_Efof (E := "DebateHall$Kind") (d0 := "LDebateHall$Kind;") (nm := mKn) (tm := fun i => .long (mKc i)) (fun i hi => ?_) (fun i hi => hg _ (mem_at (gvC i hi))) (fun i hi => rfl) hA
    rw [cdS_E hi]
    exact (hE i hi).1
  · obtain ⟨cell, h1, h2, h3, h4, h5, h6, h7⟩ := hTA
    refine ⟨cell, h1, h2, h3, h4, h5, fun j hj => ?_, h7⟩
    rw [h6 j hj]
    show some (Value.ref (aE j)) = some (Value.ref (cdS aE aS aV tA tK b z zf (1000 + j)))
    rw [cdS_E hj]
  · obtain ⟨h1, h2, h3, h4⟩ := hS.1 i hi
    show va_O _ (cdS aE aS aV tA tK b z zf (1200 + i)) _ _ _ ∧ va_OF _ _ _ _ (cdS aE aS aV tA tK b z zf (1200 + i)) _ _ _ ∧ va_OF _ _ _ (.ref (cdS aE aS aV tA tK b z zf (1400 + i))) (cdS aE aS aV tA tK b z zf (1200 + i)) _ _ _ ∧ va_T _ (cdS aE aS aV tA tK b z zf (1400 + i)) _ _ _ _ _
    rw [cdS_S hi, cdS_V hi]
    exact ⟨h1, h2, h3, h4⟩
  · have e : cdS aE aS aV tA tK b z zf (1200 + i) = cdS aE aS aV tA tK b z zf (1200 + j) := e
    rw [cdS_S hi, cdS_S hj] at e
    exact hS.2 i j hi hj e
  · rw [cdS_S hi]
    exact vk_R.of (hts _ (mem_at (gvO i hi))) (eS i hi)
  · obtain ⟨i, hi, e⟩ := List.mem_iff_getElem.mp hq
    have hi : i < 10 := hi
    obtain ⟨g1, g2⟩ := gvQ i hi
    have e : mTx.getD i (0, "") = q := by rw [← e, List.getD_eq_getElem?_getD, List.getElem?_eq_getElem hi]; rfl
    rw [e] at g1 g2
    obtain ⟨a, -, -, -, ea, -⟩ := Cond.exactly_spec (hg _ (mem_at g1))
    exact ⟨a, vk_R.of (hts _ (mem_at g2)) ea⟩
  · exact nw_of (List.all_eq_true.mp gvV w hw) (hts w (List.mem_filter.mp hw).1)
end
