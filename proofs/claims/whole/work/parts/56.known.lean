/-! what the law's entry knows: the classes, the array classes, the links -/
set_option maxRecDepth 100000 in
theorem bf_ins9 : Cond.instantiable RX9 7 ∈ am_T := am_mem 59 (by decide +kernel) (by decide +kernel)
set_option maxRecDepth 100000 in
theorem bf_ins10 : Cond.instantiable RX10 57 ∈ am_T := am_mem 808 (by decide +kernel) (by decide +kernel)
theorem lk_arr {args : Array Value} {s : State} {ty : FieldType} (hp : ∀ C, ty ≠ .object C) (h : (Cond.arrayClass ty).before args s = true) : ∃ cA, ArrOfT s cA ty ∧ va_RA s cA ty := by
  obtain ⟨cA, kA, comp, h1, h2, h3⟩ := Cond.arrayClass_spec h
  refine ⟨cA, fun n z => ⟨fun k h => (by cases h), kA, h2, comp, h3⟩, ?_⟩
  unfold va_RA
  cases ty with
  | object C => exact absurd rfl (hp C)
  | _ => exact h1
theorem lk_K {args : Array Value} {s : State} (hts : ∀ w ∈ am_T, w.before args s = true) : ∃ (D : va_G) (dI dZ dJ : ClassId), va_K D vwCl [(dI, .int), (dZ, .boolean), (dJ, .long)] s := by
  obtain ⟨c0, i0, k0⟩ := u_known hts am_hin0 (hts _ bf_ins0)
  obtain ⟨c1, i1, k1⟩ := u_known hts am_hin1 (hts _ bf_ins1)
  obtain ⟨c2, i2, k2⟩ := u_known hts am_hin2 (hts _ bf_ins2)
  obtain ⟨c3, i3, k3⟩ := u_known hts am_hin3 (hts _ bf_ins3)
  obtain ⟨c4, i4, k4⟩ := u_known hts am_hin4 (hts _ bf_ins4)
  obtain ⟨c5, i5, k5⟩ := u_known hts am_hin5 (hts _ bf_ins5)
  obtain ⟨c6, i6, k6⟩ := u_known hts am_hin6 (hts _ bf_ins6)
  obtain ⟨c7, i7, k7⟩ := u_known hts am_hin7 (hts _ bf_ins7)
  obtain ⟨c9, i9, k9⟩ := u_known hts am_hin9 (hts _ bf_ins9)
  obtain ⟨c10, i10, k10⟩ := u_known hts am_hin10 (hts _ bf_ins10)
  obtain ⟨dI, aI, rI⟩ := lk_arr (ty := .int) (fun _ h => by cases h) (hts _ bf_ai)
  obtain ⟨dZ, aZ, rZ⟩ := lk_arr (ty := .boolean) (fun _ h => by cases h) (hts _ bf_az)
  obtain ⟨dJ, aJ, rJ⟩ := lk_arr (ty := .long) (fun _ h => by cases h) (hts _ bf_al)
  refine ⟨(fun k => match k with | 0 => c0 | 1 => c1 | 2 => c2 | 3 => c3 | 4 => c4 | 5 => c5 | 6 => c6 | 7 => c7 | 8 => c9 | _ => c10, fun k => match k with | 0 => i0 | 1 => i1 | 2 => i2 | 3 => i3 | 4 => i4 | 5 => i5 | 6 => i6 | 7 => i7 | 8 => i9 | _ => i10), dI, dZ, dJ, ?_, ?_⟩
  · intro k q hq
    match k, hq with
    | 0, hq => cases hq; exact k0
    | 1, hq => cases hq; exact k1
    | 2, hq => cases hq; exact k2
    | 3, hq => cases hq; exact k3
    | 4, hq => cases hq; exact k4
    | 5, hq => cases hq; exact k5
    | 6, hq => cases hq; exact k6
    | 7, hq => cases hq; exact k7
    | 8, hq => cases hq; exact k9
    | 9, hq => cases hq; exact k10
    | k + 10, hq => simp [vwCl] at hq
  · intro k q hq
    match k, hq with
    | 0, hq => cases hq; exact ⟨aI, rI⟩
    | 1, hq => cases hq; exact ⟨aZ, rZ⟩
    | 2, hq => cases hq; exact ⟨aJ, rJ⟩
    | k + 3, hq => simp at hq
set_option maxRecDepth 100000 in
theorem lk_nest : ∀ q ∈ am_nest, Cond.methodLinkNest q.1 q.2.1 q.2.2.1 q.2.2.2 ∈ lw_tbl := by
  have h : am_nest.all (fun q => decide (Cond.methodLinkNest q.1 q.2.1 q.2.2.1 q.2.2.2 ∈ lw_tbl)) = true := by decide +kernel
  intro q hq
  have h1 := List.all_eq_true.mp h q hq
  simpa using h1
theorem lk_Nw {args : Array Value} {s : State} (hts : ∀ w ∈ lw_tbl, w.before args s = true) : am_Nw s := fun q hq => va_Nw.of rfl (hts _ (lk_nest q hq))
theorem lk_T {w : Cond} (h : w ∈ am_T) : w ∈ lw_tbl := (List.mem_filter.mp h).1
