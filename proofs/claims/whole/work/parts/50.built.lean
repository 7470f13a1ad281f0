/-! what is being built: a world that grows -/
theorem bn_nd : ∀ (n k : Nat), va_nd (List.range' k n) = true
  | 0, _ => rfl
  | n + 1, k => by
    rw [List.range'_succ]
    show (decide (k ∉ List.range' (k + 1) n) && va_nd (List.range' (k + 1) n)) = true
    rw [bn_nd n (k + 1), Bool.and_true, decide_eq_true_eq]
    intro h
    have := (List.mem_range'_1.mp h).1
    omega
theorem bn_pick (wr wc : va_W) : ∀ (n : Nat), n ≤ wr.length → (List.range' 0 n).map (fun i => (wr ++ wc)[i]?) = (wr.take n).map some := by
  intro n hn
  apply List.ext_getElem?
  intro i
  rw [List.getElem?_map, List.getElem?_map, List.getElem?_take]
  by_cases h : i < n
  · rw [if_pos h, List.getElem?_range' h]
    simp only [Option.map_some, Nat.zero_add, Nat.one_mul]
    rw [List.getElem?_append_left (by omega), List.getElem?_eq_getElem (show i < wr.length by omega)]
    rfl
  · rw [if_neg h, List.getElem?_eq_none (by simp; omega)]
    rfl
theorem bn_pick2 (wr wc : va_W) : (List.range' wr.length wc.length).map (fun i => (wr ++ wc)[i]?) = wc.map some := by
  apply List.ext_getElem?
  intro i
  rw [List.getElem?_map, List.getElem?_map]
  by_cases h : i < wc.length
  · rw [List.getElem?_range' h]
    simp only [Option.map_some, Nat.one_mul]
    rw [List.getElem?_append_right (by omega), Nat.add_sub_cancel_left, List.getElem?_eq_getElem h]
    rfl
  · rw [List.getElem?_eq_none (show (List.range' wr.length wc.length).length ≤ i by simp; omega), List.getElem?_eq_none (show wc.length ≤ i by omega)]
    rfl
theorem bn_join {A0 : Nat → Prop} {D : va_G} {cl : List vw_C} {wc wr w1 : va_W} {H H1 : Heap} (hP : va_P D cl (wr ++ wc) H) (hD : va_D A0 (wr ++ wc))
    (hk : ∀ q : Nat, q < H.size → ¬ va_A wc H.size q → H1[q]? = H[q]?) (hF : ∀ q, va_A wc H.size q → A0 q) (hP1 : va_P D cl w1 H1) (hD1 : va_D (va_A wc H.size) w1) : va_P D cl (wr ++ w1) H1 ∧ va_D A0 (wr ++ w1) := by
  have h := bn_pick wr wc wr.length (Nat.le_refl _)
  rw [List.take_length] at h
  refine va_join hP hD (List.range' wr.length wc.length) (List.range' 0 wr.length) (bn_pick2 wr wc) h (bn_nd _ _) ?_ hk hF hP1 hD1
  intro i h1 h2
  have h3 := List.mem_range'_1.mp h1
  have h4 := List.mem_range'_1.mp h2
  omega
theorem bn_free {A0 : Nat → Prop} {wr wc : va_W} {H0 H : Heap} {locs : List Loc} (hD : va_D A0 (wr ++ wc)) (hS : va_S A0 H0 H locs) (hA : ∀ q, H0.size ≤ q → A0 q) : ∀ q, va_A wc H.size q → A0 q := by
  intro q h
  rcases h with ⟨k, e, h⟩ | h
  · exact hD.2 (wr.length + k) (q, e) (by rw [List.getElem?_append_right (by omega), Nat.add_sub_cancel_left]; exact h)
  · exact hA q (Nat.le_trans hS.1 h)
theorem bn_Pr {D : va_G} {cl : List vw_C} {wr wc : va_W} {H : Heap} (hP : va_P D cl (wr ++ wc) H) : va_P D cl wc H := fun k q hk => hP (wr.length + k) q (by rw [List.getElem?_append_right (by omega), Nat.add_sub_cancel_left]; exact hk)
theorem bn_Dr {A0 : Nat → Prop} {wr wc : va_W} (hD : va_D A0 (wr ++ wc)) : va_D (fun _ => True) wc := ⟨fun i j p q h1 h2 h3 => by
  have := hD.1 (wr.length + i) (wr.length + j) p q (by rw [List.getElem?_append_right (by omega), Nat.add_sub_cancel_left]; exact h1) (by rw [List.getElem?_append_right (by omega), Nat.add_sub_cancel_left]; exact h2) h3
  omega, fun _ _ _ => trivial⟩
/-- one class of arrays for each sort -/
theorem bn_cA {D : va_G} {cl : List vw_C} {tys : List (ClassId × FieldType)} {s : State} {cA cB : ClassId} {ty : FieldType} (hty : ∀ C, ty ≠ .object C) (i : Nat) (hK : va_K D cl (tys ++ [(cA, ty)]) s) (hi : tys[i]? = some (cB, ty)) : cA = cB := by
  have h1 := (hK.2 tys.length (cA, ty) (by rw [List.getElem?_append_right (Nat.le_refl _), Nat.sub_self]; rfl)).2
  have h2 := (hK.2 i (cB, ty) (by rw [List.getElem?_append_left (List.getElem?_eq_some_iff.mp hi).1]; exact hi)).2
  unfold va_RA at h1 h2
  cases ty with
  | object C => exact absurd rfl (hty C)
  | _ => exact Option.some.inj (h1.symm.trans h2)
section BN
variable {p : Program} {l : Launch} {e : Env} {R : Room} {s : State} {m : MethodId} {args : Array Value} {below : List Frame} {meth : Method} {c : Code} {Q : State → Prop} {G : am_G} {A0 : Nat → Prop} {H0 : Heap} {nL kc ks : Nat} {cc : ByteArray} {own : String}
variable {pc : Nat} {lv : List (Nat × Value)} {st : List Value} {ws : va_W}
def bn_V (p : Program) (l : Launch) (e : Env) (R : Room) (s : State) (m : MethodId) (args : Array Value) (below : List Frame) (meth : Method) (c : Code) (Q : State → Prop) (G : am_G) (A0 : Nat → Prop) (H0 : Heap) (nL kc ks : Nat) (pc : Nat) (lv : List (Nat × Value)) (st : List Value) (ws : va_W) : Prop :=
  ∀ (H : Heap) (locs : List Loc) (ls : Array Slot), va_P G.2.1 vwCl ws H → va_D A0 ws → va_S A0 H0 H locs → lv_has ls nL lv → W p l e R s m args below meth c H locs kc ks Q (F0 m pc ls st)
theorem bn_aload_n (C : am_C p s m args c cc nL own G) {k : Fin 4} {i : Nat} {v : Nat} (hd : decode cc pc = .ok (.aload_n k, 1)) (hi : (k : Nat) = i) (j : Nat) (h : lv[j]? = some (i, .ref v)) (kk : bn_V p l e R s m args below meth c Q G A0 H0 nL kc ks (pc + 1) lv (.ref v :: st) ws) : bn_V p l e R s m args below meth c Q G A0 H0 nL kc ks pc lv st ws :=
  fun H locs ls hP hD hS hl => lv_aload_n C.1 C.2.1 hd hi (lv_at hl j h) (kk H locs ls hP hD hS hl)
theorem bn_aload (C : am_C p s m args c cc nL own G) {i : Nat} {v : Nat} (hd : decode cc pc = .ok (.aload i, 2)) (j : Nat) (h : lv[j]? = some (i, .ref v)) (kk : bn_V p l e R s m args below meth c Q G A0 H0 nL kc ks (pc + 2) lv (.ref v :: st) ws) : bn_V p l e R s m args below meth c Q G A0 H0 nL kc ks pc lv st ws :=
  fun H locs ls hP hD hS hl => lv_aload C.1 C.2.1 hd (lv_at hl j h) (kk H locs ls hP hD hS hl)
theorem bn_iload_n (C : am_C p s m args c cc nL own G) {k : Fin 4} {i : Nat} {v : Int32} (hd : decode cc pc = .ok (.iload_n k, 1)) (hi : (k : Nat) = i) (j : Nat) (h : lv[j]? = some (i, .int v)) (kk : bn_V p l e R s m args below meth c Q G A0 H0 nL kc ks (pc + 1) lv (.int v :: st) ws) : bn_V p l e R s m args below meth c Q G A0 H0 nL kc ks pc lv st ws :=
  fun H locs ls hP hD hS hl => lv_iload_n C.1 C.2.1 hd hi (lv_at hl j h) (kk H locs ls hP hD hS hl)
theorem bn_lload_n (C : am_C p s m args c cc nL own G) {k : Fin 4} {i : Nat} {v : Int64} (hd : decode cc pc = .ok (.lload_n k, 1)) (hi : (k : Nat) = i) (j : Nat) (h : lv[j]? = some (i, .long v)) (kk : bn_V p l e R s m args below meth c Q G A0 H0 nL kc ks (pc + 1) lv (.long v :: st) ws) : bn_V p l e R s m args below meth c Q G A0 H0 nL kc ks pc lv st ws :=
  fun H locs ls hP hD hS hl => lv_lload_n C.1 C.2.1 hd hi (lv_at hl j h) (kk H locs ls hP hD hS hl)
theorem bn_iconst (C : am_C p s m args c cc nL own G) {n : Int} (hd : decode cc pc = .ok (.iconst n, 1)) (kk : bn_V p l e R s m args below meth c Q G A0 H0 nL kc ks (pc + 1) lv (.int (Int32.ofInt n) :: st) ws) : bn_V p l e R s m args below meth c Q G A0 H0 nL kc ks pc lv st ws :=
  fun H locs ls hP hD hS hl => lv_iconst C.1 C.2.1 hd rfl (kk H locs ls hP hD hS hl)
theorem bn_bipush (C : am_C p s m args c cc nL own G) {n : Int} (hd : decode cc pc = .ok (.bipush n, 2)) (hr : am_rok8 n = true) (kk : bn_V p l e R s m args below meth c Q G A0 H0 nL kc ks (pc + 2) lv (.int (Int32.ofInt n) :: st) ws) : bn_V p l e R s m args below meth c Q G A0 H0 nL kc ks pc lv st ws :=
  fun H locs ls hP hD hS hl => lv_bipush C.1 C.2.1 hd (am_b8 hr) (kk H locs ls hP hD hS hl)
theorem bn_sipush (C : am_C p s m args c cc nL own G) {n : Int} (hd : decode cc pc = .ok (.sipush n, 3)) (hr : am_rok16 n = true) (kk : bn_V p l e R s m args below meth c Q G A0 H0 nL kc ks (pc + 3) lv (.int (Int32.ofInt n) :: st) ws) : bn_V p l e R s m args below meth c Q G A0 H0 nL kc ks pc lv st ws :=
  fun H locs ls hP hD hS hl => lv_sipush C.1 C.2.1 hd (am_b16 hr) (kk H locs ls hP hD hS hl)
theorem bn_dup (C : am_C p s m args c cc nL own G) {v : Nat} (hd : decode cc pc = .ok (.dup, 1)) (kk : bn_V p l e R s m args below meth c Q G A0 H0 nL kc ks (pc + 1) lv (.ref v :: .ref v :: st) ws) : bn_V p l e R s m args below meth c Q G A0 H0 nL kc ks pc lv (.ref v :: st) ws :=
  fun H locs ls hP hD hS hl => lv_dup C.1 C.2.1 hd rfl (kk H locs ls hP hD hS hl)
theorem bn_goto (C : am_C p s m args c cc nL own G) {off : Int} {tgt : Nat} (hd : decode cc pc = .ok (.goto off, 3)) (ht : (pc : Int) + off = (tgt : Int)) (kk : bn_V p l e R s m args below meth c Q G A0 H0 nL kc ks tgt lv st ws) : bn_V p l e R s m args below meth c Q G A0 H0 nL kc ks pc lv st ws :=
  fun H locs ls hP hD hS hl => lv_goto C.1 C.2.1 hd ht (kk H locs ls hP hD hS hl)
theorem bn_oinit (C : am_C p s m args c cc nL own G) {idx v : Nat} (hw : Cond.methodLink own idx objectInit ∈ am_T) (hw2 : Cond.instanceMethod objectInit ∈ am_T) (hw3 : Cond.code objectInit ⟨#[0xb1]⟩ 1 none ∈ am_T) (hd : decode cc pc = .ok (.invokespecial idx, 3)) (hR : 1 ≤ R.frames ∧ 12 ≤ R.locals) (kk : bn_V p l e R s m args below meth c Q G A0 H0 nL kc ks (pc + 3) lv [] ws) : bn_V p l e R s m args below meth c Q G A0 H0 nL kc ks pc lv [.ref v] ws :=
  fun H locs ls hP hD hS hl => W.objInit C.1 C.2.1 C.2.2.2.1 (C.2.2.2.2.1 _ hw) (C.2.2.2.2.1 _ hw2) (C.2.2.2.2.1 _ hw3) rfl (by rw [C.2.2.1]; exact hl.1) rfl hd hR.1 hR.2 (kk H locs ls hP hD hS hl)
theorem bn_new (C : am_C p s m args c cc nL own G) (hA : ∀ q, H0.size ≤ q → A0 q) {idx ci N : Nat} {Cn : String} {T : u_T} {fs : List Value} {ty : Nat → FieldType} (hc : vwCl[ci]? = some (Cn, T, N)) (hin : ∀ w ∈ u_ws Cn T N, w ∈ am_T) (hty : ∀ k, k < N → parseFieldDescriptor (T k).2.2.1 = some (ty k)) (hcl : Cond.classLink own idx Cn ∈ am_T) (hinst : Cond.instantiable Cn N ∈ am_T) (hini : Cond.initialized Cn ∈ am_T) (hfs : ∀ j, j < N → defaultValue (ty j) = vp_V fs j) (hcap : kc + 1 ≤ R.cells ∧ ks + N ≤ R.slots) (hd : decode cc pc = .ok (.new idx, 3))
    (kk : ∀ q, bn_V p l e R s m args below meth c Q G A0 H0 nL (kc + 1) (ks + N) (pc + 3) lv (.ref q :: st) (ws ++ [(q, .inr (ci, fs))])) : bn_V p l e R s m args below meth c Q G A0 H0 nL kc ks pc lv st ws :=
  fun H locs ls hP hD hS hl => va_new C.1 C.2.1 C.2.2.2.2.1 hin ty hty C.2.2.2.1 (C.2.2.2.2.1 _ hcl) (C.2.2.2.2.1 _ hinst) (C.2.2.2.2.1 _ hini) C.2.2.2.2.2.1 hP hD hS hA hc hfs hcap.1 hcap.2 hd (fun q H1 hP1 hD1 hS1 => kk q H1 locs ls hP1 hD1 hS1 hl)
theorem bn_newa (C : am_C p s m args c cc nL own G) (hA : ∀ q, H0.size ≤ q → A0 q) {atype : ArrayType} {ty : FieldType} {cB : ClassId} {n : Int} {N : Nat} {f : (Nat → Int32) ⊕ (Nat → Int64) ⊕ (Nat → UInt32) ⊕ (Nat → UInt64) ⊕ (Nat → Option Nat)} (hw : Cond.arrayClass ty ∈ am_T) (hat : newarray.typeOf atype = ty) (hno : ∀ C, ty ≠ .object C) (i : Nat) (hi : (am_tys G)[i]? = some (cB, ty)) (hf : ∀ cA : ClassId, vp_cell cA (N, f) = arrV cA N (fun _ => defaultValue ty)) (hr : am_rok n = true) (hN : n = (N : Int)) (hb : N * componentBytes ty ≤ 536870912) (hcap : kc + 1 ≤ R.cells ∧ ks + N ≤ R.slots) (hd : decode cc pc = .ok (.newarray atype, 2))
    (kk : ∀ q, bn_V p l e R s m args below meth c Q G A0 H0 nL (kc + 1) (ks + N) (pc + 2) lv (.ref q :: st) (ws ++ [(q, .inl (cB, N, f))])) : bn_V p l e R s m args below meth c Q G A0 H0 nL kc ks pc lv (.int (Int32.ofInt n) :: st) ws := by
  intro H locs ls hP hD hS hl
  have hn := am_rok_r hr
  refine va_newa (N' := N) (a0 := (N, f)) C.1 C.2.1 (by rw [hat]; exact C.2.2.2.2.1 _ hw) hat C.2.2.2.2.2.1 hP hD hS hA hf ?_ ?_ hb hcap.1 hcap.2 hd (fun q cA H1 hK1 hP1 hD1 hS1 => ?_)
  · rw [am_zero, am_lt hn am_r0]; omega
  · rw [am_toNat hn, hN]; rfl
  · have e := bn_cA hno i hK1 hi
    subst e
    exact kk q H1 locs ls hP1 hD1 hS1 hl
def am_fldF (own : String) (ci idx k : Nat) (ty : FieldType) : Prop := ∃ (T : u_T) (N : Nat) (ty0 : Nat → FieldType), vwCl[ci]? = some (own, T, N) ∧ (∀ w ∈ u_ws own T N, w ∈ am_T) ∧ k < N ∧ (T k).1 = own ∧ Cond.fieldLink own idx own (T k).2.1 (T k).2.2.1 ∈ am_T ∧ (∀ k, k < N → parseFieldDescriptor (T k).2.2.1 = some (ty0 k)) ∧ (∀ a, a < N → ∀ b, b < N → a ≠ b → (T a).2.1 ≠ (T b).2.1) ∧ (T k).2.2.2 = true ∧ parseFieldDescriptor (T k).2.2.1 = some ty
theorem bn_putF (C : am_C p s m args c cc nL own G) (hin2 : meth.name = "<init>") {ci k idx a0 v : Nat} {ty : FieldType} {fs : List Value} {wt : va_W} (hf : am_fldF own ci idx k ty) (hn : narrow ty (.ref v) = .ref v) (hfit : fits ty (.ref v) = true) (hl0 : k < fs.length) (hd : decode cc pc = .ok (.putfield idx, 3)) (kk : bn_V p l e R s m args below meth c Q G A0 H0 nL kc ks (pc + 3) lv st ((a0, .inr (ci, fs.set k (.ref v))) :: wt)) : bn_V p l e R s m args below meth c Q G A0 H0 nL kc ks pc lv (.ref v :: .ref a0 :: st) ((a0, .inr (ci, fs)) :: wt) := by
  intro H locs ls hP hD hS hl
  obtain ⟨T, N, ty0, hc, hin, hkN, hT1, hlk, hty, hnm, hfin, hpd⟩ := hf
  exact va_putF C.1 C.2.1 C.2.2.2.2.1 hin ty0 hty hnm C.2.2.2.1 C.2.2.2.2.2.1 hP hD hS 0 rfl hc k hkN (C.2.2.2.2.1 _ hlk) (fun x h => by rw [hT1] at h; exact h) hfin hin2 hT1 hpd hn hfit hl0 hd (fun H1 locs1 hP1 hD1 hS1 => kk H1 locs1 ls hP1 hD1 hS1 hl)
theorem bn_putI (C : am_C p s m args c cc nL own G) {ci k idx a0 : Nat} {v : Int32} {fs : List Value} {wt : va_W} (hf : am_fldP own ci idx k .int) (hl0 : k < fs.length) (hd : decode cc pc = .ok (.putfield idx, 3)) (kk : bn_V p l e R s m args below meth c Q G A0 H0 nL kc ks (pc + 3) lv st ((a0, .inr (ci, fs.set k (.int v))) :: wt)) : bn_V p l e R s m args below meth c Q G A0 H0 nL kc ks pc lv (.int v :: .ref a0 :: st) ((a0, .inr (ci, fs)) :: wt) := by
  intro H locs ls hP hD hS hl
  obtain ⟨T, N, ty0, hc, hin, hkN, hT1, hlk, hty, hnm, hfin, hpd⟩ := hf
  exact va_put C.1 C.2.1 C.2.2.2.2.1 hin ty0 hty hnm C.2.2.2.1 C.2.2.2.2.2.1 hP hD hS 0 rfl hc k hkN (C.2.2.2.2.1 _ hlk) (fun x h => by rw [hT1] at h; exact h) hfin hpd rfl rfl hl0 hd (fun H1 locs1 hP1 hD1 hS1 => kk H1 locs1 ls hP1 hD1 hS1 hl)
theorem bn_get (C : am_C p s m args c cc nL own G) {ci k idx a0 : Nat} {v : Value} {fs : List Value} (i : Nat) (he : ws[i]? = some (a0, .inr (ci, fs))) (hf : am_fld own ci idx k) (hv : fs[k]? = some v) (hd : decode cc pc = .ok (.getfield idx, 3)) (kk : bn_V p l e R s m args below meth c Q G A0 H0 nL kc ks (pc + 3) lv (v :: st) ws) : bn_V p l e R s m args below meth c Q G A0 H0 nL kc ks pc lv (.ref a0 :: st) ws := by
  intro H locs ls hP hD hS hl
  obtain ⟨T, N, hc, hin, hkN, hT1, hlk⟩ := hf
  exact va_get C.1 C.2.1 C.2.2.2.2.1 hin C.2.2.2.1 C.2.2.2.2.2.1 hP i he hc k hkN (C.2.2.2.2.1 _ hlk) (fun x h => by rw [hT1] at h; exact h) hv hd (kk H locs ls hP hD hS hl)
/-- a constructor's contract -/
def bn_Pc (G : am_G) (as : List Value) (ws : va_W) (sz : Nat) : Array Value → State → Prop := va_Pc as (fun U => U.heap.size = sz ∧ va_P G.2.1 vwCl ws U.heap ∧ va_K G.2.1 vwCl (am_tys G) U ∧ va_D (fun _ => True) ws ∧ am_Nw U)
def bn_Qc {X : Type} (G : am_G) (ws : va_W) (sz : Nat) (W' : X → va_W) : Array Value → State → Outcome → State → Prop := va_Qv (fun _ : X => True) (fun u t => va_P G.2.1 vwCl (W' u) t.heap ∧ va_K G.2.1 vwCl (am_tys G) t ∧ va_D (va_A ws sz) (W' u) ∧ am_Nw t) (va_A ws sz)
def bn_met {X : Type} (l : Launch) (y : MethodName) (b : ByteArray) (mL f lo mc ms : Nat) (G : am_G) (as : List Value) (ws : va_W) (W' : X → va_W) : Prop := ∀ sz, Met l y (am_ws y b mL none) ({ frames := f, cells := mc, slots := ms, locals := lo }) (bn_Pc G as ws sz) (bn_Qc G ws sz W') mc ms (va_A ws sz)
theorem bn_vret {X : Type} {W' : X → va_W} {ws0 : va_W} (u : X) (C : am_C p s m args c cc nL own G) (hr : meth.sig.returnType = none) (hlocks : meth.locks = false) (hw : ws = W' u) (hd : decode cc pc = .ok (.return_, 1)) : bn_V p l e R s m args below meth c (MQ below (bn_Qc G ws0 s.heap.size W') args s kc ks (va_A ws0 s.heap.size)) G (va_A ws0 s.heap.size) s.heap nL kc ks pc lv [] ws := by
  intro H locs ls hP hD hS hl
  subst hw
  exact W.vret C.1 C.2.1 hr (fun t ht hW => ⟨⟨u, rfl, trivial, by rw [ht]; exact hP, va_K.moved hW.alike C.2.2.2.2.2.1, hD, am_Nw.warm hW C.2.2.2.2.2.2⟩, hS.F ht⟩) hS.2.2 hd hlocks
theorem bn_back {X : Type} {W' : X → va_W} {wr wc : va_W} {mc ms : Nat} {rest st0 : List Value} {a : Array Value} {H : Heap} {locs : List Loc} {ls : Array Slot} (C : am_C p s m args c cc nL own G) (hA : ∀ q, H0.size ≤ q → A0 q) (hr : va_Run p l e R s m args below meth c H locs kc ks mc ms (F0 m pc ls st0) rest (bn_Qc G wc H.size W' a) (va_A wc H.size)) (hP : va_P G.2.1 vwCl (wr ++ wc) H) (hD : va_D A0 (wr ++ wc)) (hS : va_S A0 H0 H locs) (hl : lv_has ls nL lv)
    (kk : ∀ u, bn_V p l e R s m args below meth c Q G A0 H0 nL (kc + mc) (ks + ms) (pc + 3) lv rest (wr ++ W' u)) : W p l e R s m args below meth c H locs kc ks Q (F0 m pc ls st0) := by
  have hF := bn_free hD hS hA
  refine va_callv hr hS (fun q _ h => hF q h) hF (fun u t H1 locs1 ht hvm _ hB hz hk hS1 => ?_)
  obtain ⟨hP1, hK1, hD1, hN1⟩ := hB
  rw [ht] at hP1
  obtain ⟨hP2, hD2⟩ := bn_join hP hD hk hF hP1 hD1
  exact kk u H1 locs1 ls hP2 hD2 hS1 hl
theorem bn_ok {as : List Value} {wr wc : va_W} {H : Heap} (C : am_C p s m args c cc nL own G) (hP : va_P G.2.1 vwCl (wr ++ wc) H) (hD : va_D A0 (wr ++ wc)) : PreS s H (bn_Pc G as wc H.size) as := by
  refine ⟨fun a U g mk q => ?_, fun U hU hW => ⟨rfl, by rw [hU], by rw [hU]; exact bn_Pr hP, va_K.moved hW.alike C.2.2.2.2.2.1, bn_Dr hD, am_Nw.warm hW C.2.2.2.2.2.2⟩⟩
  obtain ⟨q0, q1, qP, qK, qD, qN⟩ := q
  exact ⟨q0, q1, qP, va_K.moved (u := U) (U := U.calling g mk a) (Vm.Alike.refl U.vm) qK, qD, am_Nw.same (u := U) (U := U.calling g mk a) rfl qN⟩
theorem bn_call {X : Type} {W' : X → va_W} {y : MethodName} {b : ByteArray} {mL f lo mc ms n idx b0 : Nat} {As rest : List Value} (wr : va_W) {wc : va_W} (C : am_C p s m args c cc nL own G) (hA : ∀ q, H0.size ≤ q → A0 q) (hM : bn_met l y b mL f lo mc ms G (.ref b0 :: As) wc W') (hy : am_y y b mL none n) (hy1 : y.name = "<init>") (hi : Cond.instanceMethod y ∈ am_T) (hsite : Cond.methodLink own idx y ∈ am_T) (hR : f + 1 ≤ R.frames ∧ 8 + (mL + 11) + lo ≤ R.locals) (hn : As.length = n) (hW : (rest.map fun v => v.category).sum ≤ 8) (hcap : kc + mc ≤ R.cells ∧ ks + ms ≤ R.slots) (hst : st = As.reverse ++ .ref b0 :: rest) (hws : ws = wr ++ wc) (hd : decode cc pc = .ok (.invokespecial idx, 3))
    (kk : ∀ u, bn_V p l e R s m args below meth c Q G A0 H0 nL (kc + mc) (ks + ms) (pc + 3) lv rest (wr ++ W' u)) : bn_V p l e R s m args below meth c Q G A0 H0 nL kc ks pc lv st ws := by
  intro H locs ls hP hD hS hl
  subst hst
  subst hws
  refine bn_back C hA (va_runI (As := As) (rest := rest) ⟨C.1, C.2.1, C.2.2.1, C.2.2.2.1, C.2.2.2.2.1⟩ (hM H.size) (cwI n C.2.2.2.2.1 (am_goodin hy.1) rfl rfl rfl (C.2.2.2.2.1 _ hy.2.1) (C.2.2.2.2.1 _ hsite) (C.2.2.2.2.1 _ hi) hy1 ⟨hy.2.2.1, hy.2.2.2.1, hy.2.2.2.2.1⟩ hR) (bn_ok C hP hD) rfl hn hl.1 rfl (lv_room hW) hd hcap) hP hD hS hl kk
theorem bn_callN {X : Type} {W' : X → va_W} {y : MethodName} {b : ByteArray} {mL f lo mc ms n idx b0 : Nat} {As rest : List Value} {host : String} (wr : va_W) {wc : va_W} (C : am_C p s m args c cc nL own G) (hA : ∀ q, H0.size ≤ q → A0 q) (hM : bn_met l y b mL f lo mc ms G (.ref b0 :: As) wc W') (hy : am_y y b mL none n) (hy1 : y.name = "<init>") (hi : Cond.instanceMethod y ∈ am_T) (hsite : (own, idx, y, host) ∈ am_nest) (hR : f + 1 ≤ R.frames ∧ 8 + (mL + 11) + lo ≤ R.locals) (hn : As.length = n) (hW : (rest.map fun v => v.category).sum ≤ 8) (hcap : kc + mc ≤ R.cells ∧ ks + ms ≤ R.slots) (hst : st = As.reverse ++ .ref b0 :: rest) (hws : ws = wr ++ wc) (hd : decode cc pc = .ok (.invokespecial idx, 3))
    (kk : ∀ u, bn_V p l e R s m args below meth c Q G A0 H0 nL (kc + mc) (ks + ms) (pc + 3) lv rest (wr ++ W' u)) : bn_V p l e R s m args below meth c Q G A0 H0 nL kc ks pc lv st ws := by
  intro H locs ls hP hD hS hl
  subst hst
  subst hws
  refine bn_back C hA (va_runIN (As := As) (rest := rest) ⟨C.1, C.2.1, C.2.2.1, C.2.2.2.1, C.2.2.2.2.1⟩ (hM H.size) ⟨va_cnB n C.2.2.2.2.1 (am_goodin hy.1) rfl rfl rfl (C.2.2.2.2.2.2 _ hsite) (C.2.2.2.2.1 _ hy.2.1) ⟨hy.2.2.1, hy.2.2.2.1, hy.2.2.2.2.1⟩ hR, hy1, C.2.2.2.2.1 _ hi⟩ (bn_ok C hP hD) rfl hn hl.1 rfl (lv_room hW) hd hcap) hP hD hS hl kk
end BN
theorem bn_enter {X : Type} {W' : X → va_W} {l : Launch} {y : MethodName} {b : ByteArray} {mL n f lo mc ms : Nat} {G : am_G} {as : List Value} {ws : va_W} {lv : List (Nat × Value)} (hy : am_y y b mL none n) (hy1 : y.name = "<init>") (hlen : (lg_sl as).length ≤ mL) (hlv : lv_args 0 as = lv)
    (body : ∀ (p : Program) (e : Env) (s : State) (m : MethodId) (args : Array Value) (below : List Frame) (meth : Method) (c : Code), am_C p s m args c b mL y.cls G → meth.sig.returnType = none → meth.locks = false → meth.name = "<init>" → (∀ q, s.heap.size ≤ q → va_A ws s.heap.size q) → bn_V p l e ({ frames := f, cells := mc, slots := ms, locals := lo }) s m args below meth c (MQ below (bn_Qc G ws s.heap.size W') args s mc ms (va_A ws s.heap.size)) G (va_A ws s.heap.size) s.heap mL 0 0 0 lv [] ws) : bn_met l y b mL f lo mc ms G as ws W' := by
  intro sz
  refine Met.ofW (cc := b) (maxL := mL) (ret := none) hy.2.2.2.2.2 rfl ?_
  intro p e s m args below meth c s₁ B hml hv
  obtain ⟨rfl, hsz, hP, hK, hD, hN⟩ := hv
  subst hsz
  have hts := atoms_spec (ws := am_ws y b mL none) B.pre
  have hown : s.vm.findClass y.cls = some m.cls := findClass_of_methodNamed B.named
  have hl := lv_entry as (n := mL) hlen
  rw [lg_entry_eq]
  subst hlv
  exact body p e s m _ below meth c ⟨B.exec, B.bytes, hml, hown, fun w hw => hts w (List.mem_cons_of_mem _ hw), hK, hN⟩ B.returns B.notSynchronized ((name_of_methodNamed B.named B.method).1.trans hy1) (fun q h => Or.inr h) s.heap [] _ hP hD.self va_S.rf hl
