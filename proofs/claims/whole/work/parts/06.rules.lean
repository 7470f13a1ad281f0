/-- the links to private members of nest mates -/
def am_nest : List (String × Nat × MethodName × String) := [("JobLoop", 11, ⟨"JobLoop$Promises", "<init>", "()V"⟩, "JobLoop"), ("JobLoop", 25, ⟨"JobLoop$Functions", "<init>", "()V"⟩, "JobLoop"), ("JobLoop", 32, ⟨"JobLoop$Tasks", "<init>", "()V"⟩, "JobLoop"), ("JobLoop", 39, ⟨"JobLoop$Notes", "<init>", "()V"⟩, "JobLoop"), ("JobLoop$Promises", 63, ⟨"JobLoop", "isWithin", "(II)Z"⟩, "JobLoop"), ("JobLoop$Value", 11, ⟨"JobLoop", "isWithin", "(II)Z"⟩, "JobLoop"), ("JobLoop$Promises", 110, ⟨"JobLoop", "jobOf", "(II)I"⟩, "JobLoop"), ("JobLoop$Runner", 82, ⟨"JobLoop", "jobOf", "(II)I"⟩, "JobLoop"), ("JobLoop$Functions", 32, ⟨"JobLoop", "isFunction", "(I)Z"⟩, "JobLoop"), ("JobLoop$Functions", 36, ⟨"JobLoop", "isWithin", "(II)Z"⟩, "JobLoop"), ("JobLoop$Groups", 63, ⟨"JobLoop", "jobOf", "(II)I"⟩, "JobLoop")]
def am_Nw (U : State) : Prop := ∀ q ∈ am_nest, va_Nw (.methodLinkNest q.1 q.2.1 q.2.2.1 q.2.2.2) U
theorem am_Nw.warm {s U : State} (hW : s.WarmedH U.vm) (h : am_Nw s) : am_Nw U := fun q hq => va_Nw.warmM hW (h q hq)
theorem am_Nw.same {u U : State} (hv : u.vm = U.vm) (h : am_Nw u) : am_Nw U := fun q hq => va_Nw.same rfl hv (h q hq)
/-- the world: the cells, the classes, the links -/
def am_B (G : am_G) (S : am_S) (U : State) : Prop := va_P G.2.1 vwCl (am_W G S) U.heap ∧ va_K G.2.1 vwCl (am_tys G) U ∧ va_D (am_A G) (am_W G S) ∧ am_Nw U
def am_max (x y : Int) : Int := if x < y then y else x
def am_min (x y : Int) : Int := if y < x then y else x
section AMV
variable {p : Program} {l : Launch} {e : Env} {R : Room} {s : State} {m : MethodId} {args : Array Value} {below : List Frame} {meth : Method} {c : Code} {Q : State → Prop} {G : am_G} {A0 : Nat → Prop} {H0 : Heap} {nL kc ks : Nat} {cc : ByteArray} {own : String}
variable {pc : Nat} {lv : List (Nat × am_AV)} {st : List am_AV} {S : am_S}
def am_C (p : Program) (s : State) (m : MethodId) (args : Array Value) (c : Code) (cc : ByteArray) (nL : Nat) (own : String) (G : am_G) : Prop :=
  p.tables.exec = Jvm.exec ∧ c.code = cc ∧ c.maxLocals = nL ∧ s.vm.findClass own = some m.cls ∧ (∀ w ∈ am_T, w.before args s = true) ∧ va_K G.2.1 vwCl (am_tys G) s ∧ am_Nw s
def am_V (p : Program) (l : Launch) (e : Env) (R : Room) (s : State) (m : MethodId) (args : Array Value) (below : List Frame) (meth : Method) (c : Code) (Q : State → Prop) (G : am_G) (A0 : Nat → Prop) (H0 : Heap) (nL kc ks : Nat) (pc : Nat) (lv : List (Nat × am_AV)) (st : List am_AV) (S : am_S) : Prop :=
  am_rS S → (∀ q ∈ lv, am_rv q.2) → (∀ v ∈ st, am_rv v) → ∀ (H : Heap) (locs : List Loc) (ls : Array Slot), va_P G.2.1 vwCl (am_W G S) H → va_D A0 (am_W G S) → va_S A0 H0 H locs → lv_has ls nL (lv.map (fun q => (q.1, am_cv G.1 q.2))) → W p l e R s m args below meth c H locs kc ks Q (F0 m pc ls (st.map (am_cv G.1)))
theorem av_lvat {ls : Array Slot} (hl : lv_has ls nL (lv.map (fun q => (q.1, am_cv G.1 q.2)))) {k i : Nat} {v : am_AV} (h : lv[k]? = some (i, v)) : ls[i]? = some (.val (am_cv G.1 v)) := lv_at hl k (by rw [List.getElem?_map, h]; rfl)
theorem av_c (v : am_AV) {st : List am_AV} (hv : am_rv v) (h : ∀ w ∈ st, am_rv w) : ∀ w ∈ v :: st, am_rv w := List.forall_mem_cons.mpr ⟨hv, h⟩
theorem av_h {v : am_AV} {st : List am_AV} (h : ∀ w ∈ v :: st, am_rv w) : am_rv v := h v List.mem_cons_self
theorem av_t {v : am_AV} {st : List am_AV} (h : ∀ w ∈ v :: st, am_rv w) : ∀ w ∈ st, am_rv w := fun w hw => h w (List.mem_cons_of_mem _ hw)
theorem av_m {k i : Nat} {v : am_AV} (h2 : ∀ q ∈ lv, am_rv q.2) (h : lv[k]? = some (i, v)) : am_rv v := h2 (i, v) (List.mem_of_getElem? h)
def am_rok (x : Int) : Bool := decide (-2147483648 ≤ x) && decide (x < 2147483648)
theorem am_rok_r {x : Int} (h : am_rok x = true) : am_r32 x := by
  simp only [am_rok, Bool.and_eq_true, decide_eq_true_eq] at h; exact h
def am_rok8 (x : Int) : Bool := decide (-128 ≤ x) && decide (x < 128)
def am_rok16 (x : Int) : Bool := decide (-32768 ≤ x) && decide (x < 32768)
theorem am_b8 {n : Int} (h : am_rok8 n = true) : (Int8.ofInt n).toInt32 = Int32.ofInt n := by
  simp only [am_rok8, Bool.and_eq_true, decide_eq_true_eq] at h
  apply Int32.toInt_inj.mp
  rw [Int8.toInt_toInt32, Int8.toInt_ofInt_of_le (by omega) (by omega), am_toInt (by unfold am_r32; omega)]
theorem am_b8r {n : Int} (h : am_rok8 n = true) : am_r32 n := by
  simp only [am_rok8, Bool.and_eq_true, decide_eq_true_eq] at h; unfold am_r32; omega
theorem am_b16 {n : Int} (h : am_rok16 n = true) : (Int16.ofInt n).toInt32 = Int32.ofInt n := by
  simp only [am_rok16, Bool.and_eq_true, decide_eq_true_eq] at h
  apply Int32.toInt_inj.mp
  rw [Int16.toInt_toInt32, Int16.toInt_ofInt_of_le (by omega) (by omega), am_toInt (by unfold am_r32; omega)]
theorem am_b16r {n : Int} (h : am_rok16 n = true) : am_r32 n := by
  simp only [am_rok16, Bool.and_eq_true, decide_eq_true_eq] at h; unfold am_r32; omega
def am_st1 (lv : List (Nat × am_AV)) (i : Nat) (v : am_AV) : List (Nat × am_AV) := (i, v) :: lv.filter (fun q => !(q.1 == i) && !(q.1 + 1 == i && am_cat q.2 == 2))
def am_st2 (lv : List (Nat × am_AV)) (i : Nat) (v : am_AV) : List (Nat × am_AV) := (i, v) :: lv.filter (fun q => !(q.1 == i) && (!(q.1 == i + 1) && !(q.1 + 1 == i && am_cat q.2 == 2)))
theorem am_st1_map (ad : Nat → Nat) (lv : List (Nat × am_AV)) (i : Nat) (v : am_AV) : (i, am_cv ad v) :: (lv.map (fun q => (q.1, am_cv ad q.2))).filter (fun q => !(q.1 == i) && !(q.1 + 1 == i && q.2.category == 2)) = (am_st1 lv i v).map (fun q => (q.1, am_cv ad q.2)) := by
  unfold am_st1
  rw [List.map_cons, List.filter_map]
  refine congrArg (fun z : List (Nat × am_AV) => (i, am_cv ad v) :: z.map (fun q => (q.1, am_cv ad q.2))) ?_
  apply List.filter_congr
  intro q _
  simp [am_cat_cv]
theorem am_st2_map (ad : Nat → Nat) (lv : List (Nat × am_AV)) (i : Nat) (v : am_AV) : (i, am_cv ad v) :: (lv.map (fun q => (q.1, am_cv ad q.2))).filter (fun q => !(q.1 == i) && (!(q.1 == i + 1) && !(q.1 + 1 == i && q.2.category == 2))) = (am_st2 lv i v).map (fun q => (q.1, am_cv ad q.2)) := by
  unfold am_st2
  rw [List.map_cons, List.filter_map]
  refine congrArg (fun z : List (Nat × am_AV) => (i, am_cv ad v) :: z.map (fun q => (q.1, am_cv ad q.2))) ?_
  apply List.filter_congr
  intro q _
  simp [am_cat_cv]
theorem am_st1_r {i : Nat} {v : am_AV} (hv : am_rv v) (h : ∀ q ∈ lv, am_rv q.2) : ∀ q ∈ am_st1 lv i v, am_rv q.2 := by
  intro q hq
  rcases List.mem_cons.mp hq with rfl | hq
  · exact hv
  · exact h q (List.mem_filter.mp hq).1
theorem am_st2_r {i : Nat} {v : am_AV} (hv : am_rv v) (h : ∀ q ∈ lv, am_rv q.2) : ∀ q ∈ am_st2 lv i v, am_rv q.2 := by
  intro q hq
  rcases List.mem_cons.mp hq with rfl | hq
  · exact hv
  · exact h q (List.mem_filter.mp hq).1
/-- the same place, the stack or the state written otherwise -/
theorem av_eq {pc2 : Nat} {lv2 : List (Nat × am_AV)} {st2 : List am_AV} {S2 : am_S} (h1 : pc = pc2) (h2 : lv = lv2) (h3 : st = st2) (h4 : S = S2) (k : am_V p l e R s m args below meth c Q G A0 H0 nL kc ks (pc2) (lv2) (st2) (S2)) : am_V p l e R s m args below meth c Q G A0 H0 nL kc ks (pc) (lv) (st) (S) := by
  subst h1; subst h2; subst h3; subst h4; exact k
theorem av_lvsub {lv2 : List (Nat × am_AV)} (pk : List Nat) (hk2 : pk.filterMap (fun k => lv[k]?) = lv2) (k : am_V p l e R s m args below meth c Q G A0 H0 nL kc ks (pc) (lv2) (st) (S)) : am_V p l e R s m args below meth c Q G A0 H0 nL kc ks (pc) (lv) (st) (S) := by
  intro h1 h2 h3 H locs ls hP hD hS hl
  refine k h1 (fun q hq => ?_) h3 H locs ls hP hD hS (lv_sub hl pk ?_)
  · subst hk2
    obtain ⟨i, -, hi⟩ := List.mem_filterMap.mp hq
    exact h2 q (List.mem_of_getElem? hi)
  · subst hk2
    unfold lv_pick
    rw [List.map_filterMap]
    congr 1
    funext i
    rw [List.getElem?_map]
theorem av_iconst (C : am_C p s m args c cc nL own G) {n : Int} (hd : decode cc pc = .ok (.iconst n, 1)) (hr : am_rok n = true) (kk : am_V p l e R s m args below meth c Q G A0 H0 nL kc ks (pc + 1) (lv) (am_I n :: st) (S)) : am_V p l e R s m args below meth c Q G A0 H0 nL kc ks (pc) (lv) (st) (S) := by
  intro h1 h2 h3 H locs ls hP hD hS hl
  refine lv_iconst C.1 C.2.1 hd rfl ?_
  exact kk h1 h2 (av_c _ (am_rok_r hr) h3) H locs ls hP hD hS hl
theorem av_bipush (C : am_C p s m args c cc nL own G) {n : Int} (hd : decode cc pc = .ok (.bipush n, 2)) (hr : am_rok8 n = true) (kk : am_V p l e R s m args below meth c Q G A0 H0 nL kc ks (pc + 2) (lv) (am_I n :: st) (S)) : am_V p l e R s m args below meth c Q G A0 H0 nL kc ks (pc) (lv) (st) (S) := by
  intro h1 h2 h3 H locs ls hP hD hS hl
  refine lv_bipush C.1 C.2.1 hd (am_b8 hr) ?_
  exact kk h1 h2 (av_c _ (am_b8r hr) h3) H locs ls hP hD hS hl
theorem av_sipush (C : am_C p s m args c cc nL own G) {n : Int} (hd : decode cc pc = .ok (.sipush n, 3)) (hr : am_rok16 n = true) (kk : am_V p l e R s m args below meth c Q G A0 H0 nL kc ks (pc + 3) (lv) (am_I n :: st) (S)) : am_V p l e R s m args below meth c Q G A0 H0 nL kc ks (pc) (lv) (st) (S) := by
  intro h1 h2 h3 H locs ls hP hD hS hl
  refine lv_sipush C.1 C.2.1 hd (am_b16 hr) ?_
  exact kk h1 h2 (av_c _ (am_b16r hr) h3) H locs ls hP hD hS hl
theorem av_lconst (C : am_C p s m args c cc nL own G) {n : Fin 2} {x : Int} (hd : decode cc pc = .ok (.lconst n, 1)) (hx : Int64.ofNat (n : Nat) = Int64.ofInt x) (hr : am_rok x = true) (kk : am_V p l e R s m args below meth c Q G A0 H0 nL kc ks (pc + 1) (lv) (am_J x :: st) (S)) : am_V p l e R s m args below meth c Q G A0 H0 nL kc ks (pc) (lv) (st) (S) := by
  intro h1 h2 h3 H locs ls hP hD hS hl
  refine lv_lconst C.1 C.2.1 hd hx ?_
  exact kk h1 h2 (av_c _ (am_r64_of (am_rok_r hr)) h3) H locs ls hP hD hS hl
theorem av_iload_n (C : am_C p s m args c cc nL own G) {k : Fin 4} {i j : Nat} {x : Int} (hd : decode cc pc = .ok (.iload_n k, 1)) (hi : (k : Nat) = i) (h : lv[j]? = some (i, am_I x)) (kk : am_V p l e R s m args below meth c Q G A0 H0 nL kc ks (pc + 1) (lv) (am_I x :: st) (S)) : am_V p l e R s m args below meth c Q G A0 H0 nL kc ks (pc) (lv) (st) (S) := by
  intro h1 h2 h3 H locs ls hP hD hS hl
  refine lv_iload_n C.1 C.2.1 hd hi (av_lvat hl h) ?_
  exact kk h1 h2 (av_c _ (av_m h2 h) h3) H locs ls hP hD hS hl
theorem av_iload (C : am_C p s m args c cc nL own G) {i j : Nat} {x : Int} (hd : decode cc pc = .ok (.iload i, 2)) (h : lv[j]? = some (i, am_I x)) (kk : am_V p l e R s m args below meth c Q G A0 H0 nL kc ks (pc + 2) (lv) (am_I x :: st) (S)) : am_V p l e R s m args below meth c Q G A0 H0 nL kc ks (pc) (lv) (st) (S) := by
  intro h1 h2 h3 H locs ls hP hD hS hl
  refine lv_iload C.1 C.2.1 hd (av_lvat hl h) ?_
  exact kk h1 h2 (av_c _ (av_m h2 h) h3) H locs ls hP hD hS hl
theorem av_lload_n (C : am_C p s m args c cc nL own G) {k : Fin 4} {i j : Nat} {x : Int} (hd : decode cc pc = .ok (.lload_n k, 1)) (hi : (k : Nat) = i) (h : lv[j]? = some (i, am_J x)) (kk : am_V p l e R s m args below meth c Q G A0 H0 nL kc ks (pc + 1) (lv) (am_J x :: st) (S)) : am_V p l e R s m args below meth c Q G A0 H0 nL kc ks (pc) (lv) (st) (S) := by
  intro h1 h2 h3 H locs ls hP hD hS hl
  refine lv_lload_n C.1 C.2.1 hd hi (av_lvat hl h) ?_
  exact kk h1 h2 (av_c _ (av_m h2 h) h3) H locs ls hP hD hS hl
theorem av_lload (C : am_C p s m args c cc nL own G) {i j : Nat} {x : Int} (hd : decode cc pc = .ok (.lload i, 2)) (h : lv[j]? = some (i, am_J x)) (kk : am_V p l e R s m args below meth c Q G A0 H0 nL kc ks (pc + 2) (lv) (am_J x :: st) (S)) : am_V p l e R s m args below meth c Q G A0 H0 nL kc ks (pc) (lv) (st) (S) := by
  intro h1 h2 h3 H locs ls hP hD hS hl
  refine lv_lload C.1 C.2.1 hd (av_lvat hl h) ?_
  exact kk h1 h2 (av_c _ (av_m h2 h) h3) H locs ls hP hD hS hl
theorem av_aload_n (C : am_C p s m args c cc nL own G) {k : Fin 4} {i j : Nat} {x : Nat} (hd : decode cc pc = .ok (.aload_n k, 1)) (hi : (k : Nat) = i) (h : lv[j]? = some (i, am_R x)) (kk : am_V p l e R s m args below meth c Q G A0 H0 nL kc ks (pc + 1) (lv) (am_R x :: st) (S)) : am_V p l e R s m args below meth c Q G A0 H0 nL kc ks (pc) (lv) (st) (S) := by
  intro h1 h2 h3 H locs ls hP hD hS hl
  refine lv_aload_n C.1 C.2.1 hd hi (av_lvat hl h) ?_
  exact kk h1 h2 (av_c _ (av_m h2 h) h3) H locs ls hP hD hS hl
theorem av_aload (C : am_C p s m args c cc nL own G) {i j : Nat} {x : Nat} (hd : decode cc pc = .ok (.aload i, 2)) (h : lv[j]? = some (i, am_R x)) (kk : am_V p l e R s m args below meth c Q G A0 H0 nL kc ks (pc + 2) (lv) (am_R x :: st) (S)) : am_V p l e R s m args below meth c Q G A0 H0 nL kc ks (pc) (lv) (st) (S) := by
  intro h1 h2 h3 H locs ls hP hD hS hl
  refine lv_aload C.1 C.2.1 hd (av_lvat hl h) ?_
  exact kk h1 h2 (av_c _ (av_m h2 h) h3) H locs ls hP hD hS hl
theorem av_istore_n (C : am_C p s m args c cc nL own G) {k : Fin 4} {i : Nat} {x : Int} {lv2 : List (Nat × am_AV)} (hd : decode cc pc = .ok (.istore_n k, 1)) (hi : (k : Nat) = i) (hn : i < nL) (hlv : am_st1 lv i (am_I x) = lv2) (kk : am_V p l e R s m args below meth c Q G A0 H0 nL kc ks (pc + 1) (lv2) (st) (S)) : am_V p l e R s m args below meth c Q G A0 H0 nL kc ks (pc) (lv) (am_I x :: st) (S) := by
  intro h1 h2 h3 H locs ls hP hD hS hl
  refine lv_istore_n C.1 C.2.1 hd hi hl hn (am_st1_map G.1 lv i (am_I x)) (fun ls' hl' => ?_)
  subst hlv
  exact kk h1 (am_st1_r (av_h h3) h2) (av_t h3) H locs ls' hP hD hS hl'
theorem av_istore (C : am_C p s m args c cc nL own G) {i : Nat} {x : Int} {lv2 : List (Nat × am_AV)} (hd : decode cc pc = .ok (.istore i, 2)) (hn : i < nL) (hlv : am_st1 lv i (am_I x) = lv2) (kk : am_V p l e R s m args below meth c Q G A0 H0 nL kc ks (pc + 2) (lv2) (st) (S)) : am_V p l e R s m args below meth c Q G A0 H0 nL kc ks (pc) (lv) (am_I x :: st) (S) := by
  intro h1 h2 h3 H locs ls hP hD hS hl
  refine lv_istore C.1 C.2.1 hd hl hn (am_st1_map G.1 lv i (am_I x)) (fun ls' hl' => ?_)
  subst hlv
  exact kk h1 (am_st1_r (av_h h3) h2) (av_t h3) H locs ls' hP hD hS hl'
theorem av_lstore_n (C : am_C p s m args c cc nL own G) {k : Fin 4} {i : Nat} {x : Int} {lv2 : List (Nat × am_AV)} (hd : decode cc pc = .ok (.lstore_n k, 1)) (hi : (k : Nat) = i) (hn : i + 1 < nL) (hlv : am_st2 lv i (am_J x) = lv2) (kk : am_V p l e R s m args below meth c Q G A0 H0 nL kc ks (pc + 1) (lv2) (st) (S)) : am_V p l e R s m args below meth c Q G A0 H0 nL kc ks (pc) (lv) (am_J x :: st) (S) := by
  intro h1 h2 h3 H locs ls hP hD hS hl
  refine lv_lstore_n C.1 C.2.1 hd hi hl hn (am_st2_map G.1 lv i (am_J x)) (fun ls' hl' => ?_)
  subst hlv
  exact kk h1 (am_st2_r (av_h h3) h2) (av_t h3) H locs ls' hP hD hS hl'
theorem av_lstore (C : am_C p s m args c cc nL own G) {i : Nat} {x : Int} {lv2 : List (Nat × am_AV)} (hd : decode cc pc = .ok (.lstore i, 2)) (hn : i + 1 < nL) (hlv : am_st2 lv i (am_J x) = lv2) (kk : am_V p l e R s m args below meth c Q G A0 H0 nL kc ks (pc + 2) (lv2) (st) (S)) : am_V p l e R s m args below meth c Q G A0 H0 nL kc ks (pc) (lv) (am_J x :: st) (S) := by
  intro h1 h2 h3 H locs ls hP hD hS hl
  refine lv_lstore C.1 C.2.1 hd hl hn (am_st2_map G.1 lv i (am_J x)) (fun ls' hl' => ?_)
  subst hlv
  exact kk h1 (am_st2_r (av_h h3) h2) (av_t h3) H locs ls' hP hD hS hl'
theorem av_astore_n (C : am_C p s m args c cc nL own G) {k : Fin 4} {i : Nat} {x : Nat} {lv2 : List (Nat × am_AV)} (hd : decode cc pc = .ok (.astore_n k, 1)) (hi : (k : Nat) = i) (hn : i < nL) (hlv : am_st1 lv i (am_R x) = lv2) (kk : am_V p l e R s m args below meth c Q G A0 H0 nL kc ks (pc + 1) (lv2) (st) (S)) : am_V p l e R s m args below meth c Q G A0 H0 nL kc ks (pc) (lv) (am_R x :: st) (S) := by
  intro h1 h2 h3 H locs ls hP hD hS hl
  refine lv_astore_n C.1 C.2.1 hd hi hl hn (am_st1_map G.1 lv i (am_R x)) (fun ls' hl' => ?_)
  subst hlv
  exact kk h1 (am_st1_r (av_h h3) h2) (av_t h3) H locs ls' hP hD hS hl'
theorem av_astore (C : am_C p s m args c cc nL own G) {i : Nat} {x : Nat} {lv2 : List (Nat × am_AV)} (hd : decode cc pc = .ok (.astore i, 2)) (hn : i < nL) (hlv : am_st1 lv i (am_R x) = lv2) (kk : am_V p l e R s m args below meth c Q G A0 H0 nL kc ks (pc + 2) (lv2) (st) (S)) : am_V p l e R s m args below meth c Q G A0 H0 nL kc ks (pc) (lv) (am_R x :: st) (S) := by
  intro h1 h2 h3 H locs ls hP hD hS hl
  refine lv_astore C.1 C.2.1 hd hl hn (am_st1_map G.1 lv i (am_R x)) (fun ls' hl' => ?_)
  subst hlv
  exact kk h1 (am_st1_r (av_h h3) h2) (av_t h3) H locs ls' hP hD hS hl'
theorem av_iinc (C : am_C p s m args c cc nL own G) {i j : Nat} {n x : Int} {lv2 : List (Nat × am_AV)} (hd : decode cc pc = .ok (.iinc i n, 3)) (h : lv[j]? = some (i, am_I x)) (hn : i < nL) (hlv : am_st1 lv i (am_I (am_w32 (x + n))) = lv2) (kk : am_V p l e R s m args below meth c Q G A0 H0 nL kc ks (pc + 3) (lv2) (st) (S)) : am_V p l e R s m args below meth c Q G A0 H0 nL kc ks (pc) (lv) (st) (S) := by
  intro h1 h2 h3 H locs ls hP hD hS hl
  refine lv_iinc (k := j) C.1 C.2.1 hd hl (by rw [List.getElem?_map, h]; rfl) (am_add x n) hn (am_st1_map G.1 lv i (am_I (am_w32 (x + n)))) (fun ls' hl' => ?_)
  subst hlv
  exact kk h1 (am_st1_r (v := am_I (am_w32 (x + n))) (am_w32_r _) h2) h3 H locs ls' hP hD hS hl'
theorem am_nz {y : Int} (hy : am_r32 y) (h : 0 < y) : ¬ Int32.ofInt y = 0 := by
  rw [am_zero, am_eq hy am_r0]; omega
theorem av_iadd (C : am_C p s m args c cc nL own G) {x y : Int} (hd : decode cc pc = .ok (.iadd, 1)) (kk : am_V p l e R s m args below meth c Q G A0 H0 nL kc ks (pc + 1) (lv) (am_I (am_w32 (x + y)) :: st) (S)) : am_V p l e R s m args below meth c Q G A0 H0 nL kc ks (pc) (lv) (am_I y :: am_I x :: st) (S) := by
  intro h1 h2 h3 H locs ls hP hD hS hl
  have hy : am_r32 y := av_h h3
  have hx : am_r32 x := av_h (av_t h3)
  have kk2 := kk h1 h2 (av_c _ (am_w32_r _) (av_t (av_t h3))) H locs ls hP hD hS hl
  refine lv_iadd C.1 C.2.1 hd ?_
  rw [am_add]
  exact kk2
theorem av_isub (C : am_C p s m args c cc nL own G) {x y : Int} (hd : decode cc pc = .ok (.isub, 1)) (kk : am_V p l e R s m args below meth c Q G A0 H0 nL kc ks (pc + 1) (lv) (am_I (am_w32 (x - y)) :: st) (S)) : am_V p l e R s m args below meth c Q G A0 H0 nL kc ks (pc) (lv) (am_I y :: am_I x :: st) (S) := by
  intro h1 h2 h3 H locs ls hP hD hS hl
  have hy : am_r32 y := av_h h3
  have hx : am_r32 x := av_h (av_t h3)
  have kk2 := kk h1 h2 (av_c _ (am_w32_r _) (av_t (av_t h3))) H locs ls hP hD hS hl
  refine lv_isub C.1 C.2.1 hd ?_
  rw [am_sub]
  exact kk2
theorem av_imul (C : am_C p s m args c cc nL own G) {x y : Int} (hd : decode cc pc = .ok (.imul, 1)) (kk : am_V p l e R s m args below meth c Q G A0 H0 nL kc ks (pc + 1) (lv) (am_I (am_w32 (x * y)) :: st) (S)) : am_V p l e R s m args below meth c Q G A0 H0 nL kc ks (pc) (lv) (am_I y :: am_I x :: st) (S) := by
  intro h1 h2 h3 H locs ls hP hD hS hl
  have hy : am_r32 y := av_h h3
  have hx : am_r32 x := av_h (av_t h3)
  have kk2 := kk h1 h2 (av_c _ (am_w32_r _) (av_t (av_t h3))) H locs ls hP hD hS hl
  refine lv_imul C.1 C.2.1 hd ?_
  rw [am_mul]
  exact kk2
theorem av_idiv (C : am_C p s m args c cc nL own G) {x y : Int} (hd : decode cc pc = .ok (.idiv, 1)) (hpos : 0 < y) (kk : am_V p l e R s m args below meth c Q G A0 H0 nL kc ks (pc + 1) (lv) (am_I (x.tdiv y) :: st) (S)) : am_V p l e R s m args below meth c Q G A0 H0 nL kc ks (pc) (lv) (am_I y :: am_I x :: st) (S) := by
  intro h1 h2 h3 H locs ls hP hD hS hl
  have hy : am_r32 y := av_h h3
  have hx : am_r32 x := av_h (av_t h3)
  have kk2 := kk h1 h2 (av_c _ (am_tdiv_r hx hpos) (av_t (av_t h3))) H locs ls hP hD hS hl
  refine lv_idiv C.1 C.2.1 hd (am_nz hy hpos) ?_
  rw [am_div hx hy hpos]
  exact kk2
theorem av_irem (C : am_C p s m args c cc nL own G) {x y : Int} (hd : decode cc pc = .ok (.irem, 1)) (hpos : 0 < y) (kk : am_V p l e R s m args below meth c Q G A0 H0 nL kc ks (pc + 1) (lv) (am_I (x.tmod y) :: st) (S)) : am_V p l e R s m args below meth c Q G A0 H0 nL kc ks (pc) (lv) (am_I y :: am_I x :: st) (S) := by
  intro h1 h2 h3 H locs ls hP hD hS hl
  have hy : am_r32 y := av_h h3
  have hx : am_r32 x := av_h (av_t h3)
  have kk2 := kk h1 h2 (av_c _ (am_tmod_r hx) (av_t (av_t h3))) H locs ls hP hD hS hl
  refine lv_irem C.1 C.2.1 hd (am_nz hy hpos) ?_
  rw [am_div hx hy hpos, am_mul, am_sub, show am_w32 (x - am_w32 (x.tdiv y * y)) = x.tmod y from by
    have h5 := am_tmod_r (y := y) hx
    have h6 := Int.tmod_def x y
    have h7 : x.tdiv y * y = x - x.tmod y := by rw [h6, Int.mul_comm]; omega
    have h8 : am_r32 (x - x.tmod y) := by
      have h9 : (x.tmod y).natAbs ≤ x.natAbs := by rw [Int.natAbs_tmod]; exact Nat.mod_le _ _
      have h10 : 0 ≤ x → 0 ≤ x.tmod y := fun h => Int.tmod_nonneg y h
      have h11 : x ≤ 0 → x.tmod y ≤ 0 := fun h => by have h4 := Int.tmod_nonneg (a := -x) y (by omega); rw [Int.neg_tmod] at h4; omega
      have h12 : 0 ≤ x ∨ x ≤ 0 := by omega
      unfold am_r32 at hx ⊢
      omega
    rw [h7, am_w32_id h8, show x - (x - x.tmod y) = x.tmod y by omega, am_w32_id h5]]
  exact kk2
theorem av_i2l (C : am_C p s m args c cc nL own G) {x : Int} (hd : decode cc pc = .ok (.i2l, 1)) (kk : am_V p l e R s m args below meth c Q G A0 H0 nL kc ks (pc + 1) (lv) (am_J x :: st) (S)) : am_V p l e R s m args below meth c Q G A0 H0 nL kc ks (pc) (lv) (am_I x :: st) (S) := by
  intro h1 h2 h3 H locs ls hP hD hS hl
  have hx : am_r32 x := av_h h3
  refine lv_i2l C.1 C.2.1 hd (am_i2l hx) ?_
  exact kk h1 h2 (av_c _ (am_r64_of hx) (av_t h3)) H locs ls hP hD hS hl
theorem av_l2i (C : am_C p s m args c cc nL own G) {x : Int} (hd : decode cc pc = .ok (.l2i, 1)) (kk : am_V p l e R s m args below meth c Q G A0 H0 nL kc ks (pc + 1) (lv) (am_I (am_w32 x) :: st) (S)) : am_V p l e R s m args below meth c Q G A0 H0 nL kc ks (pc) (lv) (am_J x :: st) (S) := by
  intro h1 h2 h3 H locs ls hP hD hS hl
  refine lv_l2i C.1 C.2.1 hd (am_l2i x) ?_
  exact kk h1 h2 (av_c _ (am_w32_r x) (av_t h3)) H locs ls hP hD hS hl
theorem av_lcmp (C : am_C p s m args c cc nL own G) {x y : Int} (hd : decode cc pc = .ok (.lcmp, 1)) (kk : am_V p l e R s m args below meth c Q G A0 H0 nL kc ks (pc + 1) (lv) (am_I (am_cmp x y) :: st) (S)) : am_V p l e R s m args below meth c Q G A0 H0 nL kc ks (pc) (lv) (am_J y :: am_J x :: st) (S) := by
  intro h1 h2 h3 H locs ls hP hD hS hl
  have hy : am_r64 y := av_h h3
  have hx : am_r64 x := av_h (av_t h3)
  have kk2 := kk h1 h2 (av_c _ (am_cmp_r x y) (av_t (av_t h3))) H locs ls hP hD hS hl
  refine W.lcmp C.1 C.2.1 hd ?_
  rw [am_lcmp hx hy]
  exact kk2
theorem am_cat1 {v : am_AV} (h : am_cat v = 1) : (am_cv G.1 v).category = 1 := by rw [am_cat_cv]; exact h
theorem av_dup (C : am_C p s m args c cc nL own G) {va : am_AV} (hd : decode cc pc = .ok (.dup, 1)) (hva : am_cat va = 1) (kk : am_V p l e R s m args below meth c Q G A0 H0 nL kc ks (pc + 1) (lv) (va :: va :: st) (S)) : am_V p l e R s m args below meth c Q G A0 H0 nL kc ks (pc) (lv) (va :: st) (S) := by
  intro h1 h2 h3 H locs ls hP hD hS hl
  have kk2 := kk h1 h2 (fun v hv => h3 v (by simp only [List.mem_cons] at hv ⊢; rcases hv with h | h | h <;> simp_all)) H locs ls hP hD hS hl
  exact lv_dup C.1 C.2.1 hd (am_cat1 hva) kk2
theorem av_pop (C : am_C p s m args c cc nL own G) {va : am_AV} (hd : decode cc pc = .ok (.pop, 1)) (hva : am_cat va = 1) (kk : am_V p l e R s m args below meth c Q G A0 H0 nL kc ks (pc + 1) (lv) (st) (S)) : am_V p l e R s m args below meth c Q G A0 H0 nL kc ks (pc) (lv) (va :: st) (S) := by
  intro h1 h2 h3 H locs ls hP hD hS hl
  have kk2 := kk h1 h2 (fun v hv => h3 v (by simp only [List.mem_cons] at hv ⊢; rcases hv with h <;> simp_all)) H locs ls hP hD hS hl
  exact lv_pop C.1 C.2.1 hd (am_cat1 hva) kk2
theorem av_dup_x1 (C : am_C p s m args c cc nL own G) {va vb : am_AV} (hd : decode cc pc = .ok (.dup_x1, 1)) (hva : am_cat va = 1) (hvb : am_cat vb = 1) (kk : am_V p l e R s m args below meth c Q G A0 H0 nL kc ks (pc + 1) (lv) (va :: vb :: va :: st) (S)) : am_V p l e R s m args below meth c Q G A0 H0 nL kc ks (pc) (lv) (va :: vb :: st) (S) := by
  intro h1 h2 h3 H locs ls hP hD hS hl
  have kk2 := kk h1 h2 (fun v hv => h3 v (by simp only [List.mem_cons] at hv ⊢; rcases hv with h | h | h | h <;> simp_all)) H locs ls hP hD hS hl
  exact lv_dup_x1 C.1 C.2.1 hd (am_cat1 hva) (am_cat1 hvb) kk2
theorem av_dup_x2 (C : am_C p s m args c cc nL own G) {va vb vd : am_AV} (hd : decode cc pc = .ok (.dup_x2, 1)) (hva : am_cat va = 1) (hvb : am_cat vb = 1) (hvd : am_cat vd = 1) (kk : am_V p l e R s m args below meth c Q G A0 H0 nL kc ks (pc + 1) (lv) (va :: vb :: vd :: va :: st) (S)) : am_V p l e R s m args below meth c Q G A0 H0 nL kc ks (pc) (lv) (va :: vb :: vd :: st) (S) := by
  intro h1 h2 h3 H locs ls hP hD hS hl
  have kk2 := kk h1 h2 (fun v hv => h3 v (by simp only [List.mem_cons] at hv ⊢; rcases hv with h | h | h | h | h <;> simp_all)) H locs ls hP hD hS hl
  exact lv_dup_x2 C.1 C.2.1 hd (am_cat1 hva) (am_cat1 hvb) (am_cat1 hvd) kk2
theorem av_dup2 (C : am_C p s m args c cc nL own G) {va vb : am_AV} (hd : decode cc pc = .ok (.dup2, 1)) (hva : am_cat va = 1) (hvb : am_cat vb = 1) (kk : am_V p l e R s m args below meth c Q G A0 H0 nL kc ks (pc + 1) (lv) (va :: vb :: va :: vb :: st) (S)) : am_V p l e R s m args below meth c Q G A0 H0 nL kc ks (pc) (lv) (va :: vb :: st) (S) := by
  intro h1 h2 h3 H locs ls hP hD hS hl
  have kk2 := kk h1 h2 (fun v hv => h3 v (by simp only [List.mem_cons] at hv ⊢; rcases hv with h | h | h | h | h <;> simp_all)) H locs ls hP hD hS hl
  exact lv_dup2_11 C.1 C.2.1 hd (am_cat1 hva) (am_cat1 hvb) kk2
theorem av_goto (C : am_C p s m args c cc nL own G) {off : Int} {tgt : Nat} (hd : decode cc pc = .ok (.goto off, 3)) (ht : (pc : Int) + off = (tgt : Int)) (kk : am_V p l e R s m args below meth c Q G A0 H0 nL kc ks (tgt) (lv) (st) (S)) : am_V p l e R s m args below meth c Q G A0 H0 nL kc ks (pc) (lv) (st) (S) := by
  intro h1 h2 h3 H locs ls hP hD hS hl
  exact lv_goto C.1 C.2.1 hd ht (kk h1 h2 h3 H locs ls hP hD hS hl)
theorem av_if_eq (C : am_C p s m args c cc nL own G) {x : Int} {off : Int} {tgt : Nat} (hd : decode cc pc = .ok (.ifCond .eq off, 3)) (ht : (pc : Int) + off = (tgt : Int)) (kt : x = 0 → am_V p l e R s m args below meth c Q G A0 H0 nL kc ks (tgt) (lv) (st) (S)) (kf : ¬ (x = 0) → am_V p l e R s m args below meth c Q G A0 H0 nL kc ks (pc + 3) (lv) (st) (S)) : am_V p l e R s m args below meth c Q G A0 H0 nL kc ks (pc) (lv) (am_I x :: st) (S) := by
  intro h1 h2 h3 H locs ls hP hD hS hl
  have hx : am_r32 x := av_h h3
  have hy : am_r32 (0 : Int) := am_r0
  have h4 := av_t h3
  have hi := am_eq hx hy
  exact lv_if_eq C.1 C.2.1 hd ht (fun hc => kt (hi.mp hc) h1 h2 h4 H locs ls hP hD hS hl) (fun hc => kf (fun h => hc (hi.mpr h)) h1 h2 h4 H locs ls hP hD hS hl)
theorem av_icmp_eq (C : am_C p s m args c cc nL own G) {x y : Int} {off : Int} {tgt : Nat} (hd : decode cc pc = .ok (.if_icmp .eq off, 3)) (ht : (pc : Int) + off = (tgt : Int)) (kt : x = y → am_V p l e R s m args below meth c Q G A0 H0 nL kc ks (tgt) (lv) (st) (S)) (kf : ¬ (x = y) → am_V p l e R s m args below meth c Q G A0 H0 nL kc ks (pc + 3) (lv) (st) (S)) : am_V p l e R s m args below meth c Q G A0 H0 nL kc ks (pc) (lv) (am_I y :: am_I x :: st) (S) := by
  intro h1 h2 h3 H locs ls hP hD hS hl
  have hy : am_r32 y := av_h h3
  have hx : am_r32 x := av_h (av_t h3)
  have h4 := av_t (av_t h3)
  have hi := am_eq hx hy
  exact lv_icmp_eq C.1 C.2.1 hd ht (fun hc => kt (hi.mp hc) h1 h2 h4 H locs ls hP hD hS hl) (fun hc => kf (fun h => hc (hi.mpr h)) h1 h2 h4 H locs ls hP hD hS hl)
theorem av_if_ne (C : am_C p s m args c cc nL own G) {x : Int} {off : Int} {tgt : Nat} (hd : decode cc pc = .ok (.ifCond .ne off, 3)) (ht : (pc : Int) + off = (tgt : Int)) (kt : ¬ x = 0 → am_V p l e R s m args below meth c Q G A0 H0 nL kc ks (tgt) (lv) (st) (S)) (kf : ¬ (¬ x = 0) → am_V p l e R s m args below meth c Q G A0 H0 nL kc ks (pc + 3) (lv) (st) (S)) : am_V p l e R s m args below meth c Q G A0 H0 nL kc ks (pc) (lv) (am_I x :: st) (S) := by
  intro h1 h2 h3 H locs ls hP hD hS hl
  have hx : am_r32 x := av_h h3
  have hy : am_r32 (0 : Int) := am_r0
  have h4 := av_t h3
  have hi := not_congr (am_eq hx hy)
  exact lv_if_ne C.1 C.2.1 hd ht (fun hc => kt (hi.mp hc) h1 h2 h4 H locs ls hP hD hS hl) (fun hc => kf (fun h => h ((am_eq hx hy).mp hc)) h1 h2 h4 H locs ls hP hD hS hl)
theorem av_icmp_ne (C : am_C p s m args c cc nL own G) {x y : Int} {off : Int} {tgt : Nat} (hd : decode cc pc = .ok (.if_icmp .ne off, 3)) (ht : (pc : Int) + off = (tgt : Int)) (kt : ¬ x = y → am_V p l e R s m args below meth c Q G A0 H0 nL kc ks (tgt) (lv) (st) (S)) (kf : ¬ (¬ x = y) → am_V p l e R s m args below meth c Q G A0 H0 nL kc ks (pc + 3) (lv) (st) (S)) : am_V p l e R s m args below meth c Q G A0 H0 nL kc ks (pc) (lv) (am_I y :: am_I x :: st) (S) := by
  intro h1 h2 h3 H locs ls hP hD hS hl
  have hy : am_r32 y := av_h h3
  have hx : am_r32 x := av_h (av_t h3)
  have h4 := av_t (av_t h3)
  have hi := not_congr (am_eq hx hy)
  exact lv_icmp_ne C.1 C.2.1 hd ht (fun hc => kt (hi.mp hc) h1 h2 h4 H locs ls hP hD hS hl) (fun hc => kf (fun h => h ((am_eq hx hy).mp hc)) h1 h2 h4 H locs ls hP hD hS hl)
theorem av_if_lt (C : am_C p s m args c cc nL own G) {x : Int} {off : Int} {tgt : Nat} (hd : decode cc pc = .ok (.ifCond .lt off, 3)) (ht : (pc : Int) + off = (tgt : Int)) (kt : x < 0 → am_V p l e R s m args below meth c Q G A0 H0 nL kc ks (tgt) (lv) (st) (S)) (kf : ¬ (x < 0) → am_V p l e R s m args below meth c Q G A0 H0 nL kc ks (pc + 3) (lv) (st) (S)) : am_V p l e R s m args below meth c Q G A0 H0 nL kc ks (pc) (lv) (am_I x :: st) (S) := by
  intro h1 h2 h3 H locs ls hP hD hS hl
  have hx : am_r32 x := av_h h3
  have hy : am_r32 (0 : Int) := am_r0
  have h4 := av_t h3
  have hi := am_lt hx hy
  exact lv_if_lt C.1 C.2.1 hd ht (fun hc => kt (hi.mp hc) h1 h2 h4 H locs ls hP hD hS hl) (fun hc => kf (fun h => hc (hi.mpr h)) h1 h2 h4 H locs ls hP hD hS hl)
theorem av_icmp_lt (C : am_C p s m args c cc nL own G) {x y : Int} {off : Int} {tgt : Nat} (hd : decode cc pc = .ok (.if_icmp .lt off, 3)) (ht : (pc : Int) + off = (tgt : Int)) (kt : x < y → am_V p l e R s m args below meth c Q G A0 H0 nL kc ks (tgt) (lv) (st) (S)) (kf : ¬ (x < y) → am_V p l e R s m args below meth c Q G A0 H0 nL kc ks (pc + 3) (lv) (st) (S)) : am_V p l e R s m args below meth c Q G A0 H0 nL kc ks (pc) (lv) (am_I y :: am_I x :: st) (S) := by
  intro h1 h2 h3 H locs ls hP hD hS hl
  have hy : am_r32 y := av_h h3
  have hx : am_r32 x := av_h (av_t h3)
  have h4 := av_t (av_t h3)
  have hi := am_lt hx hy
  exact lv_icmp_lt C.1 C.2.1 hd ht (fun hc => kt (hi.mp hc) h1 h2 h4 H locs ls hP hD hS hl) (fun hc => kf (fun h => hc (hi.mpr h)) h1 h2 h4 H locs ls hP hD hS hl)
theorem av_if_ge (C : am_C p s m args c cc nL own G) {x : Int} {off : Int} {tgt : Nat} (hd : decode cc pc = .ok (.ifCond .ge off, 3)) (ht : (pc : Int) + off = (tgt : Int)) (kt : 0 ≤ x → am_V p l e R s m args below meth c Q G A0 H0 nL kc ks (tgt) (lv) (st) (S)) (kf : ¬ (0 ≤ x) → am_V p l e R s m args below meth c Q G A0 H0 nL kc ks (pc + 3) (lv) (st) (S)) : am_V p l e R s m args below meth c Q G A0 H0 nL kc ks (pc) (lv) (am_I x :: st) (S) := by
  intro h1 h2 h3 H locs ls hP hD hS hl
  have hx : am_r32 x := av_h h3
  have hy : am_r32 (0 : Int) := am_r0
  have h4 := av_t h3
  have hi := am_le hy hx
  exact lv_if_ge C.1 C.2.1 hd ht (fun hc => kt (hi.mp hc) h1 h2 h4 H locs ls hP hD hS hl) (fun hc => kf (fun h => hc (hi.mpr h)) h1 h2 h4 H locs ls hP hD hS hl)
theorem av_icmp_ge (C : am_C p s m args c cc nL own G) {x y : Int} {off : Int} {tgt : Nat} (hd : decode cc pc = .ok (.if_icmp .ge off, 3)) (ht : (pc : Int) + off = (tgt : Int)) (kt : y ≤ x → am_V p l e R s m args below meth c Q G A0 H0 nL kc ks (tgt) (lv) (st) (S)) (kf : ¬ (y ≤ x) → am_V p l e R s m args below meth c Q G A0 H0 nL kc ks (pc + 3) (lv) (st) (S)) : am_V p l e R s m args below meth c Q G A0 H0 nL kc ks (pc) (lv) (am_I y :: am_I x :: st) (S) := by
  intro h1 h2 h3 H locs ls hP hD hS hl
  have hy : am_r32 y := av_h h3
  have hx : am_r32 x := av_h (av_t h3)
  have h4 := av_t (av_t h3)
  have hi := am_le hy hx
  exact lv_icmp_ge C.1 C.2.1 hd ht (fun hc => kt (hi.mp hc) h1 h2 h4 H locs ls hP hD hS hl) (fun hc => kf (fun h => hc (hi.mpr h)) h1 h2 h4 H locs ls hP hD hS hl)
theorem av_if_gt (C : am_C p s m args c cc nL own G) {x : Int} {off : Int} {tgt : Nat} (hd : decode cc pc = .ok (.ifCond .gt off, 3)) (ht : (pc : Int) + off = (tgt : Int)) (kt : 0 < x → am_V p l e R s m args below meth c Q G A0 H0 nL kc ks (tgt) (lv) (st) (S)) (kf : ¬ (0 < x) → am_V p l e R s m args below meth c Q G A0 H0 nL kc ks (pc + 3) (lv) (st) (S)) : am_V p l e R s m args below meth c Q G A0 H0 nL kc ks (pc) (lv) (am_I x :: st) (S) := by
  intro h1 h2 h3 H locs ls hP hD hS hl
  have hx : am_r32 x := av_h h3
  have hy : am_r32 (0 : Int) := am_r0
  have h4 := av_t h3
  have hi := am_lt hy hx
  exact lv_if_gt C.1 C.2.1 hd ht (fun hc => kt (hi.mp hc) h1 h2 h4 H locs ls hP hD hS hl) (fun hc => kf (fun h => hc (hi.mpr h)) h1 h2 h4 H locs ls hP hD hS hl)
theorem av_icmp_gt (C : am_C p s m args c cc nL own G) {x y : Int} {off : Int} {tgt : Nat} (hd : decode cc pc = .ok (.if_icmp .gt off, 3)) (ht : (pc : Int) + off = (tgt : Int)) (kt : y < x → am_V p l e R s m args below meth c Q G A0 H0 nL kc ks (tgt) (lv) (st) (S)) (kf : ¬ (y < x) → am_V p l e R s m args below meth c Q G A0 H0 nL kc ks (pc + 3) (lv) (st) (S)) : am_V p l e R s m args below meth c Q G A0 H0 nL kc ks (pc) (lv) (am_I y :: am_I x :: st) (S) := by
  intro h1 h2 h3 H locs ls hP hD hS hl
  have hy : am_r32 y := av_h h3
  have hx : am_r32 x := av_h (av_t h3)
  have h4 := av_t (av_t h3)
  have hi := am_lt hy hx
  exact lv_icmp_gt C.1 C.2.1 hd ht (fun hc => kt (hi.mp hc) h1 h2 h4 H locs ls hP hD hS hl) (fun hc => kf (fun h => hc (hi.mpr h)) h1 h2 h4 H locs ls hP hD hS hl)
theorem av_if_le (C : am_C p s m args c cc nL own G) {x : Int} {off : Int} {tgt : Nat} (hd : decode cc pc = .ok (.ifCond .le off, 3)) (ht : (pc : Int) + off = (tgt : Int)) (kt : x ≤ 0 → am_V p l e R s m args below meth c Q G A0 H0 nL kc ks (tgt) (lv) (st) (S)) (kf : ¬ (x ≤ 0) → am_V p l e R s m args below meth c Q G A0 H0 nL kc ks (pc + 3) (lv) (st) (S)) : am_V p l e R s m args below meth c Q G A0 H0 nL kc ks (pc) (lv) (am_I x :: st) (S) := by
  intro h1 h2 h3 H locs ls hP hD hS hl
  have hx : am_r32 x := av_h h3
  have hy : am_r32 (0 : Int) := am_r0
  have h4 := av_t h3
  have hi := am_le hx hy
  exact lv_if_le C.1 C.2.1 hd ht (fun hc => kt (hi.mp hc) h1 h2 h4 H locs ls hP hD hS hl) (fun hc => kf (fun h => hc (hi.mpr h)) h1 h2 h4 H locs ls hP hD hS hl)
theorem av_icmp_le (C : am_C p s m args c cc nL own G) {x y : Int} {off : Int} {tgt : Nat} (hd : decode cc pc = .ok (.if_icmp .le off, 3)) (ht : (pc : Int) + off = (tgt : Int)) (kt : x ≤ y → am_V p l e R s m args below meth c Q G A0 H0 nL kc ks (tgt) (lv) (st) (S)) (kf : ¬ (x ≤ y) → am_V p l e R s m args below meth c Q G A0 H0 nL kc ks (pc + 3) (lv) (st) (S)) : am_V p l e R s m args below meth c Q G A0 H0 nL kc ks (pc) (lv) (am_I y :: am_I x :: st) (S) := by
  intro h1 h2 h3 H locs ls hP hD hS hl
  have hy : am_r32 y := av_h h3
  have hx : am_r32 x := av_h (av_t h3)
  have h4 := av_t (av_t h3)
  have hi := am_le hx hy
  exact lv_icmp_le C.1 C.2.1 hd ht (fun hc => kt (hi.mp hc) h1 h2 h4 H locs ls hP hD hS hl) (fun hc => kf (fun h => hc (hi.mpr h)) h1 h2 h4 H locs ls hP hD hS hl)
theorem av_swo (C : am_C p s m args c cc nL own G) {x dflt lo hi : Int} {offs : Array Int} {len tgt : Nat} (hd : decode cc pc = .ok (.tableswitch dflt lo hi offs, len)) (h : x < lo ∨ hi < x) (ht : (pc : Int) + dflt = (tgt : Int)) (kk : am_V p l e R s m args below meth c Q G A0 H0 nL kc ks (tgt) (lv) (st) (S)) : am_V p l e R s m args below meth c Q G A0 H0 nL kc ks (pc) (lv) (am_I x :: st) (S) := by
  intro h1 h2 h3 H locs ls hP hD hS hl
  have hx : am_r32 x := av_h h3
  exact lv_tableOut C.1 C.2.1 hd (by rw [am_toInt hx]; exact h) ht (kk h1 h2 (av_t h3) H locs ls hP hD hS hl)
theorem av_swi (C : am_C p s m args c cc nL own G) {x dflt lo hi off : Int} {offs : Array Int} {len tgt k : Nat} (hd : decode cc pc = .ok (.tableswitch dflt lo hi offs, len)) (hx0 : x = lo + k) (hk : ¬ hi < lo + k) (ho : offs[k]? = some off) (ht : (pc : Int) + off = (tgt : Int)) (kk : am_V p l e R s m args below meth c Q G A0 H0 nL kc ks (tgt) (lv) (st) (S)) : am_V p l e R s m args below meth c Q G A0 H0 nL kc ks (pc) (lv) (am_I x :: st) (S) := by
  intro h1 h2 h3 H locs ls hP hD hS hl
  have hx : am_r32 x := av_h h3
  exact lv_tableIn C.1 C.2.1 hd (by rw [am_toInt hx]; omega) (by rw [am_toInt hx]; omega) (by rw [am_toInt hx, show (x - lo).toNat = k by omega]; exact ho) ht (kk h1 h2 (av_t h3) H locs ls hP hD hS hl)
theorem av_ldc (C : am_C p s m args c cc nL own G) {idx : Nat} {x : Int} (hw : Cond.constant own idx (Int32.ofInt x) ∈ am_T) (hr : am_rok x = true) (hd : decode cc pc = .ok (.ldc idx, 2)) (kk : am_V p l e R s m args below meth c Q G A0 H0 nL kc ks (pc + 2) (lv) (am_I x :: st) (S)) : am_V p l e R s m args below meth c Q G A0 H0 nL kc ks (pc) (lv) (st) (S) := by
  intro h1 h2 h3 H locs ls hP hD hS hl
  refine W.ldc C.1 C.2.1 C.2.2.2.1 (C.2.2.2.2.1 _ hw) rfl hd ?_
  exact kk h1 h2 (av_c _ (am_rok_r hr) h3) H locs ls hP hD hS hl
theorem av_ldc2 (C : am_C p s m args c cc nL own G) {idx : Nat} {x : Int} (hw : Cond.constantLong own idx (Int64.ofInt x) ∈ am_T) (hr : am_r64 x) (hd : decode cc pc = .ok (.ldc2_w idx, 3)) (kk : am_V p l e R s m args below meth c Q G A0 H0 nL kc ks (pc + 3) (lv) (am_J x :: st) (S)) : am_V p l e R s m args below meth c Q G A0 H0 nL kc ks (pc) (lv) (st) (S) := by
  intro h1 h2 h3 H locs ls hP hD hS hl
  refine W.ldc2 C.1 C.2.1 C.2.2.2.1 (C.2.2.2.2.1 _ hw) rfl hd ?_
  exact kk h1 h2 (av_c _ hr h3) H locs ls hP hD hS hl
def am_fld (own : String) (ci idx k : Nat) : Prop := ∃ (T : u_T) (N : Nat), vwCl[ci]? = some (own, T, N) ∧ (∀ w ∈ u_ws own T N, w ∈ am_T) ∧ k < N ∧ (T k).1 = own ∧ Cond.fieldLink own idx own (T k).2.1 (T k).2.2.1 ∈ am_T
def am_fldP (own : String) (ci idx k : Nat) (ty : FieldType) : Prop := ∃ (T : u_T) (N : Nat) (ty0 : Nat → FieldType), vwCl[ci]? = some (own, T, N) ∧ (∀ w ∈ u_ws own T N, w ∈ am_T) ∧ k < N ∧ (T k).1 = own ∧ Cond.fieldLink own idx own (T k).2.1 (T k).2.2.1 ∈ am_T ∧ (∀ k, k < N → parseFieldDescriptor (T k).2.2.1 = some (ty0 k)) ∧ (∀ a, a < N → ∀ b, b < N → a ≠ b → (T a).2.1 ≠ (T b).2.1) ∧ (T k).2.2.2 = false ∧ parseFieldDescriptor (T k).2.2.1 = some ty
theorem av_getI (C : am_C p s m args c cc nL own G) {id ci k idx n : Nat} {fl : List (Option Nat)} (hf : am_fld own ci idx k) (hk : am_sk[id]? = some (.inl (ci, fl))) (hl0 : fl[k]? = some none) (hn : 64 * id + k = n) (hd : decode cc pc = .ok (.getfield idx, 3)) (kk : am_V p l e R s m args below meth c Q G A0 H0 nL kc ks (pc + 3) (lv) (am_I (S.1 n) :: st) (S)) : am_V p l e R s m args below meth c Q G A0 H0 nL kc ks (pc) (lv) (am_R id :: st) (S) := by
  intro h1 h2 h3 H locs ls hP hD hS hl
  obtain ⟨T, N, hc, hin, hkN, hT1, hlk⟩ := hf
  subst hn
  refine va_get C.1 C.2.1 C.2.2.2.2.1 hin C.2.2.2.1 C.2.2.2.2.2.1 hP id (am_W_at hk) hc k hkN (C.2.2.2.2.1 _ hlk) (fun x h => by rw [hT1] at h; exact h) (am_fs_int G.1 S id fl 0 k hl0) hd ?_
  rw [Nat.zero_add]
  exact kk h1 h2 (av_c _ (h1.1 _) (av_t h3)) H locs ls hP hD hS hl
theorem av_getR (C : am_C p s m args c cc nL own G) {id ci k idx r : Nat} {fl : List (Option Nat)} (hf : am_fld own ci idx k) (hk : am_sk[id]? = some (.inl (ci, fl))) (hl0 : fl[k]? = some (some r)) (hd : decode cc pc = .ok (.getfield idx, 3)) (kk : am_V p l e R s m args below meth c Q G A0 H0 nL kc ks (pc + 3) (lv) (am_R r :: st) (S)) : am_V p l e R s m args below meth c Q G A0 H0 nL kc ks (pc) (lv) (am_R id :: st) (S) := by
  intro h1 h2 h3 H locs ls hP hD hS hl
  obtain ⟨T, N, hc, hin, hkN, hT1, hlk⟩ := hf
  refine va_get C.1 C.2.1 C.2.2.2.2.1 hin C.2.2.2.1 C.2.2.2.2.2.1 hP id (am_W_at hk) hc k hkN (C.2.2.2.2.1 _ hlk) (fun x h => by rw [hT1] at h; exact h) (am_fs_ref G.1 S id fl 0 k r hl0) hd ?_
  exact kk h1 h2 (av_c _ trivial (av_t h3)) H locs ls hP hD hS hl
theorem av_putI (C : am_C p s m args c cc nL own G) {id ci k idx n : Nat} {fl : List (Option Nat)} {x : Int} (hf : am_fldP own ci idx k .int) (hk : am_sk[id]? = some (.inl (ci, fl))) (hl0 : fl[k]? = some none) (hn : 64 * id + k = n) (hd : decode cc pc = .ok (.putfield idx, 3)) (kk : am_V p l e R s m args below meth c Q G A0 H0 nL kc ks (pc + 3) (lv) (st) (am_sI S n x)) : am_V p l e R s m args below meth c Q G A0 H0 nL kc ks (pc) (lv) (am_I x :: am_R id :: st) (S) := by
  intro h1 h2 h3 H locs ls hP hD hS hl
  obtain ⟨T, N, ty0, hc, hin, hkN, hT1, hlk, hty, hnm, hfin, hpd⟩ := hf
  subst hn
  refine va_put C.1 C.2.1 C.2.2.2.2.1 hin ty0 hty hnm C.2.2.2.1 C.2.2.2.2.2.1 hP hD hS id (am_W_at hk) hc k hkN (C.2.2.2.2.1 _ hlk) (fun x h => by rw [hT1] at h; exact h) hfin hpd (rfl) (rfl) (by rw [am_fs_len]; exact (List.getElem?_eq_some_iff.mp hl0).1) hd (fun H1 locs1 hP1 hD1 hS1 => ?_)
  have e := am_W_setI (G := G) (S := S) x hk hl0
  exact kk (am_rS_I h1 (av_h h3)) h2 (av_t (av_t h3)) H1 locs1 ls (e ▸ hP1) (e ▸ hD1) hS1 hl
theorem av_putZ (C : am_C p s m args c cc nL own G) {id ci k idx n : Nat} {fl : List (Option Nat)} {x : Int} (hf : am_fldP own ci idx k .boolean) (hk : am_sk[id]? = some (.inl (ci, fl))) (hl0 : fl[k]? = some none) (hn : 64 * id + k = n) (hz : x = 0 ∨ x = 1) (hd : decode cc pc = .ok (.putfield idx, 3)) (kk : am_V p l e R s m args below meth c Q G A0 H0 nL kc ks (pc + 3) (lv) (st) (am_sI S n x)) : am_V p l e R s m args below meth c Q G A0 H0 nL kc ks (pc) (lv) (am_I x :: am_R id :: st) (S) := by
  intro h1 h2 h3 H locs ls hP hD hS hl
  obtain ⟨T, N, ty0, hc, hin, hkN, hT1, hlk, hty, hnm, hfin, hpd⟩ := hf
  subst hn
  refine va_put C.1 C.2.1 C.2.2.2.2.1 hin ty0 hty hnm C.2.2.2.1 C.2.2.2.2.2.1 hP hD hS id (am_W_at hk) hc k hkN (C.2.2.2.2.1 _ hlk) (fun x h => by rw [hT1] at h; exact h) hfin hpd (by rcases hz with rfl | rfl <;> rfl) (by rcases hz with rfl | rfl <;> rfl) (by rw [am_fs_len]; exact (List.getElem?_eq_some_iff.mp hl0).1) hd (fun H1 locs1 hP1 hD1 hS1 => ?_)
  have e := am_W_setI (G := G) (S := S) x hk hl0
  exact kk (am_rS_I h1 (av_h h3)) h2 (av_t (av_t h3)) H1 locs1 ls (e ▸ hP1) (e ▸ hD1) hS1 hl
theorem am_in {i : Int} {n : Nat} (hi : am_r32 i) (hb : 0 ≤ i ∧ i < (n : Int)) : vp_in (Int32.ofInt i) n := by
  intro h
  rcases h with h | h
  · rw [am_zero, am_lt hi am_r0] at h; omega
  · rw [am_toNat hi] at h; omega
theorem av_iald (C : am_C p s m args c cc nL own G) {id n : Nat} {i : Int} (hk : am_sk[id]? = some (.inr (0, n))) (hb : 0 ≤ i ∧ i < (n : Int)) (hd : decode cc pc = .ok (.iaload, 1)) (kk : am_V p l e R s m args below meth c Q G A0 H0 nL kc ks (pc + 1) (lv) (am_I (S.2 id i.toNat) :: st) (S)) : am_V p l e R s m args below meth c Q G A0 H0 nL kc ks (pc) (lv) (am_I i :: am_R id :: st) (S) := by
  intro h1 h2 h3 H locs ls hP hD hS hl
  have hi : am_r32 i := av_h h3
  refine va_iald C.1 C.2.1 C.2.2.2.2.2.1 hP id 0 (am_W_at hk) rfl (am_in hi hb) hd ?_
  rw [am_toNat hi]
  exact kk h1 h2 (av_c _ ((h1.2 id i.toNat).2 _ _ hk (by decide)) (av_t (av_t h3))) H locs ls hP hD hS hl
theorem av_zald (C : am_C p s m args c cc nL own G) {id n : Nat} {i : Int} (hk : am_sk[id]? = some (.inr (1, n))) (hb : 0 ≤ i ∧ i < (n : Int)) (hd : decode cc pc = .ok (.baload, 1)) (kk : am_V p l e R s m args below meth c Q G A0 H0 nL kc ks (pc + 1) (lv) (am_I (S.2 id i.toNat) :: st) (S)) : am_V p l e R s m args below meth c Q G A0 H0 nL kc ks (pc) (lv) (am_I i :: am_R id :: st) (S) := by
  intro h1 h2 h3 H locs ls hP hD hS hl
  have hi : am_r32 i := av_h h3
  refine va_zald C.1 C.2.1 C.2.2.2.2.2.1 hP id 1 (am_W_at hk) rfl (am_in hi hb) hd ?_
  rw [am_toNat hi]
  exact kk h1 h2 (av_c _ ((h1.2 id i.toNat).2 _ _ hk (by decide)) (av_t (av_t h3))) H locs ls hP hD hS hl
theorem av_lald (C : am_C p s m args c cc nL own G) {id n : Nat} {i : Int} (hk : am_sk[id]? = some (.inr (2, n))) (hb : 0 ≤ i ∧ i < (n : Int)) (hd : decode cc pc = .ok (.laload, 1)) (kk : am_V p l e R s m args below meth c Q G A0 H0 nL kc ks (pc + 1) (lv) (am_J (S.2 id i.toNat) :: st) (S)) : am_V p l e R s m args below meth c Q G A0 H0 nL kc ks (pc) (lv) (am_I i :: am_R id :: st) (S) := by
  intro h1 h2 h3 H locs ls hP hD hS hl
  have hi : am_r32 i := av_h h3
  refine va_lald C.1 C.2.1 C.2.2.2.2.2.1 hP id 2 (am_W_at hk) rfl (am_in hi hb) hd ?_
  rw [am_toNat hi]
  exact kk h1 h2 (av_c _ (h1.2 id i.toNat).1 (av_t (av_t h3))) H locs ls hP hD hS hl
theorem am_upd_ofInt (f : Nat → Int) (j : Nat) (x : Int) : upd (fun q => Int32.ofInt (f q)) j (Int32.ofInt x) = fun q => Int32.ofInt (am_up f j x q) := by
  funext q
  unfold upd am_up
  split <;> rfl
theorem am_updL_ofInt (f : Nat → Int) (j : Nat) (x : Int) : vp_updL (fun q => Int64.ofInt (f q)) j (Int64.ofInt x) = fun q => Int64.ofInt (am_up f j x q) := by
  funext q
  unfold vp_updL am_up
  split <;> rfl
theorem am_nar_z {x : Int} (hz : x = 0 ∨ x = 1) : vp_nar .boolean (Int32.ofInt x) = Int32.ofInt x := by rcases hz with rfl | rfl <;> rfl
theorem av_iast (C : am_C p s m args c cc nL own G) {id n : Nat} {i x : Int} (hk : am_sk[id]? = some (.inr (0, n))) (hb : 0 ≤ i ∧ i < (n : Int)) (hd : decode cc pc = .ok (.iastore, 1)) (kk : am_V p l e R s m args below meth c Q G A0 H0 nL kc ks (pc + 1) (lv) (st) (am_sA S id i.toNat x)) : am_V p l e R s m args below meth c Q G A0 H0 nL kc ks (pc) (lv) (am_I x :: am_I i :: am_R id :: st) (S) := by
  intro h1 h2 h3 H locs ls hP hD hS hl
  have hx : am_r32 x := av_h h3
  have hi : am_r32 i := av_h (av_t h3)
  refine va_iast C.1 C.2.1 C.2.2.2.2.2.1 hP hD hS id 0 (am_W_at hk) rfl (am_in hi hb) hd (fun H1 locs1 hP1 hD1 hS1 => ?_)
  rw [am_toNat hi, am_upd_ofInt] at hP1 hD1
  have e := am_W_setA (G := G) (S := S) (j := i.toNat) (x := x) (e := .inl (G.2.2.1, n, .inl (fun q => Int32.ofInt (am_up (S.2 id) i.toNat x q)))) hk (by simp [am_cell, am_sA, am_up])
  rw [e] at hP1 hD1
  exact kk (am_rS_A h1 (am_r64_of hx) (fun _ _ _ _ => hx)) h2 (av_t (av_t (av_t h3))) H1 locs1 ls hP1 hD1 hS1 hl
theorem av_zast (C : am_C p s m args c cc nL own G) {id n : Nat} {i x : Int} (hk : am_sk[id]? = some (.inr (1, n))) (hb : 0 ≤ i ∧ i < (n : Int)) (hz : x = 0 ∨ x = 1) (hd : decode cc pc = .ok (.bastore, 1)) (kk : am_V p l e R s m args below meth c Q G A0 H0 nL kc ks (pc + 1) (lv) (st) (am_sA S id i.toNat x)) : am_V p l e R s m args below meth c Q G A0 H0 nL kc ks (pc) (lv) (am_I x :: am_I i :: am_R id :: st) (S) := by
  intro h1 h2 h3 H locs ls hP hD hS hl
  have hx : am_r32 x := av_h h3
  have hi : am_r32 i := av_h (av_t h3)
  refine va_zast C.1 C.2.1 C.2.2.2.2.2.1 hP hD hS id 1 (am_W_at hk) rfl (am_in hi hb) hd (fun H1 locs1 hP1 hD1 hS1 => ?_)
  rw [am_nar_z hz, am_toNat hi, am_upd_ofInt] at hP1 hD1
  have e := am_W_setA (G := G) (S := S) (j := i.toNat) (x := x) (e := .inl (G.2.2.2.1, n, .inl (fun q => Int32.ofInt (am_up (S.2 id) i.toNat x q)))) hk (by simp [am_cell, am_sA, am_up])
  rw [e] at hP1 hD1
  exact kk (am_rS_A h1 (am_r64_of hx) (fun _ _ _ _ => hx)) h2 (av_t (av_t (av_t h3))) H1 locs1 ls hP1 hD1 hS1 hl
theorem av_last (C : am_C p s m args c cc nL own G) {id n : Nat} {i x : Int} (hk : am_sk[id]? = some (.inr (2, n))) (hb : 0 ≤ i ∧ i < (n : Int)) (hd : decode cc pc = .ok (.lastore, 1)) (kk : am_V p l e R s m args below meth c Q G A0 H0 nL kc ks (pc + 1) (lv) (st) (am_sA S id i.toNat x)) : am_V p l e R s m args below meth c Q G A0 H0 nL kc ks (pc) (lv) (am_J x :: am_I i :: am_R id :: st) (S) := by
  intro h1 h2 h3 H locs ls hP hD hS hl
  have hx : am_r64 x := av_h h3
  have hi : am_r32 i := av_h (av_t h3)
  refine va_last C.1 C.2.1 C.2.2.2.2.2.1 hP hD hS id 2 (am_W_at hk) rfl (am_in hi hb) hd (fun H1 locs1 hP1 hD1 hS1 => ?_)
  rw [am_toNat hi, am_updL_ofInt] at hP1 hD1
  have e := am_W_setA (G := G) (S := S) (j := i.toNat) (x := x) (e := .inl (G.2.2.2.2, n, .inr (.inl (fun q => Int64.ofInt (am_up (S.2 id) i.toNat x q))))) hk (by simp [am_cell, am_sA, am_up])
  rw [e] at hP1 hD1
  exact kk (am_rS_A h1 hx (fun t2 n2 h ht => by rw [hk] at h; cases h; omega)) h2 (av_t (av_t (av_t h3))) H1 locs1 ls hP1 hD1 hS1 hl
theorem av_alen (C : am_C p s m args c cc nL own G) {id t n : Nat} (hk : am_sk[id]? = some (.inr (t, n))) (ht : t < 3) (hr : am_rok (n : Int) = true) (hd : decode cc pc = .ok (.arraylength, 1)) (kk : am_V p l e R s m args below meth c Q G A0 H0 nL kc ks (pc + 1) (lv) (am_I (n : Int) :: st) (S)) : am_V p l e R s m args below meth c Q G A0 H0 nL kc ks (pc) (lv) (am_R id :: st) (S) := by
  intro h1 h2 h3 H locs ls hP hD hS hl
  have kk2 := kk h1 h2 (av_c _ (am_rok_r hr) (av_t h3)) H locs ls hP hD hS hl
  rcases (show t = 0 ∨ t = 1 ∨ t = 2 by omega) with rfl | rfl | rfl
  · exact va_alen C.1 C.2.1 C.2.2.2.2.2.1 hP id 0 (am_W_at hk) rfl rfl hd kk2
  · exact va_alen C.1 C.2.1 C.2.2.2.2.2.1 hP id 1 (am_W_at hk) rfl rfl hd kk2
  · exact va_alen C.1 C.2.1 C.2.2.2.2.2.1 hP id 2 (am_W_at hk) rfl rfl hd kk2
/-- a method's end: what it answers, the new state -/
def am_Q (G : am_G) (r : Option am_AV) (S' : am_S) : Array Value → State → Outcome → State → Prop := fun _ st oc t => (oc = .returned (r.map (am_cv G.1)) ∧ am_B G S' t ∧ am_rS S' ∧ ∀ v ∈ r, am_rv v) ∧ va_F (am_A G) st t
def am_Pc (G : am_G) (as : List am_AV) (S : am_S) : Array Value → State → Prop := va_Pc (as.map (am_cv G.1)) (fun U => am_B G S U ∧ am_rS S ∧ ∀ v ∈ as, am_rv v)
def am_ws (y : MethodName) (b : ByteArray) (mL : Nat) (ret : Option FieldType) : List Cond := Cond.code y b mL ret :: am_T
def am_rm (f lo : Nat) : Room := { frames := f, cells := 0, slots := 0, locals := lo }
/-- the contract of a method, started with these values at this state -/
def am_met (l : Launch) (y : MethodName) (b : ByteArray) (mL : Nat) (ret : Option FieldType) (f lo : Nat) (G : am_G) (as : List am_AV) (S : am_S) (r : Option am_AV) (S' : am_S) : Prop := Met l y (am_ws y b mL ret) (am_rm f lo) (am_Pc G as S) (am_Q G r S') 0 0 (am_A G)
theorem am_blind {as : List am_AV} : FrameBlind (am_Pc G as S) := fun a U g mk h => by
  obtain ⟨h0, ⟨hP, hK, hD, hN⟩, h1, h2⟩ := h
  exact ⟨h0, ⟨hP, va_K.moved (u := U) (U := U.calling g mk a) (Vm.Alike.refl U.vm) hK, hD, am_Nw.same (u := U) (U := U.calling g mk a) rfl hN⟩, h1, h2⟩
theorem am_goodin {y : MethodName} {b : ByteArray} {mL : Nat} {ret : Option FieldType} (h : Cond.code y b mL ret ∈ am_T) : GoodIn am_T (am_ws y b mL ret) := by
  intro w hw
  have hm : w ∈ am_T := by
    rcases List.mem_cons.mp hw with rfl | hw
    · exact h
    · exact hw
  exact ⟨hm, good_of_word (am_T_good w hm)⟩
/-- what the words say of a method -/
def am_y (y : MethodName) (b : ByteArray) (mL : Nat) (ret : Option FieldType) (n : Nat) : Prop := Cond.code y b mL ret ∈ am_T ∧ Cond.initialized y.cls ∈ am_T ∧ y.cls ≠ "java/lang/invoke/MethodHandle" ∧ y.cls ≠ "java/lang/invoke/VarHandle" ∧ (parseMethodDescriptor y.desc).map (fun d => d.parameters.length) = some n ∧ plainName y.cls = true
theorem am_D_of {H : Heap} (hD : va_D A0 (am_W G S)) : va_D (am_A G) (am_W G S) := hD.weaken (fun k q hq _ => by
  obtain ⟨k2, h1, h2⟩ := am_W_in hq
  exact ⟨k, k2, h1, by rw [h2]⟩)
theorem am_A_of (hD : va_D A0 (am_W G S)) : ∀ q, am_A G q → A0 q := fun q h => by
  obtain ⟨id, k, h1, rfl⟩ := h
  exact hD.2 id _ (am_W_at h1)
theorem am_D_to {S2 : am_S} (hD : va_D A0 (am_W G S)) (h2 : va_D (am_A G) (am_W G S2)) : va_D A0 (am_W G S2) := h2.weaken (fun _ q _ h => am_A_of hD q.1 h)
theorem av_call {r : Option am_AV} {S2 : am_S} {rest : List am_AV} {a : Array Value} {H : Heap} {locs : List Loc} {ls : Array Slot} {st0 : List Value} (C : am_C p s m args c cc nL own G) (hr : va_Run p l e R s m args below meth c H locs kc ks 0 0 (F0 m pc ls st0) (rest.map (am_cv G.1)) (am_Q G r S2 a) (am_A G))
    (hD : va_D A0 (am_W G S)) (hS : va_S A0 H0 H locs) (h2 : ∀ q ∈ lv, am_rv q.2) (h3 : ∀ v ∈ rest, am_rv v) (hl : lv_has ls nL (lv.map (fun q => (q.1, am_cv G.1 q.2))))
    (kk : (∀ v ∈ r, am_rv v) → am_V p l e R s m args below meth c Q G A0 H0 nL kc ks (pc + 3) (lv) (r.toList ++ rest) (S2)) : W p l e R s m args below meth c H locs kc ks Q (F0 m pc ls st0) := by
  intro T hT X
  obtain ⟨v, st₀, t, T', L, h0, X', hL, e1, e2, ⟨⟨hv, ⟨hP2, hK2, hD2, hN2⟩, hrS, hrv⟩, hz, hk⟩, st⟩ := hr T hT X
  have hv2 : v = r.map (am_cv G.1) := Outcome.returned.inj hv
  subst hv2
  rw [h0] at hz hk
  have hAA := am_A_of hD
  obtain ⟨t2, a1, b1⟩ := kk hrv hrS h2 (by
    cases r with
    | none => exact h3
    | some x => exact av_c x (hrv x rfl) h3) T'.heap (locs ++ L) ls (by rw [e1]; exact hP2) (am_D_to hD hD2)
    ⟨Nat.le_trans hS.1 (by rw [e1]; exact hz), fun q h1 h2 => by rw [e1, hk q (Nat.lt_of_lt_of_le h1 hS.1) (fun z => h2 (hAA q z))]; exact hS.2.1 q h1 h2, fun q hq => by
      rcases List.mem_append.mp hq with h | h
      · exact hS.2.2 q h
      · exact hAA _ (hL q h)⟩ hl T' rfl X'
  refine ⟨t2, st t2 ?_, b1⟩
  cases r <;> exact a1
theorem am_sum (as : List am_AV) : ((as.map (am_cv G.1)).map fun v => v.category) = as.map am_cat := by
  rw [List.map_map]; apply List.map_congr_left; intro a _; exact am_cat_cv G.1 a
theorem av_callV (C : am_C p s m args c cc nL own G) {y : MethodName} {b : ByteArray} {mL f lo n idx : Nat} {ret : Option FieldType} {as rest : List am_AV} {r : Option am_AV} {S2 : am_S} {id ci : Nat} {fl : List (Option Nat)} {T : u_T} {N : Nat} (hM : am_met l y b mL ret f lo G (am_R id :: as) S r S2) (hy : am_y y b mL ret n) (hsite : Cond.methodLink own idx y ∈ am_T) (hi : Cond.instanceMethod y ∈ am_T) (hsel : Cond.selects y.cls y y ∈ am_T) (hkr : am_sk[id]? = some (.inl (ci, fl))) (hcl : vwCl[ci]? = some (y.cls, T, N)) (hR : f + 1 ≤ R.frames ∧ 8 + (mL + 11) + lo ≤ R.locals) (hn : as.length = n) (hst : st = as.reverse ++ am_R id :: rest) (hW : (rest.map am_cat).sum ≤ 8) (hd : decode cc pc = .ok (.invokevirtual idx, 3)) (hcap : kc ≤ R.cells ∧ ks ≤ R.slots) (kk : (∀ v ∈ r, am_rv v) → am_V p l e R s m args below meth c Q G A0 H0 nL kc ks (pc + 3) (lv) (r.toList ++ rest) (S2)) : am_V p l e R s m args below meth c Q G A0 H0 nL kc ks (pc) (lv) (st) (S) := by
  intro h1 h2 h3 H locs ls hP hD hS hl
  subst hst
  have hras : ∀ v ∈ am_R id :: as, am_rv v := by
    intro v hv
    apply h3 v
    simp only [List.mem_cons, List.mem_append, List.mem_reverse] at hv ⊢
    rcases hv with h | h
    · exact Or.inr (Or.inl h)
    · exact Or.inl h
  have hrr : ∀ v ∈ rest, am_rv v := fun v hv => h3 v (by simp [hv])
  have hn2 : ∀ sig, parseMethodDescriptor y.desc = some sig → n = sig.parameters.length := fun sig h => by
    have h5 := hy.2.2.2.2.1
    rw [h] at h5
    exact (Option.some.inj h5).symm
  refine av_call C (hr := va_runV (As := as.map (am_cv G.1)) (rest := rest.map (am_cv G.1)) (Ts := am_T) (n := n) (b := G.1 id) ⟨C.1, C.2.1, C.2.2.1, C.2.2.2.1, C.2.2.2.2.1⟩ hM ⟨⟨rfl, rfl, hR.1, hR.2, pay_in C.2.2.2.2.1 (am_goodin hy.1), List.mem_cons_self, C.2.2.2.2.1 _ hy.1, C.2.2.2.2.1 _ hy.2.1, ⟨hy.2.2.1, hy.2.2.2.1⟩, hn2, C.2.2.2.2.1 _ hsite⟩, C.2.2.2.2.1 _ hi, C.2.2.2.2.1 _ hsel⟩ ⟨am_blind, va_recv (ws := am_W G S) C.2.2.2.2.2.1 hP hcl (am_W_at hkr), fun U hU hW => ⟨rfl, ⟨by rw [hU]; exact hP, va_K.moved hW.alike C.2.2.2.2.2.1, am_D_of (H := H) hD, am_Nw.warm hW C.2.2.2.2.2.2⟩, h1, hras⟩⟩ rfl (by rw [List.length_map]; exact hn) hl.1 (by simp [am_cv]) (lv_room (by rw [am_sum]; exact hW)) hd ⟨hcap.1, hcap.2⟩) hD hS h2 hrr hl kk
theorem av_callS (C : am_C p s m args c cc nL own G) {y : MethodName} {b : ByteArray} {mL f lo n idx : Nat} {ret : Option FieldType} {as rest : List am_AV} {r : Option am_AV} {S2 : am_S} (hM : am_met l y b mL ret f lo G (as) S r S2) (hy : am_y y b mL ret n) (hsite : Cond.methodLink own idx y ∈ am_T) (hi : Cond.static y ∈ am_T) (hR : f + 1 ≤ R.frames ∧ 8 + (mL + 11) + lo ≤ R.locals) (hn : as.length = n) (hst : st = as.reverse ++ rest) (hW : (rest.map am_cat).sum ≤ 8) (hd : decode cc pc = .ok (.invokestatic idx, 3)) (hcap : kc ≤ R.cells ∧ ks ≤ R.slots) (kk : (∀ v ∈ r, am_rv v) → am_V p l e R s m args below meth c Q G A0 H0 nL kc ks (pc + 3) (lv) (r.toList ++ rest) (S2)) : am_V p l e R s m args below meth c Q G A0 H0 nL kc ks (pc) (lv) (st) (S) := by
  intro h1 h2 h3 H locs ls hP hD hS hl
  subst hst
  have hras : ∀ v ∈ as, am_rv v := by
    intro v hv
    apply h3 v
    simp only [List.mem_cons, List.mem_append, List.mem_reverse] at hv ⊢
    exact Or.inl hv
  have hrr : ∀ v ∈ rest, am_rv v := fun v hv => h3 v (by simp [hv])
  have hn2 : ∀ sig, parseMethodDescriptor y.desc = some sig → n = sig.parameters.length := fun sig h => by
    have h5 := hy.2.2.2.2.1
    rw [h] at h5
    exact (Option.some.inj h5).symm
  refine av_call C (hr := va_runS (As := as.map (am_cv G.1)) (rest := rest.map (am_cv G.1)) (Ts := am_T) (n := n) ⟨C.1, C.2.1, C.2.2.1, C.2.2.2.1, C.2.2.2.2.1⟩ hM ⟨⟨rfl, rfl, hR.1, hR.2, pay_in C.2.2.2.2.1 (am_goodin hy.1), List.mem_cons_self, C.2.2.2.2.1 _ hy.1, C.2.2.2.2.1 _ hy.2.1, ⟨hy.2.2.1, hy.2.2.2.1⟩, hn2, C.2.2.2.2.1 _ hsite⟩, C.2.2.2.2.1 _ hi⟩ ⟨am_blind, fun U hU hW => ⟨rfl, ⟨by rw [hU]; exact hP, va_K.moved hW.alike C.2.2.2.2.2.1, am_D_of (H := H) hD, am_Nw.warm hW C.2.2.2.2.2.2⟩, h1, hras⟩⟩ rfl (by rw [List.length_map]; exact hn) hl.1 (by simp [am_cv]) (lv_room (by rw [am_sum]; exact hW)) hd ⟨hcap.1, hcap.2⟩) hD hS h2 hrr hl kk
theorem av_callSN (C : am_C p s m args c cc nL own G) {y : MethodName} {b : ByteArray} {mL f lo n idx : Nat} {ret : Option FieldType} {as rest : List am_AV} {r : Option am_AV} {S2 : am_S} {host : String} (hM : am_met l y b mL ret f lo G (as) S r S2) (hy : am_y y b mL ret n) (hsite : (own, idx, y, host) ∈ am_nest) (hi : Cond.static y ∈ am_T) (hR : f + 1 ≤ R.frames ∧ 8 + (mL + 11) + lo ≤ R.locals) (hn : as.length = n) (hst : st = as.reverse ++ rest) (hW : (rest.map am_cat).sum ≤ 8) (hd : decode cc pc = .ok (.invokestatic idx, 3)) (hcap : kc ≤ R.cells ∧ ks ≤ R.slots) (kk : (∀ v ∈ r, am_rv v) → am_V p l e R s m args below meth c Q G A0 H0 nL kc ks (pc + 3) (lv) (r.toList ++ rest) (S2)) : am_V p l e R s m args below meth c Q G A0 H0 nL kc ks (pc) (lv) (st) (S) := by
  intro h1 h2 h3 H locs ls hP hD hS hl
  subst hst
  have hras : ∀ v ∈ as, am_rv v := by
    intro v hv
    apply h3 v
    simp only [List.mem_cons, List.mem_append, List.mem_reverse] at hv ⊢
    exact Or.inl hv
  have hrr : ∀ v ∈ rest, am_rv v := fun v hv => h3 v (by simp [hv])
  have hn2 : ∀ sig, parseMethodDescriptor y.desc = some sig → n = sig.parameters.length := fun sig h => by
    have h5 := hy.2.2.2.2.1
    rw [h] at h5
    exact (Option.some.inj h5).symm
  refine av_call C (hr := va_runSN (As := as.map (am_cv G.1)) (rest := rest.map (am_cv G.1)) (Ts := am_T) (n := n) ⟨C.1, C.2.1, C.2.2.1, C.2.2.2.1, C.2.2.2.2.1⟩ hM ⟨⟨⟨rfl, rfl, hR.1, hR.2, pay_in C.2.2.2.2.1 (am_goodin hy.1), List.mem_cons_self⟩, C.2.2.2.2.1 _ hy.1, C.2.2.2.2.1 _ hy.2.1, ⟨hy.2.2.1, hy.2.2.2.1⟩, hn2, va_Nw.use rfl (C.2.2.2.2.2.2 _ hsite)⟩, C.2.2.2.2.1 _ hi, trivial⟩ ⟨am_blind, fun U hU hW => ⟨rfl, ⟨by rw [hU]; exact hP, va_K.moved hW.alike C.2.2.2.2.2.1, am_D_of (H := H) hD, am_Nw.warm hW C.2.2.2.2.2.2⟩, h1, hras⟩⟩ rfl (by rw [List.length_map]; exact hn) hl.1 (by simp [am_cv]) (lv_room (by rw [am_sum]; exact hW)) hd ⟨hcap.1, hcap.2⟩) hD hS h2 hrr hl kk
theorem av_mmax (C : am_C p s m args c cc nL own G) {x y : Int} {idx : Nat} (hl1 : Cond.methodLink own idx Lib.Math.max.name ∈ am_T) (hs1 : Cond.static Lib.Math.max.name ∈ am_T) (hi1 : Cond.initialized "java/lang/Math" ∈ am_T) (hc1 : Cond.code Lib.Math.max.name Lib.Math.max.code 2 (some .int) ∈ am_T) (hR : 1 ≤ R.frames ∧ 21 ≤ R.locals) (hW : (st.map am_cat).sum ≤ 8) (hd : decode cc pc = .ok (.invokestatic idx, 3)) (hcap : kc ≤ R.cells ∧ ks ≤ R.slots) (kk : am_V p l e R s m args below meth c Q G A0 H0 nL kc ks (pc + 3) (lv) (am_I (am_max x y) :: st) (S)) : am_V p l e R s m args below meth c Q G A0 H0 nL kc ks (pc) (lv) (am_I y :: am_I x :: st) (S) := by
  intro h1 h2 h3 H locs ls hP hD hS hl
  have hy : am_r32 y := av_h h3
  have hx : am_r32 x := av_h (av_t h3)
  have hr : am_r32 (am_max x y) := by unfold am_max; split <;> assumption
  have kk2 := kk h1 h2 (av_c _ hr (av_t (av_t h3))) H locs ls hP hD hS hl
  refine va_mmax C.1 C.2.1 (C.2.2.1.trans hl.1.symm) C.2.2.2.1 (C.2.2.2.2.1 _ hl1) (C.2.2.2.2.1 _ hs1) (C.2.2.2.2.1 _ hi1) (C.2.2.2.2.1 _ hc1) hR.1 (by rw [am_sum]; omega) hcap.1 hcap.2 hd ?_
  have e : (if Int32.ofInt x < Int32.ofInt y then Int32.ofInt y else Int32.ofInt x) = Int32.ofInt (am_max x y) := by
    unfold am_max
    by_cases h : x < y
    · rw [if_pos h, if_pos ((am_lt hx hy).mpr h)]
    · rw [if_neg h, if_neg (fun q => h ((am_lt hx hy).mp q))]
  rw [e]
  exact kk2
theorem av_mmin (C : am_C p s m args c cc nL own G) {x y : Int} {idx : Nat} (hl1 : Cond.methodLink own idx Lib.Math.min.name ∈ am_T) (hs1 : Cond.static Lib.Math.min.name ∈ am_T) (hi1 : Cond.initialized "java/lang/Math" ∈ am_T) (hc1 : Cond.code Lib.Math.min.name Lib.Math.min.code 2 (some .int) ∈ am_T) (hR : 1 ≤ R.frames ∧ 21 ≤ R.locals) (hW : (st.map am_cat).sum ≤ 8) (hd : decode cc pc = .ok (.invokestatic idx, 3)) (hcap : kc ≤ R.cells ∧ ks ≤ R.slots) (kk : am_V p l e R s m args below meth c Q G A0 H0 nL kc ks (pc + 3) (lv) (am_I (am_min x y) :: st) (S)) : am_V p l e R s m args below meth c Q G A0 H0 nL kc ks (pc) (lv) (am_I y :: am_I x :: st) (S) := by
  intro h1 h2 h3 H locs ls hP hD hS hl
  have hy : am_r32 y := av_h h3
  have hx : am_r32 x := av_h (av_t h3)
  have hr : am_r32 (am_min x y) := by unfold am_min; split <;> assumption
  have kk2 := kk h1 h2 (av_c _ hr (av_t (av_t h3))) H locs ls hP hD hS hl
  refine va_mmin C.1 C.2.1 (C.2.2.1.trans hl.1.symm) C.2.2.2.1 (C.2.2.2.2.1 _ hl1) (C.2.2.2.2.1 _ hs1) (C.2.2.2.2.1 _ hi1) (C.2.2.2.2.1 _ hc1) hR.1 (by rw [am_sum]; omega) hcap.1 hcap.2 hd ?_
  have e : (if Int32.ofInt y < Int32.ofInt x then Int32.ofInt y else Int32.ofInt x) = Int32.ofInt (am_min x y) := by
    unfold am_min
    by_cases h : y < x
    · rw [if_pos h, if_pos ((am_lt hy hx).mpr h)]
    · rw [if_neg h, if_neg (fun q => h ((am_lt hy hx).mp q))]
  rw [e]
  exact kk2
/-! the end of a method -/

theorem av_iret (C : am_C p s m args c cc nL own G) {x : Int} (hr : meth.sig.returnType = some .int) (hlocks : meth.locks = false) (hd : decode cc pc = .ok (.ireturn, 1)) : am_V p l e R s m args below meth c (MQ below (am_Q G (some (am_I x)) S) args s kc ks (am_A G)) G (am_A G) s.heap nL kc ks pc lv [am_I x] S := by
  intro h1 h2 h3 H locs ls hP hD hS hl
  exact W.iret C.1 C.2.1 hr (fun t ht hW => ⟨⟨rfl, ⟨by rw [ht]; exact hP, va_K.moved hW.alike C.2.2.2.2.2.1, hD, am_Nw.warm hW C.2.2.2.2.2.2⟩, h1, fun v hv => by cases hv; exact av_h h3⟩, hS.F ht⟩) hS.2.2 hd hlocks
theorem av_zret (C : am_C p s m args c cc nL own G) {x : Int} (hz : x = 0 ∨ x = 1) (hr : meth.sig.returnType = some .boolean) (hlocks : meth.locks = false) (hd : decode cc pc = .ok (.ireturn, 1)) : am_V p l e R s m args below meth c (MQ below (am_Q G (some (am_I x)) S) args s kc ks (am_A G)) G (am_A G) s.heap nL kc ks pc lv [am_I x] S := by
  intro h1 h2 h3 H locs ls hP hD hS hl
  exact W.zret C.1 C.2.1 hr (by rcases hz with rfl | rfl <;> rfl) (fun t ht hW => ⟨⟨rfl, ⟨by rw [ht]; exact hP, va_K.moved hW.alike C.2.2.2.2.2.1, hD, am_Nw.warm hW C.2.2.2.2.2.2⟩, h1, fun v hv => by cases hv; exact av_h h3⟩, hS.F ht⟩) hS.2.2 hd hlocks
theorem av_lret (C : am_C p s m args c cc nL own G) {x : Int} (hr : meth.sig.returnType = some .long) (hlocks : meth.locks = false) (hd : decode cc pc = .ok (.lreturn, 1)) : am_V p l e R s m args below meth c (MQ below (am_Q G (some (am_J x)) S) args s kc ks (am_A G)) G (am_A G) s.heap nL kc ks pc lv [am_J x] S := by
  intro h1 h2 h3 H locs ls hP hD hS hl
  exact W.lret C.1 C.2.1 hr (fun t ht hW => ⟨⟨rfl, ⟨by rw [ht]; exact hP, va_K.moved hW.alike C.2.2.2.2.2.1, hD, am_Nw.warm hW C.2.2.2.2.2.2⟩, h1, fun v hv => by cases hv; exact av_h h3⟩, hS.F ht⟩) hS.2.2 hd hlocks
theorem av_vret (C : am_C p s m args c cc nL own G) (hr : meth.sig.returnType = none) (hlocks : meth.locks = false) (hd : decode cc pc = .ok (.return_, 1)) : am_V p l e R s m args below meth c (MQ below (am_Q G none S) args s kc ks (am_A G)) G (am_A G) s.heap nL kc ks pc lv [] S := by
  intro h1 h2 h3 H locs ls hP hD hS hl
  exact W.vret C.1 C.2.1 hr (fun t ht hW => ⟨⟨rfl, ⟨by rw [ht]; exact hP, va_K.moved hW.alike C.2.2.2.2.2.1, hD, am_Nw.warm hW C.2.2.2.2.2.2⟩, h1, fun v hv => by cases hv⟩, hS.F ht⟩) hS.2.2 hd hlocks
end AMV
def am_args : Nat → List am_AV → List (Nat × am_AV)
  | _, [] => []
  | i, v :: vs => (i, v) :: am_args (if am_cat v = 2 then i + 2 else i + 1) vs
theorem am_args_map (ad : Nat → Nat) : ∀ (as : List am_AV) (i : Nat), lv_args i (as.map (am_cv ad)) = (am_args i as).map (fun q => (q.1, am_cv ad q.2))
  | [], _ => rfl
  | v :: vs, i => by
    simp only [List.map_cons, lv_args, am_args]
    rw [am_cat_cv, am_args_map ad vs]
theorem am_args_r {as : List am_AV} (h : ∀ v ∈ as, am_rv v) : ∀ (i : Nat), ∀ q ∈ am_args i as, am_rv q.2 := by
  induction as with
  | nil => intro i q hq; cases hq
  | cons v vs ih =>
    intro i q hq
    rcases List.mem_cons.mp hq with rfl | hq
    · exact h v List.mem_cons_self
    · exact ih (fun w hw => h w (List.mem_cons_of_mem _ hw)) _ q hq
theorem am_sl_len (ad : Nat → Nat) : ∀ (as : List am_AV), (lg_sl (as.map (am_cv ad))).length = (as.map am_cat).sum
  | [] => rfl
  | v :: vs => by
    have ih := am_sl_len ad vs
    simp only [List.map_cons, lg_sl, List.flatMap_cons, List.length_append, List.sum_cons] at ih ⊢
    rw [ih, am_cat_cv]
    rcases v with x | x | k <;> rfl
/-- a method's contract, out of the walk of its body -/
theorem am_enter {l : Launch} {y : MethodName} {b : ByteArray} {mL n f lo : Nat} {ret : Option FieldType} {G : am_G} {as : List am_AV} {S : am_S} {r : Option am_AV} {S2 : am_S} (hy : am_y y b mL ret n) (hlen : (as.map am_cat).sum ≤ mL)
    (body : ∀ (p : Program) (e : Env) (s : State) (m : MethodId) (args : Array Value) (below : List Frame) (meth : Method) (c : Code), am_C p s m args c b mL y.cls G → meth.sig.returnType = ret → meth.locks = false → am_V p l e (am_rm f lo) s m args below meth c (MQ below (am_Q G r S2) args s 0 0 (am_A G)) G (am_A G) s.heap mL 0 0 0 (am_args 0 as) [] S) : am_met l y b mL ret f lo G as S r S2 := by
  refine Met.ofW (cc := b) (maxL := mL) (ret := ret) hy.2.2.2.2.2 rfl ?_
  intro p e s m args below meth c s₁ B hml hv
  obtain ⟨rfl, ⟨hP, hK, hD, hN⟩, hrS, hras⟩ := hv
  have hts := atoms_spec (ws := am_ws y b mL ret) B.pre
  have hown : s.vm.findClass y.cls = some m.cls := findClass_of_methodNamed B.named
  have hl := lv_entry (as.map (am_cv G.1)) (n := mL) (by rw [am_sl_len]; exact hlen)
  rw [lg_entry_eq]
  rw [am_args_map] at hl
  exact body p e s m _ below meth c ⟨B.exec, B.bytes, hml, hown, fun w hw => hts w (List.mem_cons_of_mem _ hw), hK, hN⟩ B.returns B.notSynchronized hrS (am_args_r hras 0) (fun v hv => by cases hv) s.heap [] _ hP hD va_S.rf hl
