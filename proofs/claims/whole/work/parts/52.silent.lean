/-! Thenables: a row that is filled, the constructor; printed by gen52.py -/
section BN2
variable {p : Program} {l : Launch} {e : Env} {R : Room} {s : State} {m : MethodId} {args : Array Value} {below : List Frame} {meth : Method} {c : Code} {Q : State → Prop} {G : am_G} {A0 : Nat → Prop} {H0 : Heap} {nL kc ks : Nat} {cc : ByteArray} {own : String}
variable {pc : Nat} {lv : List (Nat × Value)} {st : List Value} {ws : va_W}
theorem bn_fm {ws ws2 : va_W} {ps : List Nat} (h : ps.map (fun i => ws[i]?) = ws2.map some) : ps.filterMap (fun i => ws[i]?) = ws2 := by
  have e := congrArg (List.filterMap id) h
  rw [List.filterMap_map, List.filterMap_map] at e
  simpa using e
theorem bn_sub (ps : List Nat) (ws2 : va_W) (hn : va_nd ps = true) (h : ps.map (fun i => ws[i]?) = ws2.map some) (kk : bn_V p l e R s m args below meth c Q G A0 H0 nL kc ks pc lv st ws2) : bn_V p l e R s m args below meth c Q G A0 H0 nL kc ks pc lv st ws :=
  fun H locs ls hP hD hS hl => kk H locs ls (hP.sub ps (bn_fm h)) (hD.sub ps hn h) hS hl
theorem bn_ldc2 (C : am_C p s m args c cc nL own G) {idx : Nat} {x : Int64} (hw : Cond.constantLong own idx x ∈ am_T) (hd : decode cc pc = .ok (.ldc2_w idx, 3)) (kk : bn_V p l e R s m args below meth c Q G A0 H0 nL kc ks (pc + 3) lv (.long x :: st) ws) : bn_V p l e R s m args below meth c Q G A0 H0 nL kc ks pc lv st ws :=
  fun H locs ls hP hD hS hl => W.ldc2 C.1 C.2.1 C.2.2.2.1 (C.2.2.2.2.1 _ hw) rfl hd (kk H locs ls hP hD hS hl)
theorem bn_istore_n (C : am_C p s m args c cc nL own G) {k : Fin 4} {i : Nat} {x : Int32} {lv2 : List (Nat × Value)} (hd : decode cc pc = .ok (.istore_n k, 1)) (hi : (k : Nat) = i) (hn : i < nL) (hlv : (i, Value.int x) :: lv.filter (fun q => !(q.1 == i) && !(q.1 + 1 == i && q.2.category == 2)) = lv2) (kk : bn_V p l e R s m args below meth c Q G A0 H0 nL kc ks (pc + 1) lv2 st ws) : bn_V p l e R s m args below meth c Q G A0 H0 nL kc ks pc lv (.int x :: st) ws :=
  fun H locs ls hP hD hS hl => lv_istore_n C.1 C.2.1 hd hi hl hn hlv (fun ls' hl' => kk H locs ls' hP hD hS hl')
theorem bn_iinc (C : am_C p s m args c cc nL own G) {i j : Nat} {n : Int} {x v : Int32} {lv2 : List (Nat × Value)} (hd : decode cc pc = .ok (.iinc i n, 3)) (h : lv[j]? = some (i, .int x)) (hv : x + Int32.ofInt n = v) (hn : i < nL) (hlv : (i, Value.int v) :: lv.filter (fun q => !(q.1 == i) && !(q.1 + 1 == i && q.2.category == 2)) = lv2) (kk : bn_V p l e R s m args below meth c Q G A0 H0 nL kc ks (pc + 3) lv2 st ws) : bn_V p l e R s m args below meth c Q G A0 H0 nL kc ks pc lv st ws :=
  fun H locs ls hP hD hS hl => lv_iinc (k := j) C.1 C.2.1 hd hl h hv hn hlv (fun ls' hl' => kk H locs ls' hP hD hS hl')
theorem bn_icmp_ge (C : am_C p s m args c cc nL own G) {x y off : Int} {tgt : Nat} (hx : am_r32 x) (hy : am_r32 y) (hd : decode cc pc = .ok (.if_icmp .ge off, 3)) (ht : (pc : Int) + off = (tgt : Int)) (kt : y ≤ x → bn_V p l e R s m args below meth c Q G A0 H0 nL kc ks tgt lv st ws) (kf : ¬ y ≤ x → bn_V p l e R s m args below meth c Q G A0 H0 nL kc ks (pc + 3) lv st ws) : bn_V p l e R s m args below meth c Q G A0 H0 nL kc ks pc lv (.int (Int32.ofInt y) :: .int (Int32.ofInt x) :: st) ws := by
  intro H locs ls hP hD hS hl
  have hi := am_le hy hx
  exact lv_icmp_ge C.1 C.2.1 hd ht (fun hc => kt (hi.mp hc) H locs ls hP hD hS hl) (fun hc => kf (fun h => hc (hi.mpr h)) H locs ls hP hD hS hl)
theorem bn_alen (C : am_C p s m args c cc nL own G) {a n : Nat} {f : (Nat → Int32) ⊕ (Nat → Int64) ⊕ (Nat → UInt32) ⊕ (Nat → UInt64) ⊕ (Nat → Option Nat)} (i : Nat) (he : ws[i]? = some (a, .inl (G.2.2.2.2, n, f))) (hd : decode cc pc = .ok (.arraylength, 1)) (kk : bn_V p l e R s m args below meth c Q G A0 H0 nL kc ks (pc + 1) lv (.int (Int32.ofInt (n : Int)) :: st) ws) : bn_V p l e R s m args below meth c Q G A0 H0 nL kc ks pc lv (.ref a :: st) ws :=
  fun H locs ls hP hD hS hl => va_alen C.1 C.2.1 C.2.2.2.2.2.1 hP i 2 he (show (am_tys G)[2]? = some (G.2.2.2.2, .long) from rfl) rfl hd (kk H locs ls hP hD hS hl)
theorem bn_last (C : am_C p s m args c cc nL own G) {a n : Nat} {f : Nat → Int64} {j : Nat} {x : Int64} (i : Nat) (he : ws[i]? = some (a, .inl (G.2.2.2.2, n, .inr (.inl f)))) (hj : j < n ∧ j < 2147483648) (hd : decode cc pc = .ok (.lastore, 1)) (kk : bn_V p l e R s m args below meth c Q G A0 H0 nL kc ks (pc + 1) lv st (ws.set i (a, .inl (G.2.2.2.2, n, .inr (.inl (vp_updL f j x)))))) : bn_V p l e R s m args below meth c Q G A0 H0 nL kc ks pc lv (.long x :: .int (Int32.ofInt (j : Int)) :: .ref a :: st) ws := by
  intro H locs ls hP hD hS hl
  have hr : am_r32 (j : Int) := by unfold am_r32; omega
  refine va_last C.1 C.2.1 C.2.2.2.2.2.1 hP hD hS i 2 he rfl (am_in hr (by omega)) hd (fun H1 locs1 hP1 hD1 hS1 => ?_)
  rw [am_toNat hr, Int.toNat_natCast] at hP1 hD1
  exact kk H1 locs1 ls hP1 hD1 hS1 hl
theorem bn_callV {X : Type} {W' : X → va_W} {y : MethodName} {b : ByteArray} {mL f lo mc ms n idx b0 ci N : Nat} {As rest : List Value} {T : u_T} {fs : List Value} (wr : va_W) {wc : va_W} (C : am_C p s m args c cc nL own G) (hA : ∀ q, H0.size ≤ q → A0 q) (hM : bn_met l y b mL f lo mc ms G (.ref b0 :: As) wc W') (hy : am_y y b mL none n) (hi : Cond.instanceMethod y ∈ am_T) (hsel : Cond.selects y.cls y y ∈ am_T) (hsite : Cond.methodLink own idx y ∈ am_T) (i : Nat) (he : ws[i]? = some (b0, .inr (ci, fs))) (hcl : vwCl[ci]? = some (y.cls, T, N)) (hR : f + 1 ≤ R.frames ∧ 8 + (mL + 11) + lo ≤ R.locals) (hn : As.length = n) (hW : (rest.map fun v => v.category).sum ≤ 8) (hcap : kc + mc ≤ R.cells ∧ ks + ms ≤ R.slots) (hst : st = As.reverse ++ .ref b0 :: rest) (hws : ws = wr ++ wc) (hd : decode cc pc = .ok (.invokevirtual idx, 3))
    (kk : ∀ u, bn_V p l e R s m args below meth c Q G A0 H0 nL (kc + mc) (ks + ms) (pc + 3) lv rest (wr ++ W' u)) : bn_V p l e R s m args below meth c Q G A0 H0 nL kc ks pc lv st ws := by
  intro H locs ls hP hD hS hl
  subst hst
  have hn2 : ∀ sig, parseMethodDescriptor y.desc = some sig → n = sig.parameters.length := fun sig h => by
    have h5 := hy.2.2.2.2.1
    rw [h] at h5
    exact (Option.some.inj h5).symm
  have hrc := va_recv (ws := ws) C.2.2.2.2.2.1 hP hcl he
  subst hws
  obtain ⟨ok1, ok2⟩ := bn_ok (as := .ref b0 :: As) C hP hD
  refine bn_back C hA (va_runV (As := As) (rest := rest) (Ts := am_T) (n := n) (b := b0) ⟨C.1, C.2.1, C.2.2.1, C.2.2.2.1, C.2.2.2.2.1⟩ (hM H.size) ⟨⟨rfl, rfl, hR.1, hR.2, pay_in C.2.2.2.2.1 (am_goodin hy.1), List.mem_cons_self, C.2.2.2.2.1 _ hy.1, C.2.2.2.2.1 _ hy.2.1, ⟨hy.2.2.1, hy.2.2.2.1⟩, hn2, C.2.2.2.2.1 _ hsite⟩, C.2.2.2.2.1 _ hi, C.2.2.2.2.1 _ hsel⟩ ⟨ok1, hrc, ok2⟩ rfl hn hl.1 rfl (lv_room hW) hd hcap) hP hD hS hl kk
end BN2
theorem bn_enterV {X : Type} {W' : X → va_W} {l : Launch} {y : MethodName} {b : ByteArray} {mL n f lo mc ms : Nat} {G : am_G} {as : List Value} {ws : va_W} {lv : List (Nat × Value)} (hy : am_y y b mL none n) (hlen : (lg_sl as).length ≤ mL) (hlv : lv_args 0 as = lv)
    (body : ∀ (p : Program) (e : Env) (s : State) (m : MethodId) (args : Array Value) (below : List Frame) (meth : Method) (c : Code), am_C p s m args c b mL y.cls G → meth.sig.returnType = none → meth.locks = false → (∀ q, s.heap.size ≤ q → va_A ws s.heap.size q) → bn_V p l e ({ frames := f, cells := mc, slots := ms, locals := lo }) s m args below meth c (MQ below (bn_Qc G ws s.heap.size W') args s mc ms (va_A ws s.heap.size)) G (va_A ws s.heap.size) s.heap mL 0 0 0 lv [] ws) : bn_met l y b mL f lo mc ms G as ws W' := by
  intro sz
  refine Met.ofW (cc := b) (maxL := mL) (ret := none) hy.2.2.2.2.2 rfl ?_
  intro p e s m args below meth c s₁ B hml hv
  obtain ⟨rfl, hsz, hP, hK, hD, hN⟩ := hv
  subst hsz
  have hts := atoms_spec (ws := am_ws y b mL none) B.pre
  have hown : s.vm.findClass y.cls = some m.cls := findClass_of_methodNamed B.named
  have hl := lv_entry as (n := mL) hlen
  rw [lg_entry_eq]
  subst hlv
  exact body p e s m _ below meth c ⟨B.exec, B.bytes, hml, hown, fun w hw => hts w (List.mem_cons_of_mem _ hw), hK, hN⟩ B.returns B.notSynchronized (fun q h => Or.inr h) s.heap [] _ hP hD.self va_S.rf hl
def bf3 (i : Nat) : Nat → Int64 := fun q => Int64.ofInt (if q < i then 3 else 0)
theorem bf3_step (i : Nat) : vp_updL (bf3 i) i (Int64.ofInt 3) = bf3 (i + 1) := by
  unfold bf3
  rw [am_updL_ofInt]
  funext q
  congr 1
  unfold am_up
  by_cases h : q = i
  · rw [if_pos h, if_pos (by omega)]
  · rw [if_neg h]
    show (if q < i then (3 : Int) else 0) = _
    by_cases h2 : q < i
    · rw [if_pos h2, if_pos (by omega)]
    · rw [if_neg h2, if_neg (by omega)]
theorem bf3_0 : bf3 0 = fun _ => Int64.ofInt 0 := by
  funext q; unfold bf3; rw [if_neg (by omega)]
def bw_f (G : am_G) (r a i : Nat) : va_W := [bw_r r a, (a, .inl (G.2.2.2.2, 4, .inr (.inl (bf3 i))))]
set_option maxRecDepth 100000 in
set_option maxHeartbeats 4000000 in
theorem bn_fill_loop {p : Program} {l : Launch} {e : Env} {R : Room} {s : State} {m : MethodId} {args : Array Value} {below : List Frame} {meth : Method} {c : Code} {G : am_G} {ws0 : va_W} {r a : Nat} (C : am_C p s m args c cX4_fill 4 RX4 G) (hr : meth.sig.returnType = none) (hlocks : meth.locks = false) : ∀ (k i : Nat), i + k = 4 → bn_V p l e R s m args below meth c (MQ below (bn_Qc G ws0 s.heap.size (fun _ : Unit => bw_f G r a 4)) args s 0 0 (va_A ws0 s.heap.size)) G (va_A ws0 s.heap.size) s.heap 4 0 0 2 [(3, .int (Int32.ofInt (i : Int))), (0, .ref r), (1, .long (Int64.ofInt 3))] [] (bw_f G r a i) := by
  intro k
  induction k with
  | zero =>
    intro i hi
    have hi4 : i = 4 := by omega
    subst hi4
    refine bn_iload_n (pc := 2) C dX4_fill_2 rfl 0 rfl ?_
    refine bn_aload_n (pc := 3) C dX4_fill_3 rfl 1 rfl ?_
    refine bn_get (pc := 4) (ci := 4) (k := 0) (v := .ref a) C 0 rfl fl_X4_7 rfl dX4_fill_4 ?_
    refine bn_alen (pc := 7) (n := 4) C 1 rfl dX4_fill_7 ?_
    refine bn_icmp_ge (pc := 8) (tgt := 24) C (by unfold am_r32; omega) (by unfold am_r32; omega) dX4_fill_8 (by decide) (fun _ => ?_) (fun h => absurd (Int.le_refl _) h)
    exact bn_vret () C hr hlocks rfl dX4_fill_24
  | succ k ih =>
    intro i hi
    refine bn_iload_n (pc := 2) C dX4_fill_2 rfl 0 rfl ?_
    refine bn_aload_n (pc := 3) C dX4_fill_3 rfl 1 rfl ?_
    refine bn_get (pc := 4) (ci := 4) (k := 0) (v := .ref a) C 0 rfl fl_X4_7 rfl dX4_fill_4 ?_
    refine bn_alen (pc := 7) (n := 4) C 1 rfl dX4_fill_7 ?_
    refine bn_icmp_ge (pc := 8) (tgt := 24) C (by unfold am_r32; omega) (by unfold am_r32; omega) dX4_fill_8 (by decide) (fun h => by omega) (fun _ => ?_)
    refine bn_aload_n (pc := 11) C dX4_fill_11 rfl 1 rfl ?_
    refine bn_get (pc := 12) (ci := 4) (k := 0) (v := .ref a) C 0 rfl fl_X4_7 rfl dX4_fill_12 ?_
    refine bn_iload_n (pc := 15) C dX4_fill_15 rfl 0 rfl ?_
    refine bn_lload_n (pc := 16) C dX4_fill_16 rfl 2 rfl ?_
    refine bn_last (pc := 17) (n := 4) (f := bf3 i) C 1 rfl ⟨by omega, by omega⟩ dX4_fill_17 ?_
    refine bn_weq 0 0 (bw_f G r a (i + 1)) rfl rfl (by rw [bf3_step]; rfl) ?_
    refine bn_iinc (pc := 18) (j := 0) (v := Int32.ofInt ((i + 1 : Nat) : Int)) C dX4_fill_18 rfl (by rw [am_add, am_w32_id (by unfold am_r32; omega)]; rfl) (by decide) rfl ?_
    refine bn_goto (pc := 21) (tgt := 2) C dX4_fill_21 (by decide) ?_
    exact ih (i + 1) (by omega)
set_option maxRecDepth 100000 in
set_option maxHeartbeats 4000000 in
theorem bc_fill (l : Launch) (G : am_G) (r a : Nat) : bn_met l yX4_fill cX4_fill 4 0 0 0 0 G [.ref r, .long (Int64.ofInt 3)] (bw_f G r a 0) (fun _ : Unit => bw_f G r a 4) := by
  refine bn_enterV (lv := [(0, .ref r), (1, .long (Int64.ofInt 3))]) ym_X4_fill (Nat.le_of_ble_eq_true rfl) rfl (fun p e s m args below meth c C hr hlocks hA => ?_)
  refine bn_iconst (pc := 0) C dX4_fill_0 ?_
  refine bn_istore_n (pc := 1) C dX4_fill_1 rfl (by decide) rfl ?_
  exact bn_fill_loop C hr hlocks 4 0 rfl
def bw_t (G : am_G) (h0 r1 r2 r a i : Nat) : va_W := (h0, .inr (7, [.ref r, .ref r1, .ref r2])) :: bw_f G r a i
set_option maxRecDepth 100000 in
set_option maxHeartbeats 4000000 in
theorem bc_tclear (l : Launch) (G : am_G) (h0 r1 r2 r a : Nat) : bn_met l yX7_clear cX7_clear 1 1 30 0 0 G [.ref h0] (bw_t G h0 r1 r2 r a 0) (fun _ : Unit => bw_t G h0 r1 r2 r a 4) := by
  refine bn_enterV (lv := [(0, .ref h0)]) ym_X7_clear (Nat.le_of_ble_eq_true rfl) rfl (fun p e s m args below meth c C hr hlocks hA => ?_)
  refine bn_aload_n (pc := 0) C dX7_clear_0 rfl 0 rfl ?_
  refine bn_get (pc := 1) (ci := 7) (k := 0) (v := .ref r) C 0 rfl fl_X7_14 rfl dX7_clear_1 ?_
  refine bn_ldc2 (pc := 4) C co_X7_29 dX7_clear_4 ?_
  refine bn_callV (pc := 7) (As := [.long (Int64.ofInt 3)]) (rest := []) [(h0, .inr (7, [.ref r, .ref r1, .ref r2]))] C hA (bc_fill l G r a) ym_X4_fill im_X4_fill se_X4_fill si_X7_31 1 rfl rfl ⟨Nat.le_of_ble_eq_true rfl, Nat.le_of_ble_eq_true rfl⟩ rfl (Nat.le_of_ble_eq_true rfl) ⟨Nat.le_of_ble_eq_true rfl, Nat.le_of_ble_eq_true rfl⟩ rfl rfl dX7_clear_7 (fun u => ?_)
  exact bn_vret () C hr hlocks rfl dX7_clear_10
set_option maxRecDepth 100000 in
theorem bf_oi_X7 : Cond.methodLink RX7 3 objectInit ∈ am_T := am_mem 134 (by decide +kernel) (by decide +kernel)
set_option maxRecDepth 100000 in
theorem bf_cl_X7_9 : Cond.classLink RX7 9 RX4 ∈ am_T := am_mem 135 (by decide +kernel) (by decide +kernel)
set_option maxRecDepth 100000 in
theorem bf_si_X7_11 : Cond.methodLink RX7 11 yX4_init ∈ am_T := am_mem 136 (by decide +kernel) (by decide +kernel)
set_option maxRecDepth 100000 in
theorem ff_X7_14 : am_fldF RX7 7 14 0 (.object "JobLoop$Row") := ⟨TX7, 3, tyX7, rfl, am_hin7, by decide, rfl, am_mem 146 (by decide +kernel) (by decide +kernel), tyX7_ok, nmX7, rfl, rfl⟩
set_option maxRecDepth 100000 in
theorem ff_X7_20 : am_fldF RX7 7 20 1 (.object "JobLoop$Row") := ⟨TX7, 3, tyX7, rfl, am_hin7, by decide, rfl, am_mem 147 (by decide +kernel) (by decide +kernel), tyX7_ok, nmX7, rfl, rfl⟩
set_option maxRecDepth 100000 in
theorem ff_X7_23 : am_fldF RX7 7 23 2 (.object "JobLoop$Row") := ⟨TX7, 3, tyX7, rfl, am_hin7, by decide, rfl, am_mem 148 (by decide +kernel) (by decide +kernel), tyX7_ok, nmX7, rfl, rfl⟩
set_option maxRecDepth 100000 in
theorem si_X7_26 : Cond.methodLink RX7 26 yX7_clear ∈ am_T := am_mem 137 (by decide +kernel) (by decide +kernel)
def bw_X7 (G : am_G) (h0 : Nat) (u : Nat → Nat × Nat) : va_W := [bw_r (u 1).1 (u 1).2, bw_a G (u 1).2 4, bw_r (u 2).1 (u 2).2, bw_a G (u 2).2 4] ++ bw_t G h0 (u 1).1 (u 2).1 (u 0).1 (u 0).2 4
set_option maxRecDepth 100000 in
theorem ym_X7_init : am_y yX7_init cX7_init 1 none 0 := ⟨am_mem 133 (by decide +kernel) (by decide +kernel), am_mem 49 (by decide +kernel) (by decide +kernel), by decide +kernel, by decide +kernel, by decide +kernel, by decide +kernel⟩
set_option maxRecDepth 100000 in
theorem im_X7_init : Cond.instanceMethod yX7_init ∈ am_T := am_mem 132 (by decide +kernel) (by decide +kernel)
set_option maxRecDepth 100000 in
set_option maxHeartbeats 4000000 in
theorem bc_X7 (l : Launch) (G : am_G) (h0 : Nat) : bn_met l yX7_init cX7_init 1 2 60 6 15 G [.ref h0] [(h0, .inr (7, [.null, .null, .null]))] (bw_X7 G h0) := by
  refine bn_enter (lv := [(0, .ref h0)]) ym_X7_init rfl (Nat.le_of_ble_eq_true rfl) rfl (fun p e s m args below meth c C hr hlocks hin hA => ?_)
  refine bn_aload_n (pc := 0) C dX7_init_0 rfl 0 rfl ?_
  refine bn_oinit (pc := 1) C bf_oi_X7 bf_im bf_oc dX7_init_1 ⟨Nat.le_of_ble_eq_true rfl, Nat.le_of_ble_eq_true rfl⟩ ?_
  refine bn_aload_n (pc := 4) C dX7_init_4 rfl 0 rfl ?_
  refine bn_new (pc := 5) (fs := [.null]) C hA (ci := 4) rfl am_hin4 tyX4_ok bf_cl_X7_9 bf_ins4 bf_ini4 (fun j hj => by rcases (show j = 0 by omega) with rfl; rfl) ⟨Nat.le_of_ble_eq_true rfl, Nat.le_of_ble_eq_true rfl⟩ dX7_init_5 (fun q0 => ?_)
  refine bn_dup (pc := 8) C dX7_init_8 ?_
  refine bn_iconst (pc := 9) C dX7_init_9 ?_
  refine bn_call (pc := 10) (As := [.int (Int32.ofInt ((4 : Nat) : Int))]) (rest := [.ref q0, .ref h0]) ([(h0, .inr (7, [.null, .null, .null]))]) C hA (bc_X4 l G q0 4 (Nat.le_of_ble_eq_true rfl)) ym_X4_init rfl im_X4_init bf_si_X7_11 ⟨Nat.le_of_ble_eq_true rfl, Nat.le_of_ble_eq_true rfl⟩ rfl (Nat.le_of_ble_eq_true rfl) ⟨Nat.le_of_ble_eq_true rfl, Nat.le_of_ble_eq_true rfl⟩ rfl rfl dX7_init_10 (fun u0 => ?_)
  refine bn_weq 2 5 ([(h0, .inr (7, [.null, .null, .null])), bw_r q0 u0, bw_a G u0 4]) rfl rfl rfl ?_
  refine bn_putF (pc := 13) C hin ff_X7_14 rfl rfl (Nat.le_of_ble_eq_true rfl) dX7_init_13 ?_
  refine bn_weq 2 5 ([(h0, .inr (7, [.ref q0, .null, .null])), bw_r q0 u0, bw_a G u0 4]) rfl rfl rfl ?_
  refine bn_aload_n (pc := 16) C dX7_init_16 rfl 0 rfl ?_
  refine bn_new (pc := 17) (fs := [.null]) C hA (ci := 4) rfl am_hin4 tyX4_ok bf_cl_X7_9 bf_ins4 bf_ini4 (fun j hj => by rcases (show j = 0 by omega) with rfl; rfl) ⟨Nat.le_of_ble_eq_true rfl, Nat.le_of_ble_eq_true rfl⟩ dX7_init_17 (fun q1 => ?_)
  refine bn_dup (pc := 20) C dX7_init_20 ?_
  refine bn_iconst (pc := 21) C dX7_init_21 ?_
  refine bn_call (pc := 22) (As := [.int (Int32.ofInt ((4 : Nat) : Int))]) (rest := [.ref q1, .ref h0]) ([(h0, .inr (7, [.ref q0, .null, .null])), bw_r q0 u0, bw_a G u0 4]) C hA (bc_X4 l G q1 4 (Nat.le_of_ble_eq_true rfl)) ym_X4_init rfl im_X4_init bf_si_X7_11 ⟨Nat.le_of_ble_eq_true rfl, Nat.le_of_ble_eq_true rfl⟩ rfl (Nat.le_of_ble_eq_true rfl) ⟨Nat.le_of_ble_eq_true rfl, Nat.le_of_ble_eq_true rfl⟩ rfl rfl dX7_init_22 (fun u1 => ?_)
  refine bn_weq 4 10 ([(h0, .inr (7, [.ref q0, .null, .null])), bw_r q0 u0, bw_a G u0 4, bw_r q1 u1, bw_a G u1 4]) rfl rfl rfl ?_
  refine bn_putF (pc := 25) C hin ff_X7_20 rfl rfl (Nat.le_of_ble_eq_true rfl) dX7_init_25 ?_
  refine bn_weq 4 10 ([(h0, .inr (7, [.ref q0, .ref q1, .null])), bw_r q0 u0, bw_a G u0 4, bw_r q1 u1, bw_a G u1 4]) rfl rfl rfl ?_
  refine bn_aload_n (pc := 28) C dX7_init_28 rfl 0 rfl ?_
  refine bn_new (pc := 29) (fs := [.null]) C hA (ci := 4) rfl am_hin4 tyX4_ok bf_cl_X7_9 bf_ins4 bf_ini4 (fun j hj => by rcases (show j = 0 by omega) with rfl; rfl) ⟨Nat.le_of_ble_eq_true rfl, Nat.le_of_ble_eq_true rfl⟩ dX7_init_29 (fun q2 => ?_)
  refine bn_dup (pc := 32) C dX7_init_32 ?_
  refine bn_iconst (pc := 33) C dX7_init_33 ?_
  refine bn_call (pc := 34) (As := [.int (Int32.ofInt ((4 : Nat) : Int))]) (rest := [.ref q2, .ref h0]) ([(h0, .inr (7, [.ref q0, .ref q1, .null])), bw_r q0 u0, bw_a G u0 4, bw_r q1 u1, bw_a G u1 4]) C hA (bc_X4 l G q2 4 (Nat.le_of_ble_eq_true rfl)) ym_X4_init rfl im_X4_init bf_si_X7_11 ⟨Nat.le_of_ble_eq_true rfl, Nat.le_of_ble_eq_true rfl⟩ rfl (Nat.le_of_ble_eq_true rfl) ⟨Nat.le_of_ble_eq_true rfl, Nat.le_of_ble_eq_true rfl⟩ rfl rfl dX7_init_34 (fun u2 => ?_)
  refine bn_weq 6 15 ([(h0, .inr (7, [.ref q0, .ref q1, .null])), bw_r q0 u0, bw_a G u0 4, bw_r q1 u1, bw_a G u1 4, bw_r q2 u2, bw_a G u2 4]) rfl rfl rfl ?_
  refine bn_putF (pc := 37) C hin ff_X7_23 rfl rfl (Nat.le_of_ble_eq_true rfl) dX7_init_37 ?_
  refine bn_weq 6 15 ([(h0, .inr (7, [.ref q0, .ref q1, .ref q2])), bw_r q0 u0, bw_a G u0 4, bw_r q1 u1, bw_a G u1 4, bw_r q2 u2, bw_a G u2 4]) rfl rfl rfl ?_
  refine bn_aload_n (pc := 40) C dX7_init_40 rfl 0 rfl ?_
  refine bn_sub [3, 4, 5, 6, 0, 1, 2] ([bw_r q1 u1, bw_a G u1 4, bw_r q2 u2, bw_a G u2 4] ++ bw_t G h0 q1 q2 q0 u0 0) (by decide) (by unfold bw_t bw_f; rw [bf3_0]; rfl) ?_
  refine bn_callV (pc := 41) (As := []) (rest := []) [bw_r q1 u1, bw_a G u1 4, bw_r q2 u2, bw_a G u2 4] C hA (bc_tclear l G h0 q1 q2 q0 u0) ym_X7_clear im_X7_clear se_X7_clear si_X7_26 4 rfl rfl ⟨Nat.le_of_ble_eq_true rfl, Nat.le_of_ble_eq_true rfl⟩ rfl (Nat.le_of_ble_eq_true rfl) ⟨Nat.le_of_ble_eq_true rfl, Nat.le_of_ble_eq_true rfl⟩ rfl rfl dX7_init_41 (fun u => ?_)
  exact bn_vret (fun i => ([(q0, u0), (q1, u1), (q2, u2)] : List (Nat × Nat)).getD i (0, 0)) C hr hlocks rfl dX7_init_44
