/-! the constructors of the class' parts; printed by gen51.py -/
set_option maxRecDepth 100000 in
theorem bf_oi_X4 : Cond.methodLink RX4 1 objectInit ∈ am_T := am_mem 77 (by decide +kernel) (by decide +kernel)
set_option maxRecDepth 100000 in
theorem bf_im : Cond.instanceMethod objectInit ∈ am_T := am_mem 64 (by decide +kernel) (by decide +kernel)
set_option maxRecDepth 100000 in
theorem bf_oc : Cond.code objectInit ⟨#[0xb1]⟩ 1 none ∈ am_T := am_mem 65 (by decide +kernel) (by decide +kernel)
set_option maxRecDepth 100000 in
theorem bf_al : Cond.arrayClass .long ∈ am_T := am_mem 82 (by decide +kernel) (by decide +kernel)
set_option maxRecDepth 100000 in
theorem bf_ini4 : Cond.initialized RX4 ∈ am_T := am_mem 48 (by decide +kernel) (by decide +kernel)
set_option maxRecDepth 100000 in
theorem bf_ins4 : Cond.instantiable RX4 1 ∈ am_T := am_mem 73 (by decide +kernel) (by decide +kernel)
set_option maxRecDepth 100000 in
theorem ym_X4_init : am_y yX4_init cX4_init 2 none 1 := ⟨am_mem 76 (by decide +kernel) (by decide +kernel), am_mem 48 (by decide +kernel) (by decide +kernel), by decide +kernel, by decide +kernel, by decide +kernel, by decide +kernel⟩
set_option maxRecDepth 100000 in
theorem im_X4_init : Cond.instanceMethod yX4_init ∈ am_T := am_mem 75 (by decide +kernel) (by decide +kernel)
set_option maxRecDepth 100000 in
theorem ff_X4_7 : am_fldF RX4 4 7 0 (.array .long) := ⟨TX4, 1, tyX4, rfl, am_hin4, by decide, rfl, am_mem 78 (by decide +kernel) (by decide +kernel), tyX4_ok, nmX4, rfl, rfl⟩
abbrev bw_r (q a : Nat) : Nat × va_E := (q, .inr (4, [.ref a]))
abbrev bw_a (G : am_G) (a n : Nat) : Nat × va_E := (a, .inl (G.2.2.2.2, n, .inr (.inl (fun _ => Int64.ofInt 0))))
theorem bn_weq {p : Program} {l : Launch} {e : Env} {R : Room} {s : State} {m : MethodId} {args : Array Value} {below : List Frame} {meth : Method} {c : Code} {Q : State → Prop} {G : am_G} {A0 : Nat → Prop} {H0 : Heap} {nL kc ks pc : Nat} {lv : List (Nat × Value)} {st : List Value} {ws : va_W} (kc2 ks2 : Nat) (ws2 : va_W) (h1 : kc = kc2) (h2 : ks = ks2) (h3 : ws = ws2) (kk : bn_V p l e R s m args below meth c Q G A0 H0 nL kc2 ks2 pc lv st ws2) : bn_V p l e R s m args below meth c Q G A0 H0 nL kc ks pc lv st ws := by
  subst h1; subst h2; subst h3; exact kk
theorem bn_if_ge {p : Program} {l : Launch} {e : Env} {R : Room} {s : State} {m : MethodId} {args : Array Value} {below : List Frame} {meth : Method} {c : Code} {Q : State → Prop} {G : am_G} {A0 : Nat → Prop} {H0 : Heap} {nL kc ks pc : Nat} {cc : ByteArray} {own : String} {lv : List (Nat × Value)} {st : List Value} {ws : va_W} (C : am_C p s m args c cc nL own G) {x off : Int} {tgt : Nat} (hx : am_r32 x) (h0 : 0 ≤ x) (hd : decode cc pc = .ok (.ifCond .ge off, 3)) (ht : (pc : Int) + off = (tgt : Int)) (kk : bn_V p l e R s m args below meth c Q G A0 H0 nL kc ks tgt lv st ws) : bn_V p l e R s m args below meth c Q G A0 H0 nL kc ks pc lv (.int (Int32.ofInt x) :: st) ws := by
  intro H locs ls hP hD hS hl
  have hi := am_le am_r0 hx
  exact lv_if_ge C.1 C.2.1 hd ht (fun _ => kk H locs ls hP hD hS hl) (fun hc => absurd (hi.mpr h0) hc)
set_option maxRecDepth 100000 in
set_option maxHeartbeats 4000000 in
theorem bc_X4 (l : Launch) (G : am_G) (r n : Nat) (hn : n ≤ 1000) : bn_met l yX4_init cX4_init 2 1 12 1 n G [.ref r, .int (Int32.ofInt (n : Int))] [(r, .inr (4, [.null]))] (fun a : Nat => [bw_r r a, bw_a G a n]) := by
  refine bn_enter (lv := [(0, .ref r), (1, .int (Int32.ofInt (n : Int)))]) ym_X4_init rfl (Nat.le_of_ble_eq_true rfl) rfl (fun p e s m args below meth c C hr hlocks hin hA => ?_)
  have hrn : am_rok (n : Int) = true := by
    simp only [am_rok, Bool.and_eq_true, decide_eq_true_eq]; omega
  refine bn_aload_n (pc := 0) C dX4_init_0 rfl 0 rfl ?_
  refine bn_oinit (pc := 1) C bf_oi_X4 bf_im bf_oc dX4_init_1 ⟨Nat.le_of_ble_eq_true rfl, Nat.le_of_ble_eq_true rfl⟩ ?_
  refine bn_aload_n (pc := 4) C dX4_init_4 rfl 0 rfl ?_
  refine bn_iload_n (pc := 5) C dX4_init_5 rfl 1 rfl ?_
  refine bn_if_ge (pc := 6) (tgt := 13) C (am_rok_r hrn) (by omega) dX4_init_6 (by decide) ?_
  refine bn_iload_n (pc := 13) C dX4_init_13 rfl 1 rfl ?_
  refine bn_newa (pc := 14) (atype := .long) (ty := .long) (N := n) (f := .inr (.inl (fun _ => Int64.ofInt 0))) C hA bf_al rfl (fun _ h => by cases h) 2 rfl (fun _ => rfl) hrn rfl (by show n * 8 ≤ 536870912; omega) ⟨by show 0 + 1 ≤ 1; omega, by show 0 + n ≤ n; omega⟩ dX4_init_14 (fun a => ?_)
  refine bn_weq 1 n [(r, .inr (4, [.null])), bw_a G a n] rfl (Nat.zero_add n) rfl ?_
  refine bn_putF (pc := 16) C hin ff_X4_7 rfl rfl (by decide) dX4_init_16 ?_
  exact bn_vret a C hr hlocks rfl dX4_init_19
set_option maxRecDepth 100000 in
theorem bf_oi_X0 : Cond.methodLink RX0 3 objectInit ∈ am_T := am_mem 161 (by decide +kernel) (by decide +kernel)
set_option maxRecDepth 100000 in
theorem bf_cl_X0_9 : Cond.classLink RX0 9 RX4 ∈ am_T := am_mem 162 (by decide +kernel) (by decide +kernel)
set_option maxRecDepth 100000 in
theorem bf_si_X0_11 : Cond.methodLink RX0 11 yX4_init ∈ am_T := am_mem 163 (by decide +kernel) (by decide +kernel)
set_option maxRecDepth 100000 in
theorem ff_X0_14 : am_fldF RX0 0 14 0 (.object "JobLoop$Row") := ⟨TX0, 3, tyX0, rfl, am_hin0, by decide, rfl, am_mem 164 (by decide +kernel) (by decide +kernel), tyX0_ok, nmX0, rfl, rfl⟩
set_option maxRecDepth 100000 in
theorem ff_X0_20 : am_fldF RX0 0 20 1 (.object "JobLoop$Row") := ⟨TX0, 3, tyX0, rfl, am_hin0, by decide, rfl, am_mem 165 (by decide +kernel) (by decide +kernel), tyX0_ok, nmX0, rfl, rfl⟩
set_option maxRecDepth 100000 in
theorem ff_X0_23 : am_fldF RX0 0 23 2 (.object "JobLoop$Row") := ⟨TX0, 3, tyX0, rfl, am_hin0, by decide, rfl, am_mem 166 (by decide +kernel) (by decide +kernel), tyX0_ok, nmX0, rfl, rfl⟩
def bw_X0 (G : am_G) (h0 : Nat) (u : Nat → Nat × Nat) : va_W := [(h0, .inr (0, [.ref (u 0).1, .ref (u 1).1, .ref (u 2).1])), bw_r (u 0).1 (u 0).2, bw_a G (u 0).2 10, bw_r (u 1).1 (u 1).2, bw_a G (u 1).2 100, bw_r (u 2).1 (u 2).2, bw_a G (u 2).2 100]
set_option maxRecDepth 100000 in
theorem ym_X0_init : am_y yX0_init cX0_init 1 none 0 := ⟨am_mem 160 (by decide +kernel) (by decide +kernel), am_mem 50 (by decide +kernel) (by decide +kernel), by decide +kernel, by decide +kernel, by decide +kernel, by decide +kernel⟩
set_option maxRecDepth 100000 in
theorem im_X0_init : Cond.instanceMethod yX0_init ∈ am_T := am_mem 159 (by decide +kernel) (by decide +kernel)
set_option maxRecDepth 100000 in
set_option maxHeartbeats 4000000 in
theorem bc_X0 (l : Launch) (G : am_G) (h0 : Nat) : bn_met l yX0_init cX0_init 1 2 40 6 213 G [.ref h0] [(h0, .inr (0, [.null, .null, .null]))] (bw_X0 G h0) := by
  refine bn_enter (lv := [(0, .ref h0)]) ym_X0_init rfl (Nat.le_of_ble_eq_true rfl) rfl (fun p e s m args below meth c C hr hlocks hin hA => ?_)
  refine bn_aload_n (pc := 0) C dX0_init_0 rfl 0 rfl ?_
  refine bn_oinit (pc := 1) C bf_oi_X0 bf_im bf_oc dX0_init_1 ⟨Nat.le_of_ble_eq_true rfl, Nat.le_of_ble_eq_true rfl⟩ ?_
  refine bn_aload_n (pc := 4) C dX0_init_4 rfl 0 rfl ?_
  refine bn_new (pc := 5) (fs := [.null]) C hA (ci := 4) rfl am_hin4 tyX4_ok bf_cl_X0_9 bf_ins4 bf_ini4 (fun j hj => by rcases (show j = 0 by omega) with rfl; rfl) ⟨Nat.le_of_ble_eq_true rfl, Nat.le_of_ble_eq_true rfl⟩ dX0_init_5 (fun q0 => ?_)
  refine bn_dup (pc := 8) C dX0_init_8 ?_
  refine bn_bipush (pc := 9) C dX0_init_9 rfl ?_
  refine bn_call (pc := 11) (As := [.int (Int32.ofInt ((10 : Nat) : Int))]) (rest := [.ref q0, .ref h0]) ([(h0, .inr (0, [.null, .null, .null]))]) C hA (bc_X4 l G q0 10 (Nat.le_of_ble_eq_true rfl)) ym_X4_init rfl im_X4_init bf_si_X0_11 ⟨Nat.le_of_ble_eq_true rfl, Nat.le_of_ble_eq_true rfl⟩ rfl (Nat.le_of_ble_eq_true rfl) ⟨Nat.le_of_ble_eq_true rfl, Nat.le_of_ble_eq_true rfl⟩ rfl rfl dX0_init_11 (fun u0 => ?_)
  refine bn_weq 2 11 ([(h0, .inr (0, [.null, .null, .null])), bw_r q0 u0, bw_a G u0 10]) rfl rfl rfl ?_
  refine bn_putF (pc := 14) C hin ff_X0_14 rfl rfl (Nat.le_of_ble_eq_true rfl) dX0_init_14 ?_
  refine bn_weq 2 11 ([(h0, .inr (0, [.ref q0, .null, .null])), bw_r q0 u0, bw_a G u0 10]) rfl rfl rfl ?_
  refine bn_aload_n (pc := 17) C dX0_init_17 rfl 0 rfl ?_
  refine bn_new (pc := 18) (fs := [.null]) C hA (ci := 4) rfl am_hin4 tyX4_ok bf_cl_X0_9 bf_ins4 bf_ini4 (fun j hj => by rcases (show j = 0 by omega) with rfl; rfl) ⟨Nat.le_of_ble_eq_true rfl, Nat.le_of_ble_eq_true rfl⟩ dX0_init_18 (fun q1 => ?_)
  refine bn_dup (pc := 21) C dX0_init_21 ?_
  refine bn_bipush (pc := 22) C dX0_init_22 rfl ?_
  refine bn_call (pc := 24) (As := [.int (Int32.ofInt ((100 : Nat) : Int))]) (rest := [.ref q1, .ref h0]) ([(h0, .inr (0, [.ref q0, .null, .null])), bw_r q0 u0, bw_a G u0 10]) C hA (bc_X4 l G q1 100 (Nat.le_of_ble_eq_true rfl)) ym_X4_init rfl im_X4_init bf_si_X0_11 ⟨Nat.le_of_ble_eq_true rfl, Nat.le_of_ble_eq_true rfl⟩ rfl (Nat.le_of_ble_eq_true rfl) ⟨Nat.le_of_ble_eq_true rfl, Nat.le_of_ble_eq_true rfl⟩ rfl rfl dX0_init_24 (fun u1 => ?_)
  refine bn_weq 4 112 ([(h0, .inr (0, [.ref q0, .null, .null])), bw_r q0 u0, bw_a G u0 10, bw_r q1 u1, bw_a G u1 100]) rfl rfl rfl ?_
  refine bn_putF (pc := 27) C hin ff_X0_20 rfl rfl (Nat.le_of_ble_eq_true rfl) dX0_init_27 ?_
  refine bn_weq 4 112 ([(h0, .inr (0, [.ref q0, .ref q1, .null])), bw_r q0 u0, bw_a G u0 10, bw_r q1 u1, bw_a G u1 100]) rfl rfl rfl ?_
  refine bn_aload_n (pc := 30) C dX0_init_30 rfl 0 rfl ?_
  refine bn_new (pc := 31) (fs := [.null]) C hA (ci := 4) rfl am_hin4 tyX4_ok bf_cl_X0_9 bf_ins4 bf_ini4 (fun j hj => by rcases (show j = 0 by omega) with rfl; rfl) ⟨Nat.le_of_ble_eq_true rfl, Nat.le_of_ble_eq_true rfl⟩ dX0_init_31 (fun q2 => ?_)
  refine bn_dup (pc := 34) C dX0_init_34 ?_
  refine bn_bipush (pc := 35) C dX0_init_35 rfl ?_
  refine bn_call (pc := 37) (As := [.int (Int32.ofInt ((100 : Nat) : Int))]) (rest := [.ref q2, .ref h0]) ([(h0, .inr (0, [.ref q0, .ref q1, .null])), bw_r q0 u0, bw_a G u0 10, bw_r q1 u1, bw_a G u1 100]) C hA (bc_X4 l G q2 100 (Nat.le_of_ble_eq_true rfl)) ym_X4_init rfl im_X4_init bf_si_X0_11 ⟨Nat.le_of_ble_eq_true rfl, Nat.le_of_ble_eq_true rfl⟩ rfl (Nat.le_of_ble_eq_true rfl) ⟨Nat.le_of_ble_eq_true rfl, Nat.le_of_ble_eq_true rfl⟩ rfl rfl dX0_init_37 (fun u2 => ?_)
  refine bn_weq 6 213 ([(h0, .inr (0, [.ref q0, .ref q1, .null])), bw_r q0 u0, bw_a G u0 10, bw_r q1 u1, bw_a G u1 100, bw_r q2 u2, bw_a G u2 100]) rfl rfl rfl ?_
  refine bn_putF (pc := 40) C hin ff_X0_23 rfl rfl (Nat.le_of_ble_eq_true rfl) dX0_init_40 ?_
  refine bn_weq 6 213 ([(h0, .inr (0, [.ref q0, .ref q1, .ref q2])), bw_r q0 u0, bw_a G u0 10, bw_r q1 u1, bw_a G u1 100, bw_r q2 u2, bw_a G u2 100]) rfl rfl rfl ?_
  exact bn_vret (fun i => ([(q0, u0), (q1, u1), (q2, u2)] : List (Nat × Nat)).getD i (0, 0)) C hr hlocks rfl dX0_init_43
set_option maxRecDepth 100000 in
theorem bf_oi_X2 : Cond.methodLink RX2 3 objectInit ∈ am_T := am_mem 203 (by decide +kernel) (by decide +kernel)
set_option maxRecDepth 100000 in
theorem bf_cl_X2_9 : Cond.classLink RX2 9 RX4 ∈ am_T := am_mem 204 (by decide +kernel) (by decide +kernel)
set_option maxRecDepth 100000 in
theorem bf_si_X2_11 : Cond.methodLink RX2 11 yX4_init ∈ am_T := am_mem 205 (by decide +kernel) (by decide +kernel)
set_option maxRecDepth 100000 in
theorem ff_X2_14 : am_fldF RX2 2 14 0 (.object "JobLoop$Row") := ⟨TX2, 4, tyX2, rfl, am_hin2, by decide, rfl, am_mem 206 (by decide +kernel) (by decide +kernel), tyX2_ok, nmX2, rfl, rfl⟩
set_option maxRecDepth 100000 in
theorem ff_X2_20 : am_fldF RX2 2 20 1 (.object "JobLoop$Row") := ⟨TX2, 4, tyX2, rfl, am_hin2, by decide, rfl, am_mem 207 (by decide +kernel) (by decide +kernel), tyX2_ok, nmX2, rfl, rfl⟩
set_option maxRecDepth 100000 in
theorem fq_X2_23 : am_fldP RX2 2 23 2 .int := ⟨TX2, 4, tyX2, rfl, am_hin2, by decide, rfl, am_mem 208 (by decide +kernel) (by decide +kernel), tyX2_ok, nmX2, rfl, rfl⟩
set_option maxRecDepth 100000 in
theorem fq_X2_27 : am_fldP RX2 2 27 3 .int := ⟨TX2, 4, tyX2, rfl, am_hin2, by decide, rfl, am_mem 209 (by decide +kernel) (by decide +kernel), tyX2_ok, nmX2, rfl, rfl⟩
def bw_X2 (G : am_G) (h0 : Nat) (u : Nat → Nat × Nat) : va_W := [(h0, .inr (2, [.ref (u 0).1, .ref (u 1).1, .int (Int32.ofInt 0), .int (Int32.ofInt 0)])), bw_r (u 0).1 (u 0).2, bw_a G (u 0).2 60, bw_r (u 1).1 (u 1).2, bw_a G (u 1).2 60]
set_option maxRecDepth 100000 in
theorem ym_X2_init : am_y yX2_init cX2_init 1 none 0 := ⟨am_mem 202 (by decide +kernel) (by decide +kernel), am_mem 52 (by decide +kernel) (by decide +kernel), by decide +kernel, by decide +kernel, by decide +kernel, by decide +kernel⟩
set_option maxRecDepth 100000 in
theorem im_X2_init : Cond.instanceMethod yX2_init ∈ am_T := am_mem 201 (by decide +kernel) (by decide +kernel)
set_option maxRecDepth 100000 in
set_option maxHeartbeats 4000000 in
theorem bc_X2 (l : Launch) (G : am_G) (h0 : Nat) : bn_met l yX2_init cX2_init 1 2 40 4 122 G [.ref h0] [(h0, .inr (2, [.null, .null, .int 0, .int 0]))] (bw_X2 G h0) := by
  refine bn_enter (lv := [(0, .ref h0)]) ym_X2_init rfl (Nat.le_of_ble_eq_true rfl) rfl (fun p e s m args below meth c C hr hlocks hin hA => ?_)
  refine bn_aload_n (pc := 0) C dX2_init_0 rfl 0 rfl ?_
  refine bn_oinit (pc := 1) C bf_oi_X2 bf_im bf_oc dX2_init_1 ⟨Nat.le_of_ble_eq_true rfl, Nat.le_of_ble_eq_true rfl⟩ ?_
  refine bn_aload_n (pc := 4) C dX2_init_4 rfl 0 rfl ?_
  refine bn_new (pc := 5) (fs := [.null]) C hA (ci := 4) rfl am_hin4 tyX4_ok bf_cl_X2_9 bf_ins4 bf_ini4 (fun j hj => by rcases (show j = 0 by omega) with rfl; rfl) ⟨Nat.le_of_ble_eq_true rfl, Nat.le_of_ble_eq_true rfl⟩ dX2_init_5 (fun q0 => ?_)
  refine bn_dup (pc := 8) C dX2_init_8 ?_
  refine bn_bipush (pc := 9) C dX2_init_9 rfl ?_
  refine bn_call (pc := 11) (As := [.int (Int32.ofInt ((60 : Nat) : Int))]) (rest := [.ref q0, .ref h0]) ([(h0, .inr (2, [.null, .null, .int 0, .int 0]))]) C hA (bc_X4 l G q0 60 (Nat.le_of_ble_eq_true rfl)) ym_X4_init rfl im_X4_init bf_si_X2_11 ⟨Nat.le_of_ble_eq_true rfl, Nat.le_of_ble_eq_true rfl⟩ rfl (Nat.le_of_ble_eq_true rfl) ⟨Nat.le_of_ble_eq_true rfl, Nat.le_of_ble_eq_true rfl⟩ rfl rfl dX2_init_11 (fun u0 => ?_)
  refine bn_weq 2 61 ([(h0, .inr (2, [.null, .null, .int 0, .int 0])), bw_r q0 u0, bw_a G u0 60]) rfl rfl rfl ?_
  refine bn_putF (pc := 14) C hin ff_X2_14 rfl rfl (Nat.le_of_ble_eq_true rfl) dX2_init_14 ?_
  refine bn_weq 2 61 ([(h0, .inr (2, [.ref q0, .null, .int 0, .int 0])), bw_r q0 u0, bw_a G u0 60]) rfl rfl rfl ?_
  refine bn_aload_n (pc := 17) C dX2_init_17 rfl 0 rfl ?_
  refine bn_new (pc := 18) (fs := [.null]) C hA (ci := 4) rfl am_hin4 tyX4_ok bf_cl_X2_9 bf_ins4 bf_ini4 (fun j hj => by rcases (show j = 0 by omega) with rfl; rfl) ⟨Nat.le_of_ble_eq_true rfl, Nat.le_of_ble_eq_true rfl⟩ dX2_init_18 (fun q1 => ?_)
  refine bn_dup (pc := 21) C dX2_init_21 ?_
  refine bn_bipush (pc := 22) C dX2_init_22 rfl ?_
  refine bn_call (pc := 24) (As := [.int (Int32.ofInt ((60 : Nat) : Int))]) (rest := [.ref q1, .ref h0]) ([(h0, .inr (2, [.ref q0, .null, .int 0, .int 0])), bw_r q0 u0, bw_a G u0 60]) C hA (bc_X4 l G q1 60 (Nat.le_of_ble_eq_true rfl)) ym_X4_init rfl im_X4_init bf_si_X2_11 ⟨Nat.le_of_ble_eq_true rfl, Nat.le_of_ble_eq_true rfl⟩ rfl (Nat.le_of_ble_eq_true rfl) ⟨Nat.le_of_ble_eq_true rfl, Nat.le_of_ble_eq_true rfl⟩ rfl rfl dX2_init_24 (fun u1 => ?_)
  refine bn_weq 4 122 ([(h0, .inr (2, [.ref q0, .null, .int 0, .int 0])), bw_r q0 u0, bw_a G u0 60, bw_r q1 u1, bw_a G u1 60]) rfl rfl rfl ?_
  refine bn_putF (pc := 27) C hin ff_X2_20 rfl rfl (Nat.le_of_ble_eq_true rfl) dX2_init_27 ?_
  refine bn_weq 4 122 ([(h0, .inr (2, [.ref q0, .ref q1, .int 0, .int 0])), bw_r q0 u0, bw_a G u0 60, bw_r q1 u1, bw_a G u1 60]) rfl rfl rfl ?_
  refine bn_aload_n (pc := 30) C dX2_init_30 rfl 0 rfl ?_
  refine bn_iconst (pc := 31) C dX2_init_31 ?_
  refine bn_putI (pc := 32) C fq_X2_23 (Nat.le_of_ble_eq_true rfl) dX2_init_32 ?_
  refine bn_weq 4 122 ([(h0, .inr (2, [.ref q0, .ref q1, .int (Int32.ofInt 0), .int 0])), bw_r q0 u0, bw_a G u0 60, bw_r q1 u1, bw_a G u1 60]) rfl rfl rfl ?_
  refine bn_aload_n (pc := 35) C dX2_init_35 rfl 0 rfl ?_
  refine bn_iconst (pc := 36) C dX2_init_36 ?_
  refine bn_putI (pc := 37) C fq_X2_27 (Nat.le_of_ble_eq_true rfl) dX2_init_37 ?_
  refine bn_weq 4 122 ([(h0, .inr (2, [.ref q0, .ref q1, .int (Int32.ofInt 0), .int (Int32.ofInt 0)])), bw_r q0 u0, bw_a G u0 60, bw_r q1 u1, bw_a G u1 60]) rfl rfl rfl ?_
  exact bn_vret (fun i => ([(q0, u0), (q1, u1)] : List (Nat × Nat)).getD i (0, 0)) C hr hlocks rfl dX2_init_40
set_option maxRecDepth 100000 in
theorem bf_oi_X3 : Cond.methodLink RX3 3 objectInit ∈ am_T := am_mem 71 (by decide +kernel) (by decide +kernel)
set_option maxRecDepth 100000 in
theorem bf_cl_X3_9 : Cond.classLink RX3 9 RX4 ∈ am_T := am_mem 72 (by decide +kernel) (by decide +kernel)
set_option maxRecDepth 100000 in
theorem bf_si_X3_11 : Cond.methodLink RX3 11 yX4_init ∈ am_T := am_mem 74 (by decide +kernel) (by decide +kernel)
set_option maxRecDepth 100000 in
theorem ff_X3_14 : am_fldF RX3 3 14 0 (.object "JobLoop$Row") := ⟨TX3, 15, tyX3, rfl, am_hin3, by decide, rfl, am_mem 83 (by decide +kernel) (by decide +kernel), tyX3_ok, nmX3, rfl, rfl⟩
set_option maxRecDepth 100000 in
theorem ff_X3_20 : am_fldF RX3 3 20 1 (.object "JobLoop$Row") := ⟨TX3, 15, tyX3, rfl, am_hin3, by decide, rfl, am_mem 84 (by decide +kernel) (by decide +kernel), tyX3_ok, nmX3, rfl, rfl⟩
set_option maxRecDepth 100000 in
theorem ff_X3_23 : am_fldF RX3 3 23 2 (.object "JobLoop$Row") := ⟨TX3, 15, tyX3, rfl, am_hin3, by decide, rfl, am_mem 85 (by decide +kernel) (by decide +kernel), tyX3_ok, nmX3, rfl, rfl⟩
set_option maxRecDepth 100000 in
theorem ff_X3_26 : am_fldF RX3 3 26 3 (.object "JobLoop$Row") := ⟨TX3, 15, tyX3, rfl, am_hin3, by decide, rfl, am_mem 86 (by decide +kernel) (by decide +kernel), tyX3_ok, nmX3, rfl, rfl⟩
set_option maxRecDepth 100000 in
theorem ff_X3_29 : am_fldF RX3 3 29 4 (.object "JobLoop$Row") := ⟨TX3, 15, tyX3, rfl, am_hin3, by decide, rfl, am_mem 87 (by decide +kernel) (by decide +kernel), tyX3_ok, nmX3, rfl, rfl⟩
set_option maxRecDepth 100000 in
theorem ff_X3_32 : am_fldF RX3 3 32 5 (.object "JobLoop$Row") := ⟨TX3, 15, tyX3, rfl, am_hin3, by decide, rfl, am_mem 88 (by decide +kernel) (by decide +kernel), tyX3_ok, nmX3, rfl, rfl⟩
set_option maxRecDepth 100000 in
theorem ff_X3_35 : am_fldF RX3 3 35 6 (.object "JobLoop$Row") := ⟨TX3, 15, tyX3, rfl, am_hin3, by decide, rfl, am_mem 89 (by decide +kernel) (by decide +kernel), tyX3_ok, nmX3, rfl, rfl⟩
set_option maxRecDepth 100000 in
theorem ff_X3_38 : am_fldF RX3 3 38 7 (.object "JobLoop$Row") := ⟨TX3, 15, tyX3, rfl, am_hin3, by decide, rfl, am_mem 90 (by decide +kernel) (by decide +kernel), tyX3_ok, nmX3, rfl, rfl⟩
set_option maxRecDepth 100000 in
theorem ff_X3_41 : am_fldF RX3 3 41 8 (.object "JobLoop$Row") := ⟨TX3, 15, tyX3, rfl, am_hin3, by decide, rfl, am_mem 91 (by decide +kernel) (by decide +kernel), tyX3_ok, nmX3, rfl, rfl⟩
set_option maxRecDepth 100000 in
theorem ff_X3_44 : am_fldF RX3 3 44 9 (.object "JobLoop$Row") := ⟨TX3, 15, tyX3, rfl, am_hin3, by decide, rfl, am_mem 92 (by decide +kernel) (by decide +kernel), tyX3_ok, nmX3, rfl, rfl⟩
set_option maxRecDepth 100000 in
theorem ff_X3_47 : am_fldF RX3 3 47 10 (.object "JobLoop$Row") := ⟨TX3, 15, tyX3, rfl, am_hin3, by decide, rfl, am_mem 93 (by decide +kernel) (by decide +kernel), tyX3_ok, nmX3, rfl, rfl⟩
set_option maxRecDepth 100000 in
theorem fq_X3_50 : am_fldP RX3 3 50 11 .int := ⟨TX3, 15, tyX3, rfl, am_hin3, by decide, rfl, am_mem 94 (by decide +kernel) (by decide +kernel), tyX3_ok, nmX3, rfl, rfl⟩
set_option maxRecDepth 100000 in
theorem fq_X3_54 : am_fldP RX3 3 54 12 .int := ⟨TX3, 15, tyX3, rfl, am_hin3, by decide, rfl, am_mem 95 (by decide +kernel) (by decide +kernel), tyX3_ok, nmX3, rfl, rfl⟩
set_option maxRecDepth 100000 in
theorem fq_X3_57 : am_fldP RX3 3 57 13 .int := ⟨TX3, 15, tyX3, rfl, am_hin3, by decide, rfl, am_mem 96 (by decide +kernel) (by decide +kernel), tyX3_ok, nmX3, rfl, rfl⟩
set_option maxRecDepth 100000 in
theorem fq_X3_60 : am_fldP RX3 3 60 14 .int := ⟨TX3, 15, tyX3, rfl, am_hin3, by decide, rfl, am_mem 97 (by decide +kernel) (by decide +kernel), tyX3_ok, nmX3, rfl, rfl⟩
def bw_X3 (G : am_G) (h0 : Nat) (u : Nat → Nat × Nat) : va_W := [(h0, .inr (3, [.ref (u 0).1, .ref (u 1).1, .ref (u 2).1, .ref (u 3).1, .ref (u 4).1, .ref (u 5).1, .ref (u 6).1, .ref (u 7).1, .ref (u 8).1, .ref (u 9).1, .ref (u 10).1, .int (Int32.ofInt 0), .int (Int32.ofInt 0), .int (Int32.ofInt 0), .int (Int32.ofInt 0)])), bw_r (u 0).1 (u 0).2, bw_a G (u 0).2 100, bw_r (u 1).1 (u 1).2, bw_a G (u 1).2 100, bw_r (u 2).1 (u 2).2, bw_a G (u 2).2 100, bw_r (u 3).1 (u 3).2, bw_a G (u 3).2 100, bw_r (u 4).1 (u 4).2, bw_a G (u 4).2 100, bw_r (u 5).1 (u 5).2, bw_a G (u 5).2 100, bw_r (u 6).1 (u 6).2, bw_a G (u 6).2 100, bw_r (u 7).1 (u 7).2, bw_a G (u 7).2 100, bw_r (u 8).1 (u 8).2, bw_a G (u 8).2 100, bw_r (u 9).1 (u 9).2, bw_a G (u 9).2 900, bw_r (u 10).1 (u 10).2, bw_a G (u 10).2 900]
set_option maxRecDepth 100000 in
theorem ym_X3_init : am_y yX3_init cX3_init 1 none 0 := ⟨am_mem 70 (by decide +kernel) (by decide +kernel), am_mem 47 (by decide +kernel) (by decide +kernel), by decide +kernel, by decide +kernel, by decide +kernel, by decide +kernel⟩
set_option maxRecDepth 100000 in
theorem im_X3_init : Cond.instanceMethod yX3_init ∈ am_T := am_mem 69 (by decide +kernel) (by decide +kernel)
set_option maxRecDepth 100000 in
set_option maxHeartbeats 4000000 in
theorem bc_X3 (l : Launch) (G : am_G) (h0 : Nat) : bn_met l yX3_init cX3_init 1 2 40 22 2711 G [.ref h0] [(h0, .inr (3, [.null, .null, .null, .null, .null, .null, .null, .null, .null, .null, .null, .int 0, .int 0, .int 0, .int 0]))] (bw_X3 G h0) := by
  refine bn_enter (lv := [(0, .ref h0)]) ym_X3_init rfl (Nat.le_of_ble_eq_true rfl) rfl (fun p e s m args below meth c C hr hlocks hin hA => ?_)
  refine bn_aload_n (pc := 0) C dX3_init_0 rfl 0 rfl ?_
  refine bn_oinit (pc := 1) C bf_oi_X3 bf_im bf_oc dX3_init_1 ⟨Nat.le_of_ble_eq_true rfl, Nat.le_of_ble_eq_true rfl⟩ ?_
  refine bn_aload_n (pc := 4) C dX3_init_4 rfl 0 rfl ?_
  refine bn_new (pc := 5) (fs := [.null]) C hA (ci := 4) rfl am_hin4 tyX4_ok bf_cl_X3_9 bf_ins4 bf_ini4 (fun j hj => by rcases (show j = 0 by omega) with rfl; rfl) ⟨Nat.le_of_ble_eq_true rfl, Nat.le_of_ble_eq_true rfl⟩ dX3_init_5 (fun q0 => ?_)
  refine bn_dup (pc := 8) C dX3_init_8 ?_
  refine bn_bipush (pc := 9) C dX3_init_9 rfl ?_
  refine bn_call (pc := 11) (As := [.int (Int32.ofInt ((100 : Nat) : Int))]) (rest := [.ref q0, .ref h0]) ([(h0, .inr (3, [.null, .null, .null, .null, .null, .null, .null, .null, .null, .null, .null, .int 0, .int 0, .int 0, .int 0]))]) C hA (bc_X4 l G q0 100 (Nat.le_of_ble_eq_true rfl)) ym_X4_init rfl im_X4_init bf_si_X3_11 ⟨Nat.le_of_ble_eq_true rfl, Nat.le_of_ble_eq_true rfl⟩ rfl (Nat.le_of_ble_eq_true rfl) ⟨Nat.le_of_ble_eq_true rfl, Nat.le_of_ble_eq_true rfl⟩ rfl rfl dX3_init_11 (fun u0 => ?_)
  refine bn_weq 2 101 ([(h0, .inr (3, [.null, .null, .null, .null, .null, .null, .null, .null, .null, .null, .null, .int 0, .int 0, .int 0, .int 0])), bw_r q0 u0, bw_a G u0 100]) rfl rfl rfl ?_
  refine bn_putF (pc := 14) C hin ff_X3_14 rfl rfl (Nat.le_of_ble_eq_true rfl) dX3_init_14 ?_
  refine bn_weq 2 101 ([(h0, .inr (3, [.ref q0, .null, .null, .null, .null, .null, .null, .null, .null, .null, .null, .int 0, .int 0, .int 0, .int 0])), bw_r q0 u0, bw_a G u0 100]) rfl rfl rfl ?_
  refine bn_aload_n (pc := 17) C dX3_init_17 rfl 0 rfl ?_
  refine bn_new (pc := 18) (fs := [.null]) C hA (ci := 4) rfl am_hin4 tyX4_ok bf_cl_X3_9 bf_ins4 bf_ini4 (fun j hj => by rcases (show j = 0 by omega) with rfl; rfl) ⟨Nat.le_of_ble_eq_true rfl, Nat.le_of_ble_eq_true rfl⟩ dX3_init_18 (fun q1 => ?_)
  refine bn_dup (pc := 21) C dX3_init_21 ?_
  refine bn_bipush (pc := 22) C dX3_init_22 rfl ?_
  refine bn_call (pc := 24) (As := [.int (Int32.ofInt ((100 : Nat) : Int))]) (rest := [.ref q1, .ref h0]) ([(h0, .inr (3, [.ref q0, .null, .null, .null, .null, .null, .null, .null, .null, .null, .null, .int 0, .int 0, .int 0, .int 0])), bw_r q0 u0, bw_a G u0 100]) C hA (bc_X4 l G q1 100 (Nat.le_of_ble_eq_true rfl)) ym_X4_init rfl im_X4_init bf_si_X3_11 ⟨Nat.le_of_ble_eq_true rfl, Nat.le_of_ble_eq_true rfl⟩ rfl (Nat.le_of_ble_eq_true rfl) ⟨Nat.le_of_ble_eq_true rfl, Nat.le_of_ble_eq_true rfl⟩ rfl rfl dX3_init_24 (fun u1 => ?_)
  refine bn_weq 4 202 ([(h0, .inr (3, [.ref q0, .null, .null, .null, .null, .null, .null, .null, .null, .null, .null, .int 0, .int 0, .int 0, .int 0])), bw_r q0 u0, bw_a G u0 100, bw_r q1 u1, bw_a G u1 100]) rfl rfl rfl ?_
  refine bn_putF (pc := 27) C hin ff_X3_20 rfl rfl (Nat.le_of_ble_eq_true rfl) dX3_init_27 ?_
  refine bn_weq 4 202 ([(h0, .inr (3, [.ref q0, .ref q1, .null, .null, .null, .null, .null, .null, .null, .null, .null, .int 0, .int 0, .int 0, .int 0])), bw_r q0 u0, bw_a G u0 100, bw_r q1 u1, bw_a G u1 100]) rfl rfl rfl ?_
  refine bn_aload_n (pc := 30) C dX3_init_30 rfl 0 rfl ?_
  refine bn_new (pc := 31) (fs := [.null]) C hA (ci := 4) rfl am_hin4 tyX4_ok bf_cl_X3_9 bf_ins4 bf_ini4 (fun j hj => by rcases (show j = 0 by omega) with rfl; rfl) ⟨Nat.le_of_ble_eq_true rfl, Nat.le_of_ble_eq_true rfl⟩ dX3_init_31 (fun q2 => ?_)
  refine bn_dup (pc := 34) C dX3_init_34 ?_
  refine bn_bipush (pc := 35) C dX3_init_35 rfl ?_
  refine bn_call (pc := 37) (As := [.int (Int32.ofInt ((100 : Nat) : Int))]) (rest := [.ref q2, .ref h0]) ([(h0, .inr (3, [.ref q0, .ref q1, .null, .null, .null, .null, .null, .null, .null, .null, .null, .int 0, .int 0, .int 0, .int 0])), bw_r q0 u0, bw_a G u0 100, bw_r q1 u1, bw_a G u1 100]) C hA (bc_X4 l G q2 100 (Nat.le_of_ble_eq_true rfl)) ym_X4_init rfl im_X4_init bf_si_X3_11 ⟨Nat.le_of_ble_eq_true rfl, Nat.le_of_ble_eq_true rfl⟩ rfl (Nat.le_of_ble_eq_true rfl) ⟨Nat.le_of_ble_eq_true rfl, Nat.le_of_ble_eq_true rfl⟩ rfl rfl dX3_init_37 (fun u2 => ?_)
  refine bn_weq 6 303 ([(h0, .inr (3, [.ref q0, .ref q1, .null, .null, .null, .null, .null, .null, .null, .null, .null, .int 0, .int 0, .int 0, .int 0])), bw_r q0 u0, bw_a G u0 100, bw_r q1 u1, bw_a G u1 100, bw_r q2 u2, bw_a G u2 100]) rfl rfl rfl ?_
  refine bn_putF (pc := 40) C hin ff_X3_23 rfl rfl (Nat.le_of_ble_eq_true rfl) dX3_init_40 ?_
  refine bn_weq 6 303 ([(h0, .inr (3, [.ref q0, .ref q1, .ref q2, .null, .null, .null, .null, .null, .null, .null, .null, .int 0, .int 0, .int 0, .int 0])), bw_r q0 u0, bw_a G u0 100, bw_r q1 u1, bw_a G u1 100, bw_r q2 u2, bw_a G u2 100]) rfl rfl rfl ?_
  refine bn_aload_n (pc := 43) C dX3_init_43 rfl 0 rfl ?_
  refine bn_new (pc := 44) (fs := [.null]) C hA (ci := 4) rfl am_hin4 tyX4_ok bf_cl_X3_9 bf_ins4 bf_ini4 (fun j hj => by rcases (show j = 0 by omega) with rfl; rfl) ⟨Nat.le_of_ble_eq_true rfl, Nat.le_of_ble_eq_true rfl⟩ dX3_init_44 (fun q3 => ?_)
  refine bn_dup (pc := 47) C dX3_init_47 ?_
  refine bn_bipush (pc := 48) C dX3_init_48 rfl ?_
  refine bn_call (pc := 50) (As := [.int (Int32.ofInt ((100 : Nat) : Int))]) (rest := [.ref q3, .ref h0]) ([(h0, .inr (3, [.ref q0, .ref q1, .ref q2, .null, .null, .null, .null, .null, .null, .null, .null, .int 0, .int 0, .int 0, .int 0])), bw_r q0 u0, bw_a G u0 100, bw_r q1 u1, bw_a G u1 100, bw_r q2 u2, bw_a G u2 100]) C hA (bc_X4 l G q3 100 (Nat.le_of_ble_eq_true rfl)) ym_X4_init rfl im_X4_init bf_si_X3_11 ⟨Nat.le_of_ble_eq_true rfl, Nat.le_of_ble_eq_true rfl⟩ rfl (Nat.le_of_ble_eq_true rfl) ⟨Nat.le_of_ble_eq_true rfl, Nat.le_of_ble_eq_true rfl⟩ rfl rfl dX3_init_50 (fun u3 => ?_)
  refine bn_weq 8 404 ([(h0, .inr (3, [.ref q0, .ref q1, .ref q2, .null, .null, .null, .null, .null, .null, .null, .null, .int 0, .int 0, .int 0, .int 0])), bw_r q0 u0, bw_a G u0 100, bw_r q1 u1, bw_a G u1 100, bw_r q2 u2, bw_a G u2 100, bw_r q3 u3, bw_a G u3 100]) rfl rfl rfl ?_
  refine bn_putF (pc := 53) C hin ff_X3_26 rfl rfl (Nat.le_of_ble_eq_true rfl) dX3_init_53 ?_
  refine bn_weq 8 404 ([(h0, .inr (3, [.ref q0, .ref q1, .ref q2, .ref q3, .null, .null, .null, .null, .null, .null, .null, .int 0, .int 0, .int 0, .int 0])), bw_r q0 u0, bw_a G u0 100, bw_r q1 u1, bw_a G u1 100, bw_r q2 u2, bw_a G u2 100, bw_r q3 u3, bw_a G u3 100]) rfl rfl rfl ?_
  refine bn_aload_n (pc := 56) C dX3_init_56 rfl 0 rfl ?_
  refine bn_new (pc := 57) (fs := [.null]) C hA (ci := 4) rfl am_hin4 tyX4_ok bf_cl_X3_9 bf_ins4 bf_ini4 (fun j hj => by rcases (show j = 0 by omega) with rfl; rfl) ⟨Nat.le_of_ble_eq_true rfl, Nat.le_of_ble_eq_true rfl⟩ dX3_init_57 (fun q4 => ?_)
  refine bn_dup (pc := 60) C dX3_init_60 ?_
  refine bn_bipush (pc := 61) C dX3_init_61 rfl ?_
  refine bn_call (pc := 63) (As := [.int (Int32.ofInt ((100 : Nat) : Int))]) (rest := [.ref q4, .ref h0]) ([(h0, .inr (3, [.ref q0, .ref q1, .ref q2, .ref q3, .null, .null, .null, .null, .null, .null, .null, .int 0, .int 0, .int 0, .int 0])), bw_r q0 u0, bw_a G u0 100, bw_r q1 u1, bw_a G u1 100, bw_r q2 u2, bw_a G u2 100, bw_r q3 u3, bw_a G u3 100]) C hA (bc_X4 l G q4 100 (Nat.le_of_ble_eq_true rfl)) ym_X4_init rfl im_X4_init bf_si_X3_11 ⟨Nat.le_of_ble_eq_true rfl, Nat.le_of_ble_eq_true rfl⟩ rfl (Nat.le_of_ble_eq_true rfl) ⟨Nat.le_of_ble_eq_true rfl, Nat.le_of_ble_eq_true rfl⟩ rfl rfl dX3_init_63 (fun u4 => ?_)
  refine bn_weq 10 505 ([(h0, .inr (3, [.ref q0, .ref q1, .ref q2, .ref q3, .null, .null, .null, .null, .null, .null, .null, .int 0, .int 0, .int 0, .int 0])), bw_r q0 u0, bw_a G u0 100, bw_r q1 u1, bw_a G u1 100, bw_r q2 u2, bw_a G u2 100, bw_r q3 u3, bw_a G u3 100, bw_r q4 u4, bw_a G u4 100]) rfl rfl rfl ?_
  refine bn_putF (pc := 66) C hin ff_X3_29 rfl rfl (Nat.le_of_ble_eq_true rfl) dX3_init_66 ?_
  refine bn_weq 10 505 ([(h0, .inr (3, [.ref q0, .ref q1, .ref q2, .ref q3, .ref q4, .null, .null, .null, .null, .null, .null, .int 0, .int 0, .int 0, .int 0])), bw_r q0 u0, bw_a G u0 100, bw_r q1 u1, bw_a G u1 100, bw_r q2 u2, bw_a G u2 100, bw_r q3 u3, bw_a G u3 100, bw_r q4 u4, bw_a G u4 100]) rfl rfl rfl ?_
  refine bn_aload_n (pc := 69) C dX3_init_69 rfl 0 rfl ?_
  refine bn_new (pc := 70) (fs := [.null]) C hA (ci := 4) rfl am_hin4 tyX4_ok bf_cl_X3_9 bf_ins4 bf_ini4 (fun j hj => by rcases (show j = 0 by omega) with rfl; rfl) ⟨Nat.le_of_ble_eq_true rfl, Nat.le_of_ble_eq_true rfl⟩ dX3_init_70 (fun q5 => ?_)
  refine bn_dup (pc := 73) C dX3_init_73 ?_
  refine bn_bipush (pc := 74) C dX3_init_74 rfl ?_
  refine bn_call (pc := 76) (As := [.int (Int32.ofInt ((100 : Nat) : Int))]) (rest := [.ref q5, .ref h0]) ([(h0, .inr (3, [.ref q0, .ref q1, .ref q2, .ref q3, .ref q4, .null, .null, .null, .null, .null, .null, .int 0, .int 0, .int 0, .int 0])), bw_r q0 u0, bw_a G u0 100, bw_r q1 u1, bw_a G u1 100, bw_r q2 u2, bw_a G u2 100, bw_r q3 u3, bw_a G u3 100, bw_r q4 u4, bw_a G u4 100]) C hA (bc_X4 l G q5 100 (Nat.le_of_ble_eq_true rfl)) ym_X4_init rfl im_X4_init bf_si_X3_11 ⟨Nat.le_of_ble_eq_true rfl, Nat.le_of_ble_eq_true rfl⟩ rfl (Nat.le_of_ble_eq_true rfl) ⟨Nat.le_of_ble_eq_true rfl, Nat.le_of_ble_eq_true rfl⟩ rfl rfl dX3_init_76 (fun u5 => ?_)
  refine bn_weq 12 606 ([(h0, .inr (3, [.ref q0, .ref q1, .ref q2, .ref q3, .ref q4, .null, .null, .null, .null, .null, .null, .int 0, .int 0, .int 0, .int 0])), bw_r q0 u0, bw_a G u0 100, bw_r q1 u1, bw_a G u1 100, bw_r q2 u2, bw_a G u2 100, bw_r q3 u3, bw_a G u3 100, bw_r q4 u4, bw_a G u4 100, bw_r q5 u5, bw_a G u5 100]) rfl rfl rfl ?_
  refine bn_putF (pc := 79) C hin ff_X3_32 rfl rfl (Nat.le_of_ble_eq_true rfl) dX3_init_79 ?_
  refine bn_weq 12 606 ([(h0, .inr (3, [.ref q0, .ref q1, .ref q2, .ref q3, .ref q4, .ref q5, .null, .null, .null, .null, .null, .int 0, .int 0, .int 0, .int 0])), bw_r q0 u0, bw_a G u0 100, bw_r q1 u1, bw_a G u1 100, bw_r q2 u2, bw_a G u2 100, bw_r q3 u3, bw_a G u3 100, bw_r q4 u4, bw_a G u4 100, bw_r q5 u5, bw_a G u5 100]) rfl rfl rfl ?_
  refine bn_aload_n (pc := 82) C dX3_init_82 rfl 0 rfl ?_
  refine bn_new (pc := 83) (fs := [.null]) C hA (ci := 4) rfl am_hin4 tyX4_ok bf_cl_X3_9 bf_ins4 bf_ini4 (fun j hj => by rcases (show j = 0 by omega) with rfl; rfl) ⟨Nat.le_of_ble_eq_true rfl, Nat.le_of_ble_eq_true rfl⟩ dX3_init_83 (fun q6 => ?_)
  refine bn_dup (pc := 86) C dX3_init_86 ?_
  refine bn_bipush (pc := 87) C dX3_init_87 rfl ?_
  refine bn_call (pc := 89) (As := [.int (Int32.ofInt ((100 : Nat) : Int))]) (rest := [.ref q6, .ref h0]) ([(h0, .inr (3, [.ref q0, .ref q1, .ref q2, .ref q3, .ref q4, .ref q5, .null, .null, .null, .null, .null, .int 0, .int 0, .int 0, .int 0])), bw_r q0 u0, bw_a G u0 100, bw_r q1 u1, bw_a G u1 100, bw_r q2 u2, bw_a G u2 100, bw_r q3 u3, bw_a G u3 100, bw_r q4 u4, bw_a G u4 100, bw_r q5 u5, bw_a G u5 100]) C hA (bc_X4 l G q6 100 (Nat.le_of_ble_eq_true rfl)) ym_X4_init rfl im_X4_init bf_si_X3_11 ⟨Nat.le_of_ble_eq_true rfl, Nat.le_of_ble_eq_true rfl⟩ rfl (Nat.le_of_ble_eq_true rfl) ⟨Nat.le_of_ble_eq_true rfl, Nat.le_of_ble_eq_true rfl⟩ rfl rfl dX3_init_89 (fun u6 => ?_)
  refine bn_weq 14 707 ([(h0, .inr (3, [.ref q0, .ref q1, .ref q2, .ref q3, .ref q4, .ref q5, .null, .null, .null, .null, .null, .int 0, .int 0, .int 0, .int 0])), bw_r q0 u0, bw_a G u0 100, bw_r q1 u1, bw_a G u1 100, bw_r q2 u2, bw_a G u2 100, bw_r q3 u3, bw_a G u3 100, bw_r q4 u4, bw_a G u4 100, bw_r q5 u5, bw_a G u5 100, bw_r q6 u6, bw_a G u6 100]) rfl rfl rfl ?_
  refine bn_putF (pc := 92) C hin ff_X3_35 rfl rfl (Nat.le_of_ble_eq_true rfl) dX3_init_92 ?_
  refine bn_weq 14 707 ([(h0, .inr (3, [.ref q0, .ref q1, .ref q2, .ref q3, .ref q4, .ref q5, .ref q6, .null, .null, .null, .null, .int 0, .int 0, .int 0, .int 0])), bw_r q0 u0, bw_a G u0 100, bw_r q1 u1, bw_a G u1 100, bw_r q2 u2, bw_a G u2 100, bw_r q3 u3, bw_a G u3 100, bw_r q4 u4, bw_a G u4 100, bw_r q5 u5, bw_a G u5 100, bw_r q6 u6, bw_a G u6 100]) rfl rfl rfl ?_
  refine bn_aload_n (pc := 95) C dX3_init_95 rfl 0 rfl ?_
  refine bn_new (pc := 96) (fs := [.null]) C hA (ci := 4) rfl am_hin4 tyX4_ok bf_cl_X3_9 bf_ins4 bf_ini4 (fun j hj => by rcases (show j = 0 by omega) with rfl; rfl) ⟨Nat.le_of_ble_eq_true rfl, Nat.le_of_ble_eq_true rfl⟩ dX3_init_96 (fun q7 => ?_)
  refine bn_dup (pc := 99) C dX3_init_99 ?_
  refine bn_bipush (pc := 100) C dX3_init_100 rfl ?_
  refine bn_call (pc := 102) (As := [.int (Int32.ofInt ((100 : Nat) : Int))]) (rest := [.ref q7, .ref h0]) ([(h0, .inr (3, [.ref q0, .ref q1, .ref q2, .ref q3, .ref q4, .ref q5, .ref q6, .null, .null, .null, .null, .int 0, .int 0, .int 0, .int 0])), bw_r q0 u0, bw_a G u0 100, bw_r q1 u1, bw_a G u1 100, bw_r q2 u2, bw_a G u2 100, bw_r q3 u3, bw_a G u3 100, bw_r q4 u4, bw_a G u4 100, bw_r q5 u5, bw_a G u5 100, bw_r q6 u6, bw_a G u6 100]) C hA (bc_X4 l G q7 100 (Nat.le_of_ble_eq_true rfl)) ym_X4_init rfl im_X4_init bf_si_X3_11 ⟨Nat.le_of_ble_eq_true rfl, Nat.le_of_ble_eq_true rfl⟩ rfl (Nat.le_of_ble_eq_true rfl) ⟨Nat.le_of_ble_eq_true rfl, Nat.le_of_ble_eq_true rfl⟩ rfl rfl dX3_init_102 (fun u7 => ?_)
  refine bn_weq 16 808 ([(h0, .inr (3, [.ref q0, .ref q1, .ref q2, .ref q3, .ref q4, .ref q5, .ref q6, .null, .null, .null, .null, .int 0, .int 0, .int 0, .int 0])), bw_r q0 u0, bw_a G u0 100, bw_r q1 u1, bw_a G u1 100, bw_r q2 u2, bw_a G u2 100, bw_r q3 u3, bw_a G u3 100, bw_r q4 u4, bw_a G u4 100, bw_r q5 u5, bw_a G u5 100, bw_r q6 u6, bw_a G u6 100, bw_r q7 u7, bw_a G u7 100]) rfl rfl rfl ?_
  refine bn_putF (pc := 105) C hin ff_X3_38 rfl rfl (Nat.le_of_ble_eq_true rfl) dX3_init_105 ?_
  refine bn_weq 16 808 ([(h0, .inr (3, [.ref q0, .ref q1, .ref q2, .ref q3, .ref q4, .ref q5, .ref q6, .ref q7, .null, .null, .null, .int 0, .int 0, .int 0, .int 0])), bw_r q0 u0, bw_a G u0 100, bw_r q1 u1, bw_a G u1 100, bw_r q2 u2, bw_a G u2 100, bw_r q3 u3, bw_a G u3 100, bw_r q4 u4, bw_a G u4 100, bw_r q5 u5, bw_a G u5 100, bw_r q6 u6, bw_a G u6 100, bw_r q7 u7, bw_a G u7 100]) rfl rfl rfl ?_
  refine bn_aload_n (pc := 108) C dX3_init_108 rfl 0 rfl ?_
  refine bn_new (pc := 109) (fs := [.null]) C hA (ci := 4) rfl am_hin4 tyX4_ok bf_cl_X3_9 bf_ins4 bf_ini4 (fun j hj => by rcases (show j = 0 by omega) with rfl; rfl) ⟨Nat.le_of_ble_eq_true rfl, Nat.le_of_ble_eq_true rfl⟩ dX3_init_109 (fun q8 => ?_)
  refine bn_dup (pc := 112) C dX3_init_112 ?_
  refine bn_bipush (pc := 113) C dX3_init_113 rfl ?_
  refine bn_call (pc := 115) (As := [.int (Int32.ofInt ((100 : Nat) : Int))]) (rest := [.ref q8, .ref h0]) ([(h0, .inr (3, [.ref q0, .ref q1, .ref q2, .ref q3, .ref q4, .ref q5, .ref q6, .ref q7, .null, .null, .null, .int 0, .int 0, .int 0, .int 0])), bw_r q0 u0, bw_a G u0 100, bw_r q1 u1, bw_a G u1 100, bw_r q2 u2, bw_a G u2 100, bw_r q3 u3, bw_a G u3 100, bw_r q4 u4, bw_a G u4 100, bw_r q5 u5, bw_a G u5 100, bw_r q6 u6, bw_a G u6 100, bw_r q7 u7, bw_a G u7 100]) C hA (bc_X4 l G q8 100 (Nat.le_of_ble_eq_true rfl)) ym_X4_init rfl im_X4_init bf_si_X3_11 ⟨Nat.le_of_ble_eq_true rfl, Nat.le_of_ble_eq_true rfl⟩ rfl (Nat.le_of_ble_eq_true rfl) ⟨Nat.le_of_ble_eq_true rfl, Nat.le_of_ble_eq_true rfl⟩ rfl rfl dX3_init_115 (fun u8 => ?_)
  refine bn_weq 18 909 ([(h0, .inr (3, [.ref q0, .ref q1, .ref q2, .ref q3, .ref q4, .ref q5, .ref q6, .ref q7, .null, .null, .null, .int 0, .int 0, .int 0, .int 0])), bw_r q0 u0, bw_a G u0 100, bw_r q1 u1, bw_a G u1 100, bw_r q2 u2, bw_a G u2 100, bw_r q3 u3, bw_a G u3 100, bw_r q4 u4, bw_a G u4 100, bw_r q5 u5, bw_a G u5 100, bw_r q6 u6, bw_a G u6 100, bw_r q7 u7, bw_a G u7 100, bw_r q8 u8, bw_a G u8 100]) rfl rfl rfl ?_
  refine bn_putF (pc := 118) C hin ff_X3_41 rfl rfl (Nat.le_of_ble_eq_true rfl) dX3_init_118 ?_
  refine bn_weq 18 909 ([(h0, .inr (3, [.ref q0, .ref q1, .ref q2, .ref q3, .ref q4, .ref q5, .ref q6, .ref q7, .ref q8, .null, .null, .int 0, .int 0, .int 0, .int 0])), bw_r q0 u0, bw_a G u0 100, bw_r q1 u1, bw_a G u1 100, bw_r q2 u2, bw_a G u2 100, bw_r q3 u3, bw_a G u3 100, bw_r q4 u4, bw_a G u4 100, bw_r q5 u5, bw_a G u5 100, bw_r q6 u6, bw_a G u6 100, bw_r q7 u7, bw_a G u7 100, bw_r q8 u8, bw_a G u8 100]) rfl rfl rfl ?_
  refine bn_aload_n (pc := 121) C dX3_init_121 rfl 0 rfl ?_
  refine bn_new (pc := 122) (fs := [.null]) C hA (ci := 4) rfl am_hin4 tyX4_ok bf_cl_X3_9 bf_ins4 bf_ini4 (fun j hj => by rcases (show j = 0 by omega) with rfl; rfl) ⟨Nat.le_of_ble_eq_true rfl, Nat.le_of_ble_eq_true rfl⟩ dX3_init_122 (fun q9 => ?_)
  refine bn_dup (pc := 125) C dX3_init_125 ?_
  refine bn_sipush (pc := 126) C dX3_init_126 rfl ?_
  refine bn_call (pc := 129) (As := [.int (Int32.ofInt ((900 : Nat) : Int))]) (rest := [.ref q9, .ref h0]) ([(h0, .inr (3, [.ref q0, .ref q1, .ref q2, .ref q3, .ref q4, .ref q5, .ref q6, .ref q7, .ref q8, .null, .null, .int 0, .int 0, .int 0, .int 0])), bw_r q0 u0, bw_a G u0 100, bw_r q1 u1, bw_a G u1 100, bw_r q2 u2, bw_a G u2 100, bw_r q3 u3, bw_a G u3 100, bw_r q4 u4, bw_a G u4 100, bw_r q5 u5, bw_a G u5 100, bw_r q6 u6, bw_a G u6 100, bw_r q7 u7, bw_a G u7 100, bw_r q8 u8, bw_a G u8 100]) C hA (bc_X4 l G q9 900 (Nat.le_of_ble_eq_true rfl)) ym_X4_init rfl im_X4_init bf_si_X3_11 ⟨Nat.le_of_ble_eq_true rfl, Nat.le_of_ble_eq_true rfl⟩ rfl (Nat.le_of_ble_eq_true rfl) ⟨Nat.le_of_ble_eq_true rfl, Nat.le_of_ble_eq_true rfl⟩ rfl rfl dX3_init_129 (fun u9 => ?_)
  refine bn_weq 20 1810 ([(h0, .inr (3, [.ref q0, .ref q1, .ref q2, .ref q3, .ref q4, .ref q5, .ref q6, .ref q7, .ref q8, .null, .null, .int 0, .int 0, .int 0, .int 0])), bw_r q0 u0, bw_a G u0 100, bw_r q1 u1, bw_a G u1 100, bw_r q2 u2, bw_a G u2 100, bw_r q3 u3, bw_a G u3 100, bw_r q4 u4, bw_a G u4 100, bw_r q5 u5, bw_a G u5 100, bw_r q6 u6, bw_a G u6 100, bw_r q7 u7, bw_a G u7 100, bw_r q8 u8, bw_a G u8 100, bw_r q9 u9, bw_a G u9 900]) rfl rfl rfl ?_
  refine bn_putF (pc := 132) C hin ff_X3_44 rfl rfl (Nat.le_of_ble_eq_true rfl) dX3_init_132 ?_
  refine bn_weq 20 1810 ([(h0, .inr (3, [.ref q0, .ref q1, .ref q2, .ref q3, .ref q4, .ref q5, .ref q6, .ref q7, .ref q8, .ref q9, .null, .int 0, .int 0, .int 0, .int 0])), bw_r q0 u0, bw_a G u0 100, bw_r q1 u1, bw_a G u1 100, bw_r q2 u2, bw_a G u2 100, bw_r q3 u3, bw_a G u3 100, bw_r q4 u4, bw_a G u4 100, bw_r q5 u5, bw_a G u5 100, bw_r q6 u6, bw_a G u6 100, bw_r q7 u7, bw_a G u7 100, bw_r q8 u8, bw_a G u8 100, bw_r q9 u9, bw_a G u9 900]) rfl rfl rfl ?_
  refine bn_aload_n (pc := 135) C dX3_init_135 rfl 0 rfl ?_
  refine bn_new (pc := 136) (fs := [.null]) C hA (ci := 4) rfl am_hin4 tyX4_ok bf_cl_X3_9 bf_ins4 bf_ini4 (fun j hj => by rcases (show j = 0 by omega) with rfl; rfl) ⟨Nat.le_of_ble_eq_true rfl, Nat.le_of_ble_eq_true rfl⟩ dX3_init_136 (fun q10 => ?_)
  refine bn_dup (pc := 139) C dX3_init_139 ?_
  refine bn_sipush (pc := 140) C dX3_init_140 rfl ?_
  refine bn_call (pc := 143) (As := [.int (Int32.ofInt ((900 : Nat) : Int))]) (rest := [.ref q10, .ref h0]) ([(h0, .inr (3, [.ref q0, .ref q1, .ref q2, .ref q3, .ref q4, .ref q5, .ref q6, .ref q7, .ref q8, .ref q9, .null, .int 0, .int 0, .int 0, .int 0])), bw_r q0 u0, bw_a G u0 100, bw_r q1 u1, bw_a G u1 100, bw_r q2 u2, bw_a G u2 100, bw_r q3 u3, bw_a G u3 100, bw_r q4 u4, bw_a G u4 100, bw_r q5 u5, bw_a G u5 100, bw_r q6 u6, bw_a G u6 100, bw_r q7 u7, bw_a G u7 100, bw_r q8 u8, bw_a G u8 100, bw_r q9 u9, bw_a G u9 900]) C hA (bc_X4 l G q10 900 (Nat.le_of_ble_eq_true rfl)) ym_X4_init rfl im_X4_init bf_si_X3_11 ⟨Nat.le_of_ble_eq_true rfl, Nat.le_of_ble_eq_true rfl⟩ rfl (Nat.le_of_ble_eq_true rfl) ⟨Nat.le_of_ble_eq_true rfl, Nat.le_of_ble_eq_true rfl⟩ rfl rfl dX3_init_143 (fun u10 => ?_)
  refine bn_weq 22 2711 ([(h0, .inr (3, [.ref q0, .ref q1, .ref q2, .ref q3, .ref q4, .ref q5, .ref q6, .ref q7, .ref q8, .ref q9, .null, .int 0, .int 0, .int 0, .int 0])), bw_r q0 u0, bw_a G u0 100, bw_r q1 u1, bw_a G u1 100, bw_r q2 u2, bw_a G u2 100, bw_r q3 u3, bw_a G u3 100, bw_r q4 u4, bw_a G u4 100, bw_r q5 u5, bw_a G u5 100, bw_r q6 u6, bw_a G u6 100, bw_r q7 u7, bw_a G u7 100, bw_r q8 u8, bw_a G u8 100, bw_r q9 u9, bw_a G u9 900, bw_r q10 u10, bw_a G u10 900]) rfl rfl rfl ?_
  refine bn_putF (pc := 146) C hin ff_X3_47 rfl rfl (Nat.le_of_ble_eq_true rfl) dX3_init_146 ?_
  refine bn_weq 22 2711 ([(h0, .inr (3, [.ref q0, .ref q1, .ref q2, .ref q3, .ref q4, .ref q5, .ref q6, .ref q7, .ref q8, .ref q9, .ref q10, .int 0, .int 0, .int 0, .int 0])), bw_r q0 u0, bw_a G u0 100, bw_r q1 u1, bw_a G u1 100, bw_r q2 u2, bw_a G u2 100, bw_r q3 u3, bw_a G u3 100, bw_r q4 u4, bw_a G u4 100, bw_r q5 u5, bw_a G u5 100, bw_r q6 u6, bw_a G u6 100, bw_r q7 u7, bw_a G u7 100, bw_r q8 u8, bw_a G u8 100, bw_r q9 u9, bw_a G u9 900, bw_r q10 u10, bw_a G u10 900]) rfl rfl rfl ?_
  refine bn_aload_n (pc := 149) C dX3_init_149 rfl 0 rfl ?_
  refine bn_iconst (pc := 150) C dX3_init_150 ?_
  refine bn_putI (pc := 151) C fq_X3_50 (Nat.le_of_ble_eq_true rfl) dX3_init_151 ?_
  refine bn_weq 22 2711 ([(h0, .inr (3, [.ref q0, .ref q1, .ref q2, .ref q3, .ref q4, .ref q5, .ref q6, .ref q7, .ref q8, .ref q9, .ref q10, .int (Int32.ofInt 0), .int 0, .int 0, .int 0])), bw_r q0 u0, bw_a G u0 100, bw_r q1 u1, bw_a G u1 100, bw_r q2 u2, bw_a G u2 100, bw_r q3 u3, bw_a G u3 100, bw_r q4 u4, bw_a G u4 100, bw_r q5 u5, bw_a G u5 100, bw_r q6 u6, bw_a G u6 100, bw_r q7 u7, bw_a G u7 100, bw_r q8 u8, bw_a G u8 100, bw_r q9 u9, bw_a G u9 900, bw_r q10 u10, bw_a G u10 900]) rfl rfl rfl ?_
  refine bn_aload_n (pc := 154) C dX3_init_154 rfl 0 rfl ?_
  refine bn_iconst (pc := 155) C dX3_init_155 ?_
  refine bn_putI (pc := 156) C fq_X3_54 (Nat.le_of_ble_eq_true rfl) dX3_init_156 ?_
  refine bn_weq 22 2711 ([(h0, .inr (3, [.ref q0, .ref q1, .ref q2, .ref q3, .ref q4, .ref q5, .ref q6, .ref q7, .ref q8, .ref q9, .ref q10, .int (Int32.ofInt 0), .int (Int32.ofInt 0), .int 0, .int 0])), bw_r q0 u0, bw_a G u0 100, bw_r q1 u1, bw_a G u1 100, bw_r q2 u2, bw_a G u2 100, bw_r q3 u3, bw_a G u3 100, bw_r q4 u4, bw_a G u4 100, bw_r q5 u5, bw_a G u5 100, bw_r q6 u6, bw_a G u6 100, bw_r q7 u7, bw_a G u7 100, bw_r q8 u8, bw_a G u8 100, bw_r q9 u9, bw_a G u9 900, bw_r q10 u10, bw_a G u10 900]) rfl rfl rfl ?_
  refine bn_aload_n (pc := 159) C dX3_init_159 rfl 0 rfl ?_
  refine bn_iconst (pc := 160) C dX3_init_160 ?_
  refine bn_putI (pc := 161) C fq_X3_57 (Nat.le_of_ble_eq_true rfl) dX3_init_161 ?_
  refine bn_weq 22 2711 ([(h0, .inr (3, [.ref q0, .ref q1, .ref q2, .ref q3, .ref q4, .ref q5, .ref q6, .ref q7, .ref q8, .ref q9, .ref q10, .int (Int32.ofInt 0), .int (Int32.ofInt 0), .int (Int32.ofInt 0), .int 0])), bw_r q0 u0, bw_a G u0 100, bw_r q1 u1, bw_a G u1 100, bw_r q2 u2, bw_a G u2 100, bw_r q3 u3, bw_a G u3 100, bw_r q4 u4, bw_a G u4 100, bw_r q5 u5, bw_a G u5 100, bw_r q6 u6, bw_a G u6 100, bw_r q7 u7, bw_a G u7 100, bw_r q8 u8, bw_a G u8 100, bw_r q9 u9, bw_a G u9 900, bw_r q10 u10, bw_a G u10 900]) rfl rfl rfl ?_
  refine bn_aload_n (pc := 164) C dX3_init_164 rfl 0 rfl ?_
  refine bn_iconst (pc := 165) C dX3_init_165 ?_
  refine bn_putI (pc := 166) C fq_X3_60 (Nat.le_of_ble_eq_true rfl) dX3_init_166 ?_
  refine bn_weq 22 2711 ([(h0, .inr (3, [.ref q0, .ref q1, .ref q2, .ref q3, .ref q4, .ref q5, .ref q6, .ref q7, .ref q8, .ref q9, .ref q10, .int (Int32.ofInt 0), .int (Int32.ofInt 0), .int (Int32.ofInt 0), .int (Int32.ofInt 0)])), bw_r q0 u0, bw_a G u0 100, bw_r q1 u1, bw_a G u1 100, bw_r q2 u2, bw_a G u2 100, bw_r q3 u3, bw_a G u3 100, bw_r q4 u4, bw_a G u4 100, bw_r q5 u5, bw_a G u5 100, bw_r q6 u6, bw_a G u6 100, bw_r q7 u7, bw_a G u7 100, bw_r q8 u8, bw_a G u8 100, bw_r q9 u9, bw_a G u9 900, bw_r q10 u10, bw_a G u10 900]) rfl rfl rfl ?_
  exact bn_vret (fun i => ([(q0, u0), (q1, u1), (q2, u2), (q3, u3), (q4, u4), (q5, u5), (q6, u6), (q7, u7), (q8, u8), (q9, u9), (q10, u10)] : List (Nat × Nat)).getD i (0, 0)) C hr hlocks rfl dX3_init_169
set_option maxRecDepth 100000 in
theorem bf_oi_X6 : Cond.methodLink RX6 3 objectInit ∈ am_T := am_mem 179 (by decide +kernel) (by decide +kernel)
set_option maxRecDepth 100000 in
theorem bf_cl_X6_9 : Cond.classLink RX6 9 RX4 ∈ am_T := am_mem 180 (by decide +kernel) (by decide +kernel)
set_option maxRecDepth 100000 in
theorem bf_si_X6_11 : Cond.methodLink RX6 11 yX4_init ∈ am_T := am_mem 181 (by decide +kernel) (by decide +kernel)
set_option maxRecDepth 100000 in
theorem ff_X6_14 : am_fldF RX6 6 14 0 (.object "JobLoop$Row") := ⟨TX6, 5, tyX6, rfl, am_hin6, by decide, rfl, am_mem 182 (by decide +kernel) (by decide +kernel), tyX6_ok, nmX6, rfl, rfl⟩
set_option maxRecDepth 100000 in
theorem ff_X6_20 : am_fldF RX6 6 20 1 (.object "JobLoop$Row") := ⟨TX6, 5, tyX6, rfl, am_hin6, by decide, rfl, am_mem 183 (by decide +kernel) (by decide +kernel), tyX6_ok, nmX6, rfl, rfl⟩
set_option maxRecDepth 100000 in
theorem ff_X6_23 : am_fldF RX6 6 23 2 (.object "JobLoop$Row") := ⟨TX6, 5, tyX6, rfl, am_hin6, by decide, rfl, am_mem 184 (by decide +kernel) (by decide +kernel), tyX6_ok, nmX6, rfl, rfl⟩
set_option maxRecDepth 100000 in
theorem fq_X6_26 : am_fldP RX6 6 26 3 .int := ⟨TX6, 5, tyX6, rfl, am_hin6, by decide, rfl, am_mem 185 (by decide +kernel) (by decide +kernel), tyX6_ok, nmX6, rfl, rfl⟩
set_option maxRecDepth 100000 in
theorem fq_X6_30 : am_fldP RX6 6 30 4 .int := ⟨TX6, 5, tyX6, rfl, am_hin6, by decide, rfl, am_mem 186 (by decide +kernel) (by decide +kernel), tyX6_ok, nmX6, rfl, rfl⟩
def bw_X6 (G : am_G) (h0 : Nat) (u : Nat → Nat × Nat) : va_W := [(h0, .inr (6, [.ref (u 0).1, .ref (u 1).1, .ref (u 2).1, .int (Int32.ofInt 0), .int (Int32.ofInt 0)])), bw_r (u 0).1 (u 0).2, bw_a G (u 0).2 32, bw_r (u 1).1 (u 1).2, bw_a G (u 1).2 32, bw_r (u 2).1 (u 2).2, bw_a G (u 2).2 32]
set_option maxRecDepth 100000 in
theorem ym_X6_init : am_y yX6_init cX6_init 1 none 0 := ⟨am_mem 178 (by decide +kernel) (by decide +kernel), am_mem 51 (by decide +kernel) (by decide +kernel), by decide +kernel, by decide +kernel, by decide +kernel, by decide +kernel⟩
set_option maxRecDepth 100000 in
theorem im_X6_init : Cond.instanceMethod yX6_init ∈ am_T := am_mem 177 (by decide +kernel) (by decide +kernel)
set_option maxRecDepth 100000 in
set_option maxHeartbeats 4000000 in
theorem bc_X6 (l : Launch) (G : am_G) (h0 : Nat) : bn_met l yX6_init cX6_init 1 2 40 6 99 G [.ref h0] [(h0, .inr (6, [.null, .null, .null, .int 0, .int 0]))] (bw_X6 G h0) := by
  refine bn_enter (lv := [(0, .ref h0)]) ym_X6_init rfl (Nat.le_of_ble_eq_true rfl) rfl (fun p e s m args below meth c C hr hlocks hin hA => ?_)
  refine bn_aload_n (pc := 0) C dX6_init_0 rfl 0 rfl ?_
  refine bn_oinit (pc := 1) C bf_oi_X6 bf_im bf_oc dX6_init_1 ⟨Nat.le_of_ble_eq_true rfl, Nat.le_of_ble_eq_true rfl⟩ ?_
  refine bn_aload_n (pc := 4) C dX6_init_4 rfl 0 rfl ?_
  refine bn_new (pc := 5) (fs := [.null]) C hA (ci := 4) rfl am_hin4 tyX4_ok bf_cl_X6_9 bf_ins4 bf_ini4 (fun j hj => by rcases (show j = 0 by omega) with rfl; rfl) ⟨Nat.le_of_ble_eq_true rfl, Nat.le_of_ble_eq_true rfl⟩ dX6_init_5 (fun q0 => ?_)
  refine bn_dup (pc := 8) C dX6_init_8 ?_
  refine bn_bipush (pc := 9) C dX6_init_9 rfl ?_
  refine bn_call (pc := 11) (As := [.int (Int32.ofInt ((32 : Nat) : Int))]) (rest := [.ref q0, .ref h0]) ([(h0, .inr (6, [.null, .null, .null, .int 0, .int 0]))]) C hA (bc_X4 l G q0 32 (Nat.le_of_ble_eq_true rfl)) ym_X4_init rfl im_X4_init bf_si_X6_11 ⟨Nat.le_of_ble_eq_true rfl, Nat.le_of_ble_eq_true rfl⟩ rfl (Nat.le_of_ble_eq_true rfl) ⟨Nat.le_of_ble_eq_true rfl, Nat.le_of_ble_eq_true rfl⟩ rfl rfl dX6_init_11 (fun u0 => ?_)
  refine bn_weq 2 33 ([(h0, .inr (6, [.null, .null, .null, .int 0, .int 0])), bw_r q0 u0, bw_a G u0 32]) rfl rfl rfl ?_
  refine bn_putF (pc := 14) C hin ff_X6_14 rfl rfl (Nat.le_of_ble_eq_true rfl) dX6_init_14 ?_
  refine bn_weq 2 33 ([(h0, .inr (6, [.ref q0, .null, .null, .int 0, .int 0])), bw_r q0 u0, bw_a G u0 32]) rfl rfl rfl ?_
  refine bn_aload_n (pc := 17) C dX6_init_17 rfl 0 rfl ?_
  refine bn_new (pc := 18) (fs := [.null]) C hA (ci := 4) rfl am_hin4 tyX4_ok bf_cl_X6_9 bf_ins4 bf_ini4 (fun j hj => by rcases (show j = 0 by omega) with rfl; rfl) ⟨Nat.le_of_ble_eq_true rfl, Nat.le_of_ble_eq_true rfl⟩ dX6_init_18 (fun q1 => ?_)
  refine bn_dup (pc := 21) C dX6_init_21 ?_
  refine bn_bipush (pc := 22) C dX6_init_22 rfl ?_
  refine bn_call (pc := 24) (As := [.int (Int32.ofInt ((32 : Nat) : Int))]) (rest := [.ref q1, .ref h0]) ([(h0, .inr (6, [.ref q0, .null, .null, .int 0, .int 0])), bw_r q0 u0, bw_a G u0 32]) C hA (bc_X4 l G q1 32 (Nat.le_of_ble_eq_true rfl)) ym_X4_init rfl im_X4_init bf_si_X6_11 ⟨Nat.le_of_ble_eq_true rfl, Nat.le_of_ble_eq_true rfl⟩ rfl (Nat.le_of_ble_eq_true rfl) ⟨Nat.le_of_ble_eq_true rfl, Nat.le_of_ble_eq_true rfl⟩ rfl rfl dX6_init_24 (fun u1 => ?_)
  refine bn_weq 4 66 ([(h0, .inr (6, [.ref q0, .null, .null, .int 0, .int 0])), bw_r q0 u0, bw_a G u0 32, bw_r q1 u1, bw_a G u1 32]) rfl rfl rfl ?_
  refine bn_putF (pc := 27) C hin ff_X6_20 rfl rfl (Nat.le_of_ble_eq_true rfl) dX6_init_27 ?_
  refine bn_weq 4 66 ([(h0, .inr (6, [.ref q0, .ref q1, .null, .int 0, .int 0])), bw_r q0 u0, bw_a G u0 32, bw_r q1 u1, bw_a G u1 32]) rfl rfl rfl ?_
  refine bn_aload_n (pc := 30) C dX6_init_30 rfl 0 rfl ?_
  refine bn_new (pc := 31) (fs := [.null]) C hA (ci := 4) rfl am_hin4 tyX4_ok bf_cl_X6_9 bf_ins4 bf_ini4 (fun j hj => by rcases (show j = 0 by omega) with rfl; rfl) ⟨Nat.le_of_ble_eq_true rfl, Nat.le_of_ble_eq_true rfl⟩ dX6_init_31 (fun q2 => ?_)
  refine bn_dup (pc := 34) C dX6_init_34 ?_
  refine bn_bipush (pc := 35) C dX6_init_35 rfl ?_
  refine bn_call (pc := 37) (As := [.int (Int32.ofInt ((32 : Nat) : Int))]) (rest := [.ref q2, .ref h0]) ([(h0, .inr (6, [.ref q0, .ref q1, .null, .int 0, .int 0])), bw_r q0 u0, bw_a G u0 32, bw_r q1 u1, bw_a G u1 32]) C hA (bc_X4 l G q2 32 (Nat.le_of_ble_eq_true rfl)) ym_X4_init rfl im_X4_init bf_si_X6_11 ⟨Nat.le_of_ble_eq_true rfl, Nat.le_of_ble_eq_true rfl⟩ rfl (Nat.le_of_ble_eq_true rfl) ⟨Nat.le_of_ble_eq_true rfl, Nat.le_of_ble_eq_true rfl⟩ rfl rfl dX6_init_37 (fun u2 => ?_)
  refine bn_weq 6 99 ([(h0, .inr (6, [.ref q0, .ref q1, .null, .int 0, .int 0])), bw_r q0 u0, bw_a G u0 32, bw_r q1 u1, bw_a G u1 32, bw_r q2 u2, bw_a G u2 32]) rfl rfl rfl ?_
  refine bn_putF (pc := 40) C hin ff_X6_23 rfl rfl (Nat.le_of_ble_eq_true rfl) dX6_init_40 ?_
  refine bn_weq 6 99 ([(h0, .inr (6, [.ref q0, .ref q1, .ref q2, .int 0, .int 0])), bw_r q0 u0, bw_a G u0 32, bw_r q1 u1, bw_a G u1 32, bw_r q2 u2, bw_a G u2 32]) rfl rfl rfl ?_
  refine bn_aload_n (pc := 43) C dX6_init_43 rfl 0 rfl ?_
  refine bn_iconst (pc := 44) C dX6_init_44 ?_
  refine bn_putI (pc := 45) C fq_X6_26 (Nat.le_of_ble_eq_true rfl) dX6_init_45 ?_
  refine bn_weq 6 99 ([(h0, .inr (6, [.ref q0, .ref q1, .ref q2, .int (Int32.ofInt 0), .int 0])), bw_r q0 u0, bw_a G u0 32, bw_r q1 u1, bw_a G u1 32, bw_r q2 u2, bw_a G u2 32]) rfl rfl rfl ?_
  refine bn_aload_n (pc := 48) C dX6_init_48 rfl 0 rfl ?_
  refine bn_iconst (pc := 49) C dX6_init_49 ?_
  refine bn_putI (pc := 50) C fq_X6_30 (Nat.le_of_ble_eq_true rfl) dX6_init_50 ?_
  refine bn_weq 6 99 ([(h0, .inr (6, [.ref q0, .ref q1, .ref q2, .int (Int32.ofInt 0), .int (Int32.ofInt 0)])), bw_r q0 u0, bw_a G u0 32, bw_r q1 u1, bw_a G u1 32, bw_r q2 u2, bw_a G u2 32]) rfl rfl rfl ?_
  exact bn_vret (fun i => ([(q0, u0), (q1, u1), (q2, u2)] : List (Nat × Nat)).getD i (0, 0)) C hr hlocks rfl dX6_init_53
set_option maxRecDepth 100000 in
theorem bf_oi_X1 : Cond.methodLink RX1 3 objectInit ∈ am_T := am_mem 224 (by decide +kernel) (by decide +kernel)
set_option maxRecDepth 100000 in
theorem bf_cl_X1_9 : Cond.classLink RX1 9 RX4 ∈ am_T := am_mem 225 (by decide +kernel) (by decide +kernel)
set_option maxRecDepth 100000 in
theorem bf_si_X1_11 : Cond.methodLink RX1 11 yX4_init ∈ am_T := am_mem 226 (by decide +kernel) (by decide +kernel)
set_option maxRecDepth 100000 in
theorem ff_X1_14 : am_fldF RX1 1 14 0 (.object "JobLoop$Row") := ⟨TX1, 6, tyX1, rfl, am_hin1, by decide, rfl, am_mem 227 (by decide +kernel) (by decide +kernel), tyX1_ok, nmX1, rfl, rfl⟩
set_option maxRecDepth 100000 in
theorem ff_X1_20 : am_fldF RX1 1 20 1 (.object "JobLoop$Row") := ⟨TX1, 6, tyX1, rfl, am_hin1, by decide, rfl, am_mem 228 (by decide +kernel) (by decide +kernel), tyX1_ok, nmX1, rfl, rfl⟩
set_option maxRecDepth 100000 in
theorem ff_X1_23 : am_fldF RX1 1 23 2 (.object "JobLoop$Row") := ⟨TX1, 6, tyX1, rfl, am_hin1, by decide, rfl, am_mem 229 (by decide +kernel) (by decide +kernel), tyX1_ok, nmX1, rfl, rfl⟩
set_option maxRecDepth 100000 in
theorem ff_X1_26 : am_fldF RX1 1 26 3 (.object "JobLoop$Row") := ⟨TX1, 6, tyX1, rfl, am_hin1, by decide, rfl, am_mem 230 (by decide +kernel) (by decide +kernel), tyX1_ok, nmX1, rfl, rfl⟩
set_option maxRecDepth 100000 in
theorem fq_X1_29 : am_fldP RX1 1 29 5 .int := ⟨TX1, 6, tyX1, rfl, am_hin1, by decide, rfl, am_mem 232 (by decide +kernel) (by decide +kernel), tyX1_ok, nmX1, rfl, rfl⟩
set_option maxRecDepth 100000 in
theorem ff_X1_33 : am_fldF RX1 1 33 4 (.object "JobLoop$Promises") := ⟨TX1, 6, tyX1, rfl, am_hin1, by decide, rfl, am_mem 231 (by decide +kernel) (by decide +kernel), tyX1_ok, nmX1, rfl, rfl⟩
def bw_X1 (G : am_G) (h0 a1 : Nat) (u : Nat → Nat × Nat) : va_W := [(h0, .inr (1, [.ref (u 0).1, .ref (u 1).1, .ref (u 2).1, .ref (u 3).1, .ref a1, .int (Int32.ofInt 0)])), bw_r (u 0).1 (u 0).2, bw_a G (u 0).2 5, bw_r (u 1).1 (u 1).2, bw_a G (u 1).2 100, bw_r (u 2).1 (u 2).2, bw_a G (u 2).2 100, bw_r (u 3).1 (u 3).2, bw_a G (u 3).2 100]
set_option maxRecDepth 100000 in
theorem ym_X1_init : am_y yX1_init cX1_init 2 none 1 := ⟨am_mem 223 (by decide +kernel) (by decide +kernel), am_mem 53 (by decide +kernel) (by decide +kernel), by decide +kernel, by decide +kernel, by decide +kernel, by decide +kernel⟩
set_option maxRecDepth 100000 in
theorem im_X1_init : Cond.instanceMethod yX1_init ∈ am_T := am_mem 222 (by decide +kernel) (by decide +kernel)
set_option maxRecDepth 100000 in
set_option maxHeartbeats 4000000 in
theorem bc_X1 (l : Launch) (G : am_G) (h0 a1 : Nat) : bn_met l yX1_init cX1_init 2 2 40 8 309 G [.ref h0, .ref a1] [(h0, .inr (1, [.null, .null, .null, .null, .null, .int 0]))] (bw_X1 G h0 a1) := by
  refine bn_enter (lv := [(0, .ref h0), (1, .ref a1)]) ym_X1_init rfl (Nat.le_of_ble_eq_true rfl) rfl (fun p e s m args below meth c C hr hlocks hin hA => ?_)
  refine bn_aload_n (pc := 0) C dX1_init_0 rfl 0 rfl ?_
  refine bn_oinit (pc := 1) C bf_oi_X1 bf_im bf_oc dX1_init_1 ⟨Nat.le_of_ble_eq_true rfl, Nat.le_of_ble_eq_true rfl⟩ ?_
  refine bn_aload_n (pc := 4) C dX1_init_4 rfl 0 rfl ?_
  refine bn_new (pc := 5) (fs := [.null]) C hA (ci := 4) rfl am_hin4 tyX4_ok bf_cl_X1_9 bf_ins4 bf_ini4 (fun j hj => by rcases (show j = 0 by omega) with rfl; rfl) ⟨Nat.le_of_ble_eq_true rfl, Nat.le_of_ble_eq_true rfl⟩ dX1_init_5 (fun q0 => ?_)
  refine bn_dup (pc := 8) C dX1_init_8 ?_
  refine bn_iconst (pc := 9) C dX1_init_9 ?_
  refine bn_call (pc := 10) (As := [.int (Int32.ofInt ((5 : Nat) : Int))]) (rest := [.ref q0, .ref h0]) ([(h0, .inr (1, [.null, .null, .null, .null, .null, .int 0]))]) C hA (bc_X4 l G q0 5 (Nat.le_of_ble_eq_true rfl)) ym_X4_init rfl im_X4_init bf_si_X1_11 ⟨Nat.le_of_ble_eq_true rfl, Nat.le_of_ble_eq_true rfl⟩ rfl (Nat.le_of_ble_eq_true rfl) ⟨Nat.le_of_ble_eq_true rfl, Nat.le_of_ble_eq_true rfl⟩ rfl rfl dX1_init_10 (fun u0 => ?_)
  refine bn_weq 2 6 ([(h0, .inr (1, [.null, .null, .null, .null, .null, .int 0])), bw_r q0 u0, bw_a G u0 5]) rfl rfl rfl ?_
  refine bn_putF (pc := 13) C hin ff_X1_14 rfl rfl (Nat.le_of_ble_eq_true rfl) dX1_init_13 ?_
  refine bn_weq 2 6 ([(h0, .inr (1, [.ref q0, .null, .null, .null, .null, .int 0])), bw_r q0 u0, bw_a G u0 5]) rfl rfl rfl ?_
  refine bn_aload_n (pc := 16) C dX1_init_16 rfl 0 rfl ?_
  refine bn_new (pc := 17) (fs := [.null]) C hA (ci := 4) rfl am_hin4 tyX4_ok bf_cl_X1_9 bf_ins4 bf_ini4 (fun j hj => by rcases (show j = 0 by omega) with rfl; rfl) ⟨Nat.le_of_ble_eq_true rfl, Nat.le_of_ble_eq_true rfl⟩ dX1_init_17 (fun q1 => ?_)
  refine bn_dup (pc := 20) C dX1_init_20 ?_
  refine bn_bipush (pc := 21) C dX1_init_21 rfl ?_
  refine bn_call (pc := 23) (As := [.int (Int32.ofInt ((100 : Nat) : Int))]) (rest := [.ref q1, .ref h0]) ([(h0, .inr (1, [.ref q0, .null, .null, .null, .null, .int 0])), bw_r q0 u0, bw_a G u0 5]) C hA (bc_X4 l G q1 100 (Nat.le_of_ble_eq_true rfl)) ym_X4_init rfl im_X4_init bf_si_X1_11 ⟨Nat.le_of_ble_eq_true rfl, Nat.le_of_ble_eq_true rfl⟩ rfl (Nat.le_of_ble_eq_true rfl) ⟨Nat.le_of_ble_eq_true rfl, Nat.le_of_ble_eq_true rfl⟩ rfl rfl dX1_init_23 (fun u1 => ?_)
  refine bn_weq 4 107 ([(h0, .inr (1, [.ref q0, .null, .null, .null, .null, .int 0])), bw_r q0 u0, bw_a G u0 5, bw_r q1 u1, bw_a G u1 100]) rfl rfl rfl ?_
  refine bn_putF (pc := 26) C hin ff_X1_20 rfl rfl (Nat.le_of_ble_eq_true rfl) dX1_init_26 ?_
  refine bn_weq 4 107 ([(h0, .inr (1, [.ref q0, .ref q1, .null, .null, .null, .int 0])), bw_r q0 u0, bw_a G u0 5, bw_r q1 u1, bw_a G u1 100]) rfl rfl rfl ?_
  refine bn_aload_n (pc := 29) C dX1_init_29 rfl 0 rfl ?_
  refine bn_new (pc := 30) (fs := [.null]) C hA (ci := 4) rfl am_hin4 tyX4_ok bf_cl_X1_9 bf_ins4 bf_ini4 (fun j hj => by rcases (show j = 0 by omega) with rfl; rfl) ⟨Nat.le_of_ble_eq_true rfl, Nat.le_of_ble_eq_true rfl⟩ dX1_init_30 (fun q2 => ?_)
  refine bn_dup (pc := 33) C dX1_init_33 ?_
  refine bn_bipush (pc := 34) C dX1_init_34 rfl ?_
  refine bn_call (pc := 36) (As := [.int (Int32.ofInt ((100 : Nat) : Int))]) (rest := [.ref q2, .ref h0]) ([(h0, .inr (1, [.ref q0, .ref q1, .null, .null, .null, .int 0])), bw_r q0 u0, bw_a G u0 5, bw_r q1 u1, bw_a G u1 100]) C hA (bc_X4 l G q2 100 (Nat.le_of_ble_eq_true rfl)) ym_X4_init rfl im_X4_init bf_si_X1_11 ⟨Nat.le_of_ble_eq_true rfl, Nat.le_of_ble_eq_true rfl⟩ rfl (Nat.le_of_ble_eq_true rfl) ⟨Nat.le_of_ble_eq_true rfl, Nat.le_of_ble_eq_true rfl⟩ rfl rfl dX1_init_36 (fun u2 => ?_)
  refine bn_weq 6 208 ([(h0, .inr (1, [.ref q0, .ref q1, .null, .null, .null, .int 0])), bw_r q0 u0, bw_a G u0 5, bw_r q1 u1, bw_a G u1 100, bw_r q2 u2, bw_a G u2 100]) rfl rfl rfl ?_
  refine bn_putF (pc := 39) C hin ff_X1_23 rfl rfl (Nat.le_of_ble_eq_true rfl) dX1_init_39 ?_
  refine bn_weq 6 208 ([(h0, .inr (1, [.ref q0, .ref q1, .ref q2, .null, .null, .int 0])), bw_r q0 u0, bw_a G u0 5, bw_r q1 u1, bw_a G u1 100, bw_r q2 u2, bw_a G u2 100]) rfl rfl rfl ?_
  refine bn_aload_n (pc := 42) C dX1_init_42 rfl 0 rfl ?_
  refine bn_new (pc := 43) (fs := [.null]) C hA (ci := 4) rfl am_hin4 tyX4_ok bf_cl_X1_9 bf_ins4 bf_ini4 (fun j hj => by rcases (show j = 0 by omega) with rfl; rfl) ⟨Nat.le_of_ble_eq_true rfl, Nat.le_of_ble_eq_true rfl⟩ dX1_init_43 (fun q3 => ?_)
  refine bn_dup (pc := 46) C dX1_init_46 ?_
  refine bn_bipush (pc := 47) C dX1_init_47 rfl ?_
  refine bn_call (pc := 49) (As := [.int (Int32.ofInt ((100 : Nat) : Int))]) (rest := [.ref q3, .ref h0]) ([(h0, .inr (1, [.ref q0, .ref q1, .ref q2, .null, .null, .int 0])), bw_r q0 u0, bw_a G u0 5, bw_r q1 u1, bw_a G u1 100, bw_r q2 u2, bw_a G u2 100]) C hA (bc_X4 l G q3 100 (Nat.le_of_ble_eq_true rfl)) ym_X4_init rfl im_X4_init bf_si_X1_11 ⟨Nat.le_of_ble_eq_true rfl, Nat.le_of_ble_eq_true rfl⟩ rfl (Nat.le_of_ble_eq_true rfl) ⟨Nat.le_of_ble_eq_true rfl, Nat.le_of_ble_eq_true rfl⟩ rfl rfl dX1_init_49 (fun u3 => ?_)
  refine bn_weq 8 309 ([(h0, .inr (1, [.ref q0, .ref q1, .ref q2, .null, .null, .int 0])), bw_r q0 u0, bw_a G u0 5, bw_r q1 u1, bw_a G u1 100, bw_r q2 u2, bw_a G u2 100, bw_r q3 u3, bw_a G u3 100]) rfl rfl rfl ?_
  refine bn_putF (pc := 52) C hin ff_X1_26 rfl rfl (Nat.le_of_ble_eq_true rfl) dX1_init_52 ?_
  refine bn_weq 8 309 ([(h0, .inr (1, [.ref q0, .ref q1, .ref q2, .ref q3, .null, .int 0])), bw_r q0 u0, bw_a G u0 5, bw_r q1 u1, bw_a G u1 100, bw_r q2 u2, bw_a G u2 100, bw_r q3 u3, bw_a G u3 100]) rfl rfl rfl ?_
  refine bn_aload_n (pc := 55) C dX1_init_55 rfl 0 rfl ?_
  refine bn_iconst (pc := 56) C dX1_init_56 ?_
  refine bn_putI (pc := 57) C fq_X1_29 (Nat.le_of_ble_eq_true rfl) dX1_init_57 ?_
  refine bn_weq 8 309 ([(h0, .inr (1, [.ref q0, .ref q1, .ref q2, .ref q3, .null, .int (Int32.ofInt 0)])), bw_r q0 u0, bw_a G u0 5, bw_r q1 u1, bw_a G u1 100, bw_r q2 u2, bw_a G u2 100, bw_r q3 u3, bw_a G u3 100]) rfl rfl rfl ?_
  refine bn_aload_n (pc := 60) C dX1_init_60 rfl 0 rfl ?_
  refine bn_aload_n (pc := 61) C dX1_init_61 rfl 1 rfl ?_
  refine bn_putF (pc := 62) C hin ff_X1_33 rfl rfl (Nat.le_of_ble_eq_true rfl) dX1_init_62 ?_
  refine bn_weq 8 309 ([(h0, .inr (1, [.ref q0, .ref q1, .ref q2, .ref q3, .ref a1, .int (Int32.ofInt 0)])), bw_r q0 u0, bw_a G u0 5, bw_r q1 u1, bw_a G u1 100, bw_r q2 u2, bw_a G u2 100, bw_r q3 u3, bw_a G u3 100]) rfl rfl rfl ?_
  exact bn_vret (fun i => ([(q0, u0), (q1, u1), (q2, u2), (q3, u3)] : List (Nat × Nat)).getD i (0, 0)) C hr hlocks rfl dX1_init_65
set_option maxRecDepth 100000 in
theorem bf_oi_X5 : Cond.methodLink RX5 3 objectInit ∈ am_T := am_mem 251 (by decide +kernel) (by decide +kernel)
set_option maxRecDepth 100000 in
theorem bf_cl_X5_9 : Cond.classLink RX5 9 RX4 ∈ am_T := am_mem 252 (by decide +kernel) (by decide +kernel)
set_option maxRecDepth 100000 in
theorem bf_si_X5_11 : Cond.methodLink RX5 11 yX4_init ∈ am_T := am_mem 253 (by decide +kernel) (by decide +kernel)
set_option maxRecDepth 100000 in
theorem ff_X5_14 : am_fldF RX5 5 14 4 (.object "JobLoop$Row") := ⟨TX5, 14, tyX5, rfl, am_hin5, by decide, rfl, am_mem 258 (by decide +kernel) (by decide +kernel), tyX5_ok, nmX5, rfl, rfl⟩
set_option maxRecDepth 100000 in
theorem ff_X5_20 : am_fldF RX5 5 20 5 (.object "JobLoop$Row") := ⟨TX5, 14, tyX5, rfl, am_hin5, by decide, rfl, am_mem 259 (by decide +kernel) (by decide +kernel), tyX5_ok, nmX5, rfl, rfl⟩
set_option maxRecDepth 100000 in
theorem ff_X5_23 : am_fldF RX5 5 23 6 (.object "JobLoop$Row") := ⟨TX5, 14, tyX5, rfl, am_hin5, by decide, rfl, am_mem 260 (by decide +kernel) (by decide +kernel), tyX5_ok, nmX5, rfl, rfl⟩
set_option maxRecDepth 100000 in
theorem ff_X5_26 : am_fldF RX5 5 26 7 (.object "JobLoop$Row") := ⟨TX5, 14, tyX5, rfl, am_hin5, by decide, rfl, am_mem 261 (by decide +kernel) (by decide +kernel), tyX5_ok, nmX5, rfl, rfl⟩
set_option maxRecDepth 100000 in
theorem ff_X5_29 : am_fldF RX5 5 29 8 (.object "JobLoop$Row") := ⟨TX5, 14, tyX5, rfl, am_hin5, by decide, rfl, am_mem 262 (by decide +kernel) (by decide +kernel), tyX5_ok, nmX5, rfl, rfl⟩
set_option maxRecDepth 100000 in
theorem ff_X5_32 : am_fldF RX5 5 32 9 (.object "JobLoop$Row") := ⟨TX5, 14, tyX5, rfl, am_hin5, by decide, rfl, am_mem 263 (by decide +kernel) (by decide +kernel), tyX5_ok, nmX5, rfl, rfl⟩
set_option maxRecDepth 100000 in
theorem ff_X5_35 : am_fldF RX5 5 35 10 (.object "JobLoop$Row") := ⟨TX5, 14, tyX5, rfl, am_hin5, by decide, rfl, am_mem 264 (by decide +kernel) (by decide +kernel), tyX5_ok, nmX5, rfl, rfl⟩
set_option maxRecDepth 100000 in
theorem fq_X5_38 : am_fldP RX5 5 38 11 .int := ⟨TX5, 14, tyX5, rfl, am_hin5, by decide, rfl, am_mem 265 (by decide +kernel) (by decide +kernel), tyX5_ok, nmX5, rfl, rfl⟩
set_option maxRecDepth 100000 in
theorem fq_X5_42 : am_fldP RX5 5 42 12 .int := ⟨TX5, 14, tyX5, rfl, am_hin5, by decide, rfl, am_mem 266 (by decide +kernel) (by decide +kernel), tyX5_ok, nmX5, rfl, rfl⟩
set_option maxRecDepth 100000 in
theorem fq_X5_45 : am_fldP RX5 5 45 13 .int := ⟨TX5, 14, tyX5, rfl, am_hin5, by decide, rfl, am_mem 267 (by decide +kernel) (by decide +kernel), tyX5_ok, nmX5, rfl, rfl⟩
set_option maxRecDepth 100000 in
theorem ff_X5_48 : am_fldF RX5 5 48 0 (.object "JobLoop$Functions") := ⟨TX5, 14, tyX5, rfl, am_hin5, by decide, rfl, am_mem 254 (by decide +kernel) (by decide +kernel), tyX5_ok, nmX5, rfl, rfl⟩
set_option maxRecDepth 100000 in
theorem ff_X5_52 : am_fldF RX5 5 52 1 (.object "JobLoop$Promises") := ⟨TX5, 14, tyX5, rfl, am_hin5, by decide, rfl, am_mem 255 (by decide +kernel) (by decide +kernel), tyX5_ok, nmX5, rfl, rfl⟩
set_option maxRecDepth 100000 in
theorem ff_X5_56 : am_fldF RX5 5 56 2 (.object "JobLoop$Tasks") := ⟨TX5, 14, tyX5, rfl, am_hin5, by decide, rfl, am_mem 256 (by decide +kernel) (by decide +kernel), tyX5_ok, nmX5, rfl, rfl⟩
set_option maxRecDepth 100000 in
theorem ff_X5_60 : am_fldF RX5 5 60 3 (.object "JobLoop$Notes") := ⟨TX5, 14, tyX5, rfl, am_hin5, by decide, rfl, am_mem 257 (by decide +kernel) (by decide +kernel), tyX5_ok, nmX5, rfl, rfl⟩
def bw_X5 (G : am_G) (h0 a1 a2 a3 a4 : Nat) (u : Nat → Nat × Nat) : va_W := [(h0, .inr (5, [.ref a1, .ref a2, .ref a3, .ref a4, .ref (u 0).1, .ref (u 1).1, .ref (u 2).1, .ref (u 3).1, .ref (u 4).1, .ref (u 5).1, .ref (u 6).1, .int (Int32.ofInt (-1)), .int (Int32.ofInt (-1)), .int (Int32.ofInt 0)])), bw_r (u 0).1 (u 0).2, bw_a G (u 0).2 101, bw_r (u 1).1 (u 1).2, bw_a G (u 1).2 101, bw_r (u 2).1 (u 2).2, bw_a G (u 2).2 101, bw_r (u 3).1 (u 3).2, bw_a G (u 3).2 101, bw_r (u 4).1 (u 4).2, bw_a G (u 4).2 100, bw_r (u 5).1 (u 5).2, bw_a G (u 5).2 100, bw_r (u 6).1 (u 6).2, bw_a G (u 6).2 100]
set_option maxRecDepth 100000 in
theorem ym_X5_init : am_y yX5_init cX5_init 5 none 4 := ⟨am_mem 250 (by decide +kernel) (by decide +kernel), am_mem 54 (by decide +kernel) (by decide +kernel), by decide +kernel, by decide +kernel, by decide +kernel, by decide +kernel⟩
set_option maxRecDepth 100000 in
theorem im_X5_init : Cond.instanceMethod yX5_init ∈ am_T := am_mem 249 (by decide +kernel) (by decide +kernel)
set_option maxRecDepth 100000 in
set_option maxHeartbeats 4000000 in
theorem bc_X5 (l : Launch) (G : am_G) (h0 a1 a2 a3 a4 : Nat) : bn_met l yX5_init cX5_init 5 2 40 14 711 G [.ref h0, .ref a1, .ref a2, .ref a3, .ref a4] [(h0, .inr (5, [.null, .null, .null, .null, .null, .null, .null, .null, .null, .null, .null, .int 0, .int 0, .int 0]))] (bw_X5 G h0 a1 a2 a3 a4) := by
  refine bn_enter (lv := [(0, .ref h0), (1, .ref a1), (2, .ref a2), (3, .ref a3), (4, .ref a4)]) ym_X5_init rfl (Nat.le_of_ble_eq_true rfl) rfl (fun p e s m args below meth c C hr hlocks hin hA => ?_)
  refine bn_aload_n (pc := 0) C dX5_init_0 rfl 0 rfl ?_
  refine bn_oinit (pc := 1) C bf_oi_X5 bf_im bf_oc dX5_init_1 ⟨Nat.le_of_ble_eq_true rfl, Nat.le_of_ble_eq_true rfl⟩ ?_
  refine bn_aload_n (pc := 4) C dX5_init_4 rfl 0 rfl ?_
  refine bn_new (pc := 5) (fs := [.null]) C hA (ci := 4) rfl am_hin4 tyX4_ok bf_cl_X5_9 bf_ins4 bf_ini4 (fun j hj => by rcases (show j = 0 by omega) with rfl; rfl) ⟨Nat.le_of_ble_eq_true rfl, Nat.le_of_ble_eq_true rfl⟩ dX5_init_5 (fun q0 => ?_)
  refine bn_dup (pc := 8) C dX5_init_8 ?_
  refine bn_bipush (pc := 9) C dX5_init_9 rfl ?_
  refine bn_call (pc := 11) (As := [.int (Int32.ofInt ((101 : Nat) : Int))]) (rest := [.ref q0, .ref h0]) ([(h0, .inr (5, [.null, .null, .null, .null, .null, .null, .null, .null, .null, .null, .null, .int 0, .int 0, .int 0]))]) C hA (bc_X4 l G q0 101 (Nat.le_of_ble_eq_true rfl)) ym_X4_init rfl im_X4_init bf_si_X5_11 ⟨Nat.le_of_ble_eq_true rfl, Nat.le_of_ble_eq_true rfl⟩ rfl (Nat.le_of_ble_eq_true rfl) ⟨Nat.le_of_ble_eq_true rfl, Nat.le_of_ble_eq_true rfl⟩ rfl rfl dX5_init_11 (fun u0 => ?_)
  refine bn_weq 2 102 ([(h0, .inr (5, [.null, .null, .null, .null, .null, .null, .null, .null, .null, .null, .null, .int 0, .int 0, .int 0])), bw_r q0 u0, bw_a G u0 101]) rfl rfl rfl ?_
  refine bn_putF (pc := 14) C hin ff_X5_14 rfl rfl (Nat.le_of_ble_eq_true rfl) dX5_init_14 ?_
  refine bn_weq 2 102 ([(h0, .inr (5, [.null, .null, .null, .null, .ref q0, .null, .null, .null, .null, .null, .null, .int 0, .int 0, .int 0])), bw_r q0 u0, bw_a G u0 101]) rfl rfl rfl ?_
  refine bn_aload_n (pc := 17) C dX5_init_17 rfl 0 rfl ?_
  refine bn_new (pc := 18) (fs := [.null]) C hA (ci := 4) rfl am_hin4 tyX4_ok bf_cl_X5_9 bf_ins4 bf_ini4 (fun j hj => by rcases (show j = 0 by omega) with rfl; rfl) ⟨Nat.le_of_ble_eq_true rfl, Nat.le_of_ble_eq_true rfl⟩ dX5_init_18 (fun q1 => ?_)
  refine bn_dup (pc := 21) C dX5_init_21 ?_
  refine bn_bipush (pc := 22) C dX5_init_22 rfl ?_
  refine bn_call (pc := 24) (As := [.int (Int32.ofInt ((101 : Nat) : Int))]) (rest := [.ref q1, .ref h0]) ([(h0, .inr (5, [.null, .null, .null, .null, .ref q0, .null, .null, .null, .null, .null, .null, .int 0, .int 0, .int 0])), bw_r q0 u0, bw_a G u0 101]) C hA (bc_X4 l G q1 101 (Nat.le_of_ble_eq_true rfl)) ym_X4_init rfl im_X4_init bf_si_X5_11 ⟨Nat.le_of_ble_eq_true rfl, Nat.le_of_ble_eq_true rfl⟩ rfl (Nat.le_of_ble_eq_true rfl) ⟨Nat.le_of_ble_eq_true rfl, Nat.le_of_ble_eq_true rfl⟩ rfl rfl dX5_init_24 (fun u1 => ?_)
  refine bn_weq 4 204 ([(h0, .inr (5, [.null, .null, .null, .null, .ref q0, .null, .null, .null, .null, .null, .null, .int 0, .int 0, .int 0])), bw_r q0 u0, bw_a G u0 101, bw_r q1 u1, bw_a G u1 101]) rfl rfl rfl ?_
  refine bn_putF (pc := 27) C hin ff_X5_20 rfl rfl (Nat.le_of_ble_eq_true rfl) dX5_init_27 ?_
  refine bn_weq 4 204 ([(h0, .inr (5, [.null, .null, .null, .null, .ref q0, .ref q1, .null, .null, .null, .null, .null, .int 0, .int 0, .int 0])), bw_r q0 u0, bw_a G u0 101, bw_r q1 u1, bw_a G u1 101]) rfl rfl rfl ?_
  refine bn_aload_n (pc := 30) C dX5_init_30 rfl 0 rfl ?_
  refine bn_new (pc := 31) (fs := [.null]) C hA (ci := 4) rfl am_hin4 tyX4_ok bf_cl_X5_9 bf_ins4 bf_ini4 (fun j hj => by rcases (show j = 0 by omega) with rfl; rfl) ⟨Nat.le_of_ble_eq_true rfl, Nat.le_of_ble_eq_true rfl⟩ dX5_init_31 (fun q2 => ?_)
  refine bn_dup (pc := 34) C dX5_init_34 ?_
  refine bn_bipush (pc := 35) C dX5_init_35 rfl ?_
  refine bn_call (pc := 37) (As := [.int (Int32.ofInt ((101 : Nat) : Int))]) (rest := [.ref q2, .ref h0]) ([(h0, .inr (5, [.null, .null, .null, .null, .ref q0, .ref q1, .null, .null, .null, .null, .null, .int 0, .int 0, .int 0])), bw_r q0 u0, bw_a G u0 101, bw_r q1 u1, bw_a G u1 101]) C hA (bc_X4 l G q2 101 (Nat.le_of_ble_eq_true rfl)) ym_X4_init rfl im_X4_init bf_si_X5_11 ⟨Nat.le_of_ble_eq_true rfl, Nat.le_of_ble_eq_true rfl⟩ rfl (Nat.le_of_ble_eq_true rfl) ⟨Nat.le_of_ble_eq_true rfl, Nat.le_of_ble_eq_true rfl⟩ rfl rfl dX5_init_37 (fun u2 => ?_)
  refine bn_weq 6 306 ([(h0, .inr (5, [.null, .null, .null, .null, .ref q0, .ref q1, .null, .null, .null, .null, .null, .int 0, .int 0, .int 0])), bw_r q0 u0, bw_a G u0 101, bw_r q1 u1, bw_a G u1 101, bw_r q2 u2, bw_a G u2 101]) rfl rfl rfl ?_
  refine bn_putF (pc := 40) C hin ff_X5_23 rfl rfl (Nat.le_of_ble_eq_true rfl) dX5_init_40 ?_
  refine bn_weq 6 306 ([(h0, .inr (5, [.null, .null, .null, .null, .ref q0, .ref q1, .ref q2, .null, .null, .null, .null, .int 0, .int 0, .int 0])), bw_r q0 u0, bw_a G u0 101, bw_r q1 u1, bw_a G u1 101, bw_r q2 u2, bw_a G u2 101]) rfl rfl rfl ?_
  refine bn_aload_n (pc := 43) C dX5_init_43 rfl 0 rfl ?_
  refine bn_new (pc := 44) (fs := [.null]) C hA (ci := 4) rfl am_hin4 tyX4_ok bf_cl_X5_9 bf_ins4 bf_ini4 (fun j hj => by rcases (show j = 0 by omega) with rfl; rfl) ⟨Nat.le_of_ble_eq_true rfl, Nat.le_of_ble_eq_true rfl⟩ dX5_init_44 (fun q3 => ?_)
  refine bn_dup (pc := 47) C dX5_init_47 ?_
  refine bn_bipush (pc := 48) C dX5_init_48 rfl ?_
  refine bn_call (pc := 50) (As := [.int (Int32.ofInt ((101 : Nat) : Int))]) (rest := [.ref q3, .ref h0]) ([(h0, .inr (5, [.null, .null, .null, .null, .ref q0, .ref q1, .ref q2, .null, .null, .null, .null, .int 0, .int 0, .int 0])), bw_r q0 u0, bw_a G u0 101, bw_r q1 u1, bw_a G u1 101, bw_r q2 u2, bw_a G u2 101]) C hA (bc_X4 l G q3 101 (Nat.le_of_ble_eq_true rfl)) ym_X4_init rfl im_X4_init bf_si_X5_11 ⟨Nat.le_of_ble_eq_true rfl, Nat.le_of_ble_eq_true rfl⟩ rfl (Nat.le_of_ble_eq_true rfl) ⟨Nat.le_of_ble_eq_true rfl, Nat.le_of_ble_eq_true rfl⟩ rfl rfl dX5_init_50 (fun u3 => ?_)
  refine bn_weq 8 408 ([(h0, .inr (5, [.null, .null, .null, .null, .ref q0, .ref q1, .ref q2, .null, .null, .null, .null, .int 0, .int 0, .int 0])), bw_r q0 u0, bw_a G u0 101, bw_r q1 u1, bw_a G u1 101, bw_r q2 u2, bw_a G u2 101, bw_r q3 u3, bw_a G u3 101]) rfl rfl rfl ?_
  refine bn_putF (pc := 53) C hin ff_X5_26 rfl rfl (Nat.le_of_ble_eq_true rfl) dX5_init_53 ?_
  refine bn_weq 8 408 ([(h0, .inr (5, [.null, .null, .null, .null, .ref q0, .ref q1, .ref q2, .ref q3, .null, .null, .null, .int 0, .int 0, .int 0])), bw_r q0 u0, bw_a G u0 101, bw_r q1 u1, bw_a G u1 101, bw_r q2 u2, bw_a G u2 101, bw_r q3 u3, bw_a G u3 101]) rfl rfl rfl ?_
  refine bn_aload_n (pc := 56) C dX5_init_56 rfl 0 rfl ?_
  refine bn_new (pc := 57) (fs := [.null]) C hA (ci := 4) rfl am_hin4 tyX4_ok bf_cl_X5_9 bf_ins4 bf_ini4 (fun j hj => by rcases (show j = 0 by omega) with rfl; rfl) ⟨Nat.le_of_ble_eq_true rfl, Nat.le_of_ble_eq_true rfl⟩ dX5_init_57 (fun q4 => ?_)
  refine bn_dup (pc := 60) C dX5_init_60 ?_
  refine bn_bipush (pc := 61) C dX5_init_61 rfl ?_
  refine bn_call (pc := 63) (As := [.int (Int32.ofInt ((100 : Nat) : Int))]) (rest := [.ref q4, .ref h0]) ([(h0, .inr (5, [.null, .null, .null, .null, .ref q0, .ref q1, .ref q2, .ref q3, .null, .null, .null, .int 0, .int 0, .int 0])), bw_r q0 u0, bw_a G u0 101, bw_r q1 u1, bw_a G u1 101, bw_r q2 u2, bw_a G u2 101, bw_r q3 u3, bw_a G u3 101]) C hA (bc_X4 l G q4 100 (Nat.le_of_ble_eq_true rfl)) ym_X4_init rfl im_X4_init bf_si_X5_11 ⟨Nat.le_of_ble_eq_true rfl, Nat.le_of_ble_eq_true rfl⟩ rfl (Nat.le_of_ble_eq_true rfl) ⟨Nat.le_of_ble_eq_true rfl, Nat.le_of_ble_eq_true rfl⟩ rfl rfl dX5_init_63 (fun u4 => ?_)
  refine bn_weq 10 509 ([(h0, .inr (5, [.null, .null, .null, .null, .ref q0, .ref q1, .ref q2, .ref q3, .null, .null, .null, .int 0, .int 0, .int 0])), bw_r q0 u0, bw_a G u0 101, bw_r q1 u1, bw_a G u1 101, bw_r q2 u2, bw_a G u2 101, bw_r q3 u3, bw_a G u3 101, bw_r q4 u4, bw_a G u4 100]) rfl rfl rfl ?_
  refine bn_putF (pc := 66) C hin ff_X5_29 rfl rfl (Nat.le_of_ble_eq_true rfl) dX5_init_66 ?_
  refine bn_weq 10 509 ([(h0, .inr (5, [.null, .null, .null, .null, .ref q0, .ref q1, .ref q2, .ref q3, .ref q4, .null, .null, .int 0, .int 0, .int 0])), bw_r q0 u0, bw_a G u0 101, bw_r q1 u1, bw_a G u1 101, bw_r q2 u2, bw_a G u2 101, bw_r q3 u3, bw_a G u3 101, bw_r q4 u4, bw_a G u4 100]) rfl rfl rfl ?_
  refine bn_aload_n (pc := 69) C dX5_init_69 rfl 0 rfl ?_
  refine bn_new (pc := 70) (fs := [.null]) C hA (ci := 4) rfl am_hin4 tyX4_ok bf_cl_X5_9 bf_ins4 bf_ini4 (fun j hj => by rcases (show j = 0 by omega) with rfl; rfl) ⟨Nat.le_of_ble_eq_true rfl, Nat.le_of_ble_eq_true rfl⟩ dX5_init_70 (fun q5 => ?_)
  refine bn_dup (pc := 73) C dX5_init_73 ?_
  refine bn_bipush (pc := 74) C dX5_init_74 rfl ?_
  refine bn_call (pc := 76) (As := [.int (Int32.ofInt ((100 : Nat) : Int))]) (rest := [.ref q5, .ref h0]) ([(h0, .inr (5, [.null, .null, .null, .null, .ref q0, .ref q1, .ref q2, .ref q3, .ref q4, .null, .null, .int 0, .int 0, .int 0])), bw_r q0 u0, bw_a G u0 101, bw_r q1 u1, bw_a G u1 101, bw_r q2 u2, bw_a G u2 101, bw_r q3 u3, bw_a G u3 101, bw_r q4 u4, bw_a G u4 100]) C hA (bc_X4 l G q5 100 (Nat.le_of_ble_eq_true rfl)) ym_X4_init rfl im_X4_init bf_si_X5_11 ⟨Nat.le_of_ble_eq_true rfl, Nat.le_of_ble_eq_true rfl⟩ rfl (Nat.le_of_ble_eq_true rfl) ⟨Nat.le_of_ble_eq_true rfl, Nat.le_of_ble_eq_true rfl⟩ rfl rfl dX5_init_76 (fun u5 => ?_)
  refine bn_weq 12 610 ([(h0, .inr (5, [.null, .null, .null, .null, .ref q0, .ref q1, .ref q2, .ref q3, .ref q4, .null, .null, .int 0, .int 0, .int 0])), bw_r q0 u0, bw_a G u0 101, bw_r q1 u1, bw_a G u1 101, bw_r q2 u2, bw_a G u2 101, bw_r q3 u3, bw_a G u3 101, bw_r q4 u4, bw_a G u4 100, bw_r q5 u5, bw_a G u5 100]) rfl rfl rfl ?_
  refine bn_putF (pc := 79) C hin ff_X5_32 rfl rfl (Nat.le_of_ble_eq_true rfl) dX5_init_79 ?_
  refine bn_weq 12 610 ([(h0, .inr (5, [.null, .null, .null, .null, .ref q0, .ref q1, .ref q2, .ref q3, .ref q4, .ref q5, .null, .int 0, .int 0, .int 0])), bw_r q0 u0, bw_a G u0 101, bw_r q1 u1, bw_a G u1 101, bw_r q2 u2, bw_a G u2 101, bw_r q3 u3, bw_a G u3 101, bw_r q4 u4, bw_a G u4 100, bw_r q5 u5, bw_a G u5 100]) rfl rfl rfl ?_
  refine bn_aload_n (pc := 82) C dX5_init_82 rfl 0 rfl ?_
  refine bn_new (pc := 83) (fs := [.null]) C hA (ci := 4) rfl am_hin4 tyX4_ok bf_cl_X5_9 bf_ins4 bf_ini4 (fun j hj => by rcases (show j = 0 by omega) with rfl; rfl) ⟨Nat.le_of_ble_eq_true rfl, Nat.le_of_ble_eq_true rfl⟩ dX5_init_83 (fun q6 => ?_)
  refine bn_dup (pc := 86) C dX5_init_86 ?_
  refine bn_bipush (pc := 87) C dX5_init_87 rfl ?_
  refine bn_call (pc := 89) (As := [.int (Int32.ofInt ((100 : Nat) : Int))]) (rest := [.ref q6, .ref h0]) ([(h0, .inr (5, [.null, .null, .null, .null, .ref q0, .ref q1, .ref q2, .ref q3, .ref q4, .ref q5, .null, .int 0, .int 0, .int 0])), bw_r q0 u0, bw_a G u0 101, bw_r q1 u1, bw_a G u1 101, bw_r q2 u2, bw_a G u2 101, bw_r q3 u3, bw_a G u3 101, bw_r q4 u4, bw_a G u4 100, bw_r q5 u5, bw_a G u5 100]) C hA (bc_X4 l G q6 100 (Nat.le_of_ble_eq_true rfl)) ym_X4_init rfl im_X4_init bf_si_X5_11 ⟨Nat.le_of_ble_eq_true rfl, Nat.le_of_ble_eq_true rfl⟩ rfl (Nat.le_of_ble_eq_true rfl) ⟨Nat.le_of_ble_eq_true rfl, Nat.le_of_ble_eq_true rfl⟩ rfl rfl dX5_init_89 (fun u6 => ?_)
  refine bn_weq 14 711 ([(h0, .inr (5, [.null, .null, .null, .null, .ref q0, .ref q1, .ref q2, .ref q3, .ref q4, .ref q5, .null, .int 0, .int 0, .int 0])), bw_r q0 u0, bw_a G u0 101, bw_r q1 u1, bw_a G u1 101, bw_r q2 u2, bw_a G u2 101, bw_r q3 u3, bw_a G u3 101, bw_r q4 u4, bw_a G u4 100, bw_r q5 u5, bw_a G u5 100, bw_r q6 u6, bw_a G u6 100]) rfl rfl rfl ?_
  refine bn_putF (pc := 92) C hin ff_X5_35 rfl rfl (Nat.le_of_ble_eq_true rfl) dX5_init_92 ?_
  refine bn_weq 14 711 ([(h0, .inr (5, [.null, .null, .null, .null, .ref q0, .ref q1, .ref q2, .ref q3, .ref q4, .ref q5, .ref q6, .int 0, .int 0, .int 0])), bw_r q0 u0, bw_a G u0 101, bw_r q1 u1, bw_a G u1 101, bw_r q2 u2, bw_a G u2 101, bw_r q3 u3, bw_a G u3 101, bw_r q4 u4, bw_a G u4 100, bw_r q5 u5, bw_a G u5 100, bw_r q6 u6, bw_a G u6 100]) rfl rfl rfl ?_
  refine bn_aload_n (pc := 95) C dX5_init_95 rfl 0 rfl ?_
  refine bn_iconst (pc := 96) C dX5_init_96 ?_
  refine bn_putI (pc := 97) C fq_X5_38 (Nat.le_of_ble_eq_true rfl) dX5_init_97 ?_
  refine bn_weq 14 711 ([(h0, .inr (5, [.null, .null, .null, .null, .ref q0, .ref q1, .ref q2, .ref q3, .ref q4, .ref q5, .ref q6, .int (Int32.ofInt (-1)), .int 0, .int 0])), bw_r q0 u0, bw_a G u0 101, bw_r q1 u1, bw_a G u1 101, bw_r q2 u2, bw_a G u2 101, bw_r q3 u3, bw_a G u3 101, bw_r q4 u4, bw_a G u4 100, bw_r q5 u5, bw_a G u5 100, bw_r q6 u6, bw_a G u6 100]) rfl rfl rfl ?_
  refine bn_aload_n (pc := 100) C dX5_init_100 rfl 0 rfl ?_
  refine bn_iconst (pc := 101) C dX5_init_101 ?_
  refine bn_putI (pc := 102) C fq_X5_42 (Nat.le_of_ble_eq_true rfl) dX5_init_102 ?_
  refine bn_weq 14 711 ([(h0, .inr (5, [.null, .null, .null, .null, .ref q0, .ref q1, .ref q2, .ref q3, .ref q4, .ref q5, .ref q6, .int (Int32.ofInt (-1)), .int (Int32.ofInt (-1)), .int 0])), bw_r q0 u0, bw_a G u0 101, bw_r q1 u1, bw_a G u1 101, bw_r q2 u2, bw_a G u2 101, bw_r q3 u3, bw_a G u3 101, bw_r q4 u4, bw_a G u4 100, bw_r q5 u5, bw_a G u5 100, bw_r q6 u6, bw_a G u6 100]) rfl rfl rfl ?_
  refine bn_aload_n (pc := 105) C dX5_init_105 rfl 0 rfl ?_
  refine bn_iconst (pc := 106) C dX5_init_106 ?_
  refine bn_putI (pc := 107) C fq_X5_45 (Nat.le_of_ble_eq_true rfl) dX5_init_107 ?_
  refine bn_weq 14 711 ([(h0, .inr (5, [.null, .null, .null, .null, .ref q0, .ref q1, .ref q2, .ref q3, .ref q4, .ref q5, .ref q6, .int (Int32.ofInt (-1)), .int (Int32.ofInt (-1)), .int (Int32.ofInt 0)])), bw_r q0 u0, bw_a G u0 101, bw_r q1 u1, bw_a G u1 101, bw_r q2 u2, bw_a G u2 101, bw_r q3 u3, bw_a G u3 101, bw_r q4 u4, bw_a G u4 100, bw_r q5 u5, bw_a G u5 100, bw_r q6 u6, bw_a G u6 100]) rfl rfl rfl ?_
  refine bn_aload_n (pc := 110) C dX5_init_110 rfl 0 rfl ?_
  refine bn_aload_n (pc := 111) C dX5_init_111 rfl 1 rfl ?_
  refine bn_putF (pc := 112) C hin ff_X5_48 rfl rfl (Nat.le_of_ble_eq_true rfl) dX5_init_112 ?_
  refine bn_weq 14 711 ([(h0, .inr (5, [.ref a1, .null, .null, .null, .ref q0, .ref q1, .ref q2, .ref q3, .ref q4, .ref q5, .ref q6, .int (Int32.ofInt (-1)), .int (Int32.ofInt (-1)), .int (Int32.ofInt 0)])), bw_r q0 u0, bw_a G u0 101, bw_r q1 u1, bw_a G u1 101, bw_r q2 u2, bw_a G u2 101, bw_r q3 u3, bw_a G u3 101, bw_r q4 u4, bw_a G u4 100, bw_r q5 u5, bw_a G u5 100, bw_r q6 u6, bw_a G u6 100]) rfl rfl rfl ?_
  refine bn_aload_n (pc := 115) C dX5_init_115 rfl 0 rfl ?_
  refine bn_aload_n (pc := 116) C dX5_init_116 rfl 2 rfl ?_
  refine bn_putF (pc := 117) C hin ff_X5_52 rfl rfl (Nat.le_of_ble_eq_true rfl) dX5_init_117 ?_
  refine bn_weq 14 711 ([(h0, .inr (5, [.ref a1, .ref a2, .null, .null, .ref q0, .ref q1, .ref q2, .ref q3, .ref q4, .ref q5, .ref q6, .int (Int32.ofInt (-1)), .int (Int32.ofInt (-1)), .int (Int32.ofInt 0)])), bw_r q0 u0, bw_a G u0 101, bw_r q1 u1, bw_a G u1 101, bw_r q2 u2, bw_a G u2 101, bw_r q3 u3, bw_a G u3 101, bw_r q4 u4, bw_a G u4 100, bw_r q5 u5, bw_a G u5 100, bw_r q6 u6, bw_a G u6 100]) rfl rfl rfl ?_
  refine bn_aload_n (pc := 120) C dX5_init_120 rfl 0 rfl ?_
  refine bn_aload_n (pc := 121) C dX5_init_121 rfl 3 rfl ?_
  refine bn_putF (pc := 122) C hin ff_X5_56 rfl rfl (Nat.le_of_ble_eq_true rfl) dX5_init_122 ?_
  refine bn_weq 14 711 ([(h0, .inr (5, [.ref a1, .ref a2, .ref a3, .null, .ref q0, .ref q1, .ref q2, .ref q3, .ref q4, .ref q5, .ref q6, .int (Int32.ofInt (-1)), .int (Int32.ofInt (-1)), .int (Int32.ofInt 0)])), bw_r q0 u0, bw_a G u0 101, bw_r q1 u1, bw_a G u1 101, bw_r q2 u2, bw_a G u2 101, bw_r q3 u3, bw_a G u3 101, bw_r q4 u4, bw_a G u4 100, bw_r q5 u5, bw_a G u5 100, bw_r q6 u6, bw_a G u6 100]) rfl rfl rfl ?_
  refine bn_aload_n (pc := 125) C dX5_init_125 rfl 0 rfl ?_
  refine bn_aload (pc := 126) C dX5_init_126 4 rfl ?_
  refine bn_putF (pc := 128) C hin ff_X5_60 rfl rfl (Nat.le_of_ble_eq_true rfl) dX5_init_128 ?_
  refine bn_weq 14 711 ([(h0, .inr (5, [.ref a1, .ref a2, .ref a3, .ref a4, .ref q0, .ref q1, .ref q2, .ref q3, .ref q4, .ref q5, .ref q6, .int (Int32.ofInt (-1)), .int (Int32.ofInt (-1)), .int (Int32.ofInt 0)])), bw_r q0 u0, bw_a G u0 101, bw_r q1 u1, bw_a G u1 101, bw_r q2 u2, bw_a G u2 101, bw_r q3 u3, bw_a G u3 101, bw_r q4 u4, bw_a G u4 100, bw_r q5 u5, bw_a G u5 100, bw_r q6 u6, bw_a G u6 100]) rfl rfl rfl ?_
  exact bn_vret (fun i => ([(q0, u0), (q1, u1), (q2, u2), (q3, u3), (q4, u4), (q5, u5), (q6, u6)] : List (Nat × Nat)).getD i (0, 0)) C hr hlocks rfl dX5_init_131
