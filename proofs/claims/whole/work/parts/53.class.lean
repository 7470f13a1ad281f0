/-! JobLoop's constructor; printed by gen53.py -/
set_option maxRecDepth 100000 in
theorem bf_ini9 : Cond.initialized RX9 ∈ am_T := am_mem 46 (by decide +kernel) (by decide +kernel)
set_option maxRecDepth 100000 in
theorem bf_oi_X9 : Cond.methodLink RX9 3 objectInit ∈ am_T := am_mem 63 (by decide +kernel) (by decide +kernel)
set_option maxRecDepth 100000 in
theorem bf_cl_X9_9 : Cond.classLink RX9 9 RX3 ∈ am_T := am_mem 66 (by decide +kernel) (by decide +kernel)
set_option maxRecDepth 100000 in
theorem bf_ins3 : Cond.instantiable RX3 15 ∈ am_T := am_mem 67 (by decide +kernel) (by decide +kernel)
set_option maxRecDepth 100000 in
theorem bf_ini3 : Cond.initialized RX3 ∈ am_T := am_mem 47 (by decide +kernel) (by decide +kernel)
set_option maxRecDepth 100000 in
theorem bf_si_X9_11 : ((RX9, 11, yX3_init, "JobLoop") : String × Nat × MethodName × String) ∈ am_nest := List.mem_of_getElem? (i := 0) (by decide +kernel)
set_option maxRecDepth 100000 in
theorem ff_X9_12 : am_fldF RX9 8 12 0 (.object "JobLoop$Promises") := ⟨TX9, 7, tyX9, rfl, am_hin9, by decide, rfl, am_mem 297 (by decide +kernel) (by decide +kernel), tyX9_ok, nmX9, rfl, rfl⟩
set_option maxRecDepth 100000 in
theorem bf_cl_X9_16 : Cond.classLink RX9 16 RX7 ∈ am_T := am_mem 129 (by decide +kernel) (by decide +kernel)
set_option maxRecDepth 100000 in
theorem bf_ins7 : Cond.instantiable RX7 3 ∈ am_T := am_mem 130 (by decide +kernel) (by decide +kernel)
set_option maxRecDepth 100000 in
theorem bf_ini7 : Cond.initialized RX7 ∈ am_T := am_mem 49 (by decide +kernel) (by decide +kernel)
set_option maxRecDepth 100000 in
theorem bf_si_X9_18 : Cond.methodLink RX9 18 yX7_init ∈ am_T := am_mem 131 (by decide +kernel) (by decide +kernel)
set_option maxRecDepth 100000 in
theorem ff_X9_19 : am_fldF RX9 8 19 1 (.object "JobLoop$Thenables") := ⟨TX9, 7, tyX9, rfl, am_hin9, by decide, rfl, am_mem 298 (by decide +kernel) (by decide +kernel), tyX9_ok, nmX9, rfl, rfl⟩
set_option maxRecDepth 100000 in
theorem bf_cl_X9_23 : Cond.classLink RX9 23 RX0 ∈ am_T := am_mem 156 (by decide +kernel) (by decide +kernel)
set_option maxRecDepth 100000 in
theorem bf_ins0 : Cond.instantiable RX0 3 ∈ am_T := am_mem 157 (by decide +kernel) (by decide +kernel)
set_option maxRecDepth 100000 in
theorem bf_ini0 : Cond.initialized RX0 ∈ am_T := am_mem 50 (by decide +kernel) (by decide +kernel)
set_option maxRecDepth 100000 in
theorem bf_si_X9_25 : ((RX9, 25, yX0_init, "JobLoop") : String × Nat × MethodName × String) ∈ am_nest := List.mem_of_getElem? (i := 1) (by decide +kernel)
set_option maxRecDepth 100000 in
theorem ff_X9_26 : am_fldF RX9 8 26 2 (.object "JobLoop$Functions") := ⟨TX9, 7, tyX9, rfl, am_hin9, by decide, rfl, am_mem 299 (by decide +kernel) (by decide +kernel), tyX9_ok, nmX9, rfl, rfl⟩
set_option maxRecDepth 100000 in
theorem bf_cl_X9_30 : Cond.classLink RX9 30 RX6 ∈ am_T := am_mem 174 (by decide +kernel) (by decide +kernel)
set_option maxRecDepth 100000 in
theorem bf_ins6 : Cond.instantiable RX6 5 ∈ am_T := am_mem 175 (by decide +kernel) (by decide +kernel)
set_option maxRecDepth 100000 in
theorem bf_ini6 : Cond.initialized RX6 ∈ am_T := am_mem 51 (by decide +kernel) (by decide +kernel)
set_option maxRecDepth 100000 in
theorem bf_si_X9_32 : ((RX9, 32, yX6_init, "JobLoop") : String × Nat × MethodName × String) ∈ am_nest := List.mem_of_getElem? (i := 2) (by decide +kernel)
set_option maxRecDepth 100000 in
theorem ff_X9_33 : am_fldF RX9 8 33 3 (.object "JobLoop$Tasks") := ⟨TX9, 7, tyX9, rfl, am_hin9, by decide, rfl, am_mem 300 (by decide +kernel) (by decide +kernel), tyX9_ok, nmX9, rfl, rfl⟩
set_option maxRecDepth 100000 in
theorem bf_cl_X9_37 : Cond.classLink RX9 37 RX2 ∈ am_T := am_mem 198 (by decide +kernel) (by decide +kernel)
set_option maxRecDepth 100000 in
theorem bf_ins2 : Cond.instantiable RX2 4 ∈ am_T := am_mem 199 (by decide +kernel) (by decide +kernel)
set_option maxRecDepth 100000 in
theorem bf_ini2 : Cond.initialized RX2 ∈ am_T := am_mem 52 (by decide +kernel) (by decide +kernel)
set_option maxRecDepth 100000 in
theorem bf_si_X9_39 : ((RX9, 39, yX2_init, "JobLoop") : String × Nat × MethodName × String) ∈ am_nest := List.mem_of_getElem? (i := 3) (by decide +kernel)
set_option maxRecDepth 100000 in
theorem ff_X9_40 : am_fldF RX9 8 40 4 (.object "JobLoop$Notes") := ⟨TX9, 7, tyX9, rfl, am_hin9, by decide, rfl, am_mem 301 (by decide +kernel) (by decide +kernel), tyX9_ok, nmX9, rfl, rfl⟩
set_option maxRecDepth 100000 in
theorem bf_cl_X9_44 : Cond.classLink RX9 44 RX1 ∈ am_T := am_mem 219 (by decide +kernel) (by decide +kernel)
set_option maxRecDepth 100000 in
theorem bf_ins1 : Cond.instantiable RX1 6 ∈ am_T := am_mem 220 (by decide +kernel) (by decide +kernel)
set_option maxRecDepth 100000 in
theorem bf_ini1 : Cond.initialized RX1 ∈ am_T := am_mem 53 (by decide +kernel) (by decide +kernel)
set_option maxRecDepth 100000 in
theorem bf_si_X9_46 : Cond.methodLink RX9 46 yX1_init ∈ am_T := am_mem 221 (by decide +kernel) (by decide +kernel)
set_option maxRecDepth 100000 in
theorem ff_X9_49 : am_fldF RX9 8 49 5 (.object "JobLoop$Groups") := ⟨TX9, 7, tyX9, rfl, am_hin9, by decide, rfl, am_mem 302 (by decide +kernel) (by decide +kernel), tyX9_ok, nmX9, rfl, rfl⟩
set_option maxRecDepth 100000 in
theorem bf_cl_X9_53 : Cond.classLink RX9 53 RX5 ∈ am_T := am_mem 246 (by decide +kernel) (by decide +kernel)
set_option maxRecDepth 100000 in
theorem bf_ins5 : Cond.instantiable RX5 14 ∈ am_T := am_mem 247 (by decide +kernel) (by decide +kernel)
set_option maxRecDepth 100000 in
theorem bf_ini5 : Cond.initialized RX5 ∈ am_T := am_mem 54 (by decide +kernel) (by decide +kernel)
set_option maxRecDepth 100000 in
theorem bf_si_X9_55 : Cond.methodLink RX9 55 yX5_init ∈ am_T := am_mem 248 (by decide +kernel) (by decide +kernel)
set_option maxRecDepth 100000 in
theorem ff_X9_58 : am_fldF RX9 8 58 6 (.object "JobLoop$Runner") := ⟨TX9, 7, tyX9, rfl, am_hin9, by decide, rfl, am_mem 303 (by decide +kernel) (by decide +kernel), tyX9_ok, nmX9, rfl, rfl⟩
set_option maxRecDepth 100000 in
theorem ym_X9_init : am_y yX9_init cX9_init 1 none 0 := ⟨am_mem 62 (by decide +kernel) (by decide +kernel), am_mem 46 (by decide +kernel) (by decide +kernel), by decide +kernel, by decide +kernel, by decide +kernel, by decide +kernel⟩
set_option maxRecDepth 100000 in
theorem im_X9_init : Cond.instanceMethod yX9_init ∈ am_T := am_mem 61 (by decide +kernel) (by decide +kernel)
/-- what the class is when it is made -/
def bS1 : am_S := (fun n => if n = 459 ∨ n = 460 then -1 else 0, fun a j => if a = 52 then (if j < 4 then 3 else 0) else 0)
def bw_go (G : am_G) (x : Nat → Nat) (S : am_S) : Nat → List am_K → va_W
  | _, [] => []
  | id, k :: ks => (x id, am_cell (x, G.2) S id k) :: bw_go G x S (id + 1) ks
theorem bw_go_at (G : am_G) (x : Nat → Nat) (S : am_S) : ∀ (l : List am_K) (id i : Nat), (bw_go G x S id l)[i]? = (l[i]?).map (fun k => (x (id + i), am_cell (x, G.2) S (id + i) k))
  | [], _, _ => rfl
  | k :: ks, id, 0 => rfl
  | k :: ks, id, i + 1 => by
    show (bw_go G x S (id + 1) ks)[i]? = (ks[i]?).map _
    rw [bw_go_at G x S ks (id + 1) i, show id + 1 + i = id + (i + 1) by omega]
def bw_cls (G : am_G) (x : Nat → Nat) : va_W := bw_go G x bS1 0 (am_sk.take 74)
set_option maxRecDepth 100000 in
set_option maxHeartbeats 4000000 in
theorem bw_permA (G : am_G) (h0 v0 v1 v2 v3 v4 v5 v6 : Nat) (u0 u1 u2 u3 u4 u5 u6 : Nat → Nat × Nat) : [0, 1, 28, 31, 38, 45, 50, 59, 2, 4, 6, 8, 10, 12, 14, 16, 18, 20, 22, 29, 24, 26, 32, 34, 36, 39, 41, 43, 46, 48, 51, 53, 55, 57, 60, 62, 64, 66, 68, 70, 72, 3, 5, 7, 9, 11, 13, 15, 17, 19, 21, 23, 30, 25, 27, 33, 35, 37, 40, 42, 44, 47, 49, 52, 54, 56, 58, 61, 63, 65, 67, 69, 71, 73].map (fun i => ((h0, .inr (8, [.ref v0, .ref v1, .ref v2, .ref v3, .ref v4, .ref v5, .ref v6])) :: (bw_X3 G v0 u0 ++ bw_X7 G v1 u1 ++ bw_X0 G v2 u2 ++ bw_X6 G v3 u3 ++ bw_X2 G v4 u4 ++ bw_X1 G v5 v0 u5 ++ bw_X5 G v6 v2 v0 v3 v4 u6) : va_W)[i]?) = ([some ((h0, .inr (8, [.ref v0, .ref v1, .ref v2, .ref v3, .ref v4, .ref v5, .ref v6]))), some ((v0, .inr (3, [.ref (u0 0).1, .ref (u0 1).1, .ref (u0 2).1, .ref (u0 3).1, .ref (u0 4).1, .ref (u0 5).1, .ref (u0 6).1, .ref (u0 7).1, .ref (u0 8).1, .ref (u0 9).1, .ref (u0 10).1, .int (Int32.ofInt 0), .int (Int32.ofInt 0), .int (Int32.ofInt 0), .int (Int32.ofInt 0)]))), some ((v1, .inr (7, [.ref (u1 0).1, .ref (u1 1).1, .ref (u1 2).1]))), some ((v2, .inr (0, [.ref (u2 0).1, .ref (u2 1).1, .ref (u2 2).1]))), some ((v3, .inr (6, [.ref (u3 0).1, .ref (u3 1).1, .ref (u3 2).1, .int (Int32.ofInt 0), .int (Int32.ofInt 0)]))), some ((v4, .inr (2, [.ref (u4 0).1, .ref (u4 1).1, .int (Int32.ofInt 0), .int (Int32.ofInt 0)]))), some ((v5, .inr (1, [.ref (u5 0).1, .ref (u5 1).1, .ref (u5 2).1, .ref (u5 3).1, .ref v0, .int (Int32.ofInt 0)]))), some ((v6, .inr (5, [.ref v2, .ref v0, .ref v3, .ref v4, .ref (u6 0).1, .ref (u6 1).1, .ref (u6 2).1, .ref (u6 3).1, .ref (u6 4).1, .ref (u6 5).1, .ref (u6 6).1, .int (Int32.ofInt (-1)), .int (Int32.ofInt (-1)), .int (Int32.ofInt 0)]))), some (bw_r (u0 0).1 (u0 0).2), some (bw_r (u0 1).1 (u0 1).2), some (bw_r (u0 2).1 (u0 2).2), some (bw_r (u0 3).1 (u0 3).2), some (bw_r (u0 4).1 (u0 4).2), some (bw_r (u0 5).1 (u0 5).2), some (bw_r (u0 6).1 (u0 6).2), some (bw_r (u0 7).1 (u0 7).2), some (bw_r (u0 8).1 (u0 8).2), some (bw_r (u0 9).1 (u0 9).2), some (bw_r (u0 10).1 (u0 10).2), some (bw_r (u1 0).1 (u1 0).2), some (bw_r (u1 1).1 (u1 1).2), some (bw_r (u1 2).1 (u1 2).2), some (bw_r (u2 0).1 (u2 0).2), some (bw_r (u2 1).1 (u2 1).2), some (bw_r (u2 2).1 (u2 2).2), some (bw_r (u3 0).1 (u3 0).2), some (bw_r (u3 1).1 (u3 1).2), some (bw_r (u3 2).1 (u3 2).2), some (bw_r (u4 0).1 (u4 0).2), some (bw_r (u4 1).1 (u4 1).2), some (bw_r (u5 0).1 (u5 0).2), some (bw_r (u5 1).1 (u5 1).2), some (bw_r (u5 2).1 (u5 2).2), some (bw_r (u5 3).1 (u5 3).2), some (bw_r (u6 0).1 (u6 0).2), some (bw_r (u6 1).1 (u6 1).2), some (bw_r (u6 2).1 (u6 2).2), some (bw_r (u6 3).1 (u6 3).2), some (bw_r (u6 4).1 (u6 4).2), some (bw_r (u6 5).1 (u6 5).2), some (bw_r (u6 6).1 (u6 6).2), some (bw_a G (u0 0).2 100), some (bw_a G (u0 1).2 100), some (bw_a G (u0 2).2 100), some (bw_a G (u0 3).2 100), some (bw_a G (u0 4).2 100), some (bw_a G (u0 5).2 100), some (bw_a G (u0 6).2 100), some (bw_a G (u0 7).2 100), some (bw_a G (u0 8).2 100), some (bw_a G (u0 9).2 900), some (bw_a G (u0 10).2 900), some (((u1 0).2, .inl (G.2.2.2.2, 4, .inr (.inl (bf3 4))))), some (bw_a G (u1 1).2 4), some (bw_a G (u1 2).2 4), some (bw_a G (u2 0).2 10), some (bw_a G (u2 1).2 100), some (bw_a G (u2 2).2 100), some (bw_a G (u3 0).2 32), some (bw_a G (u3 1).2 32), some (bw_a G (u3 2).2 32), some (bw_a G (u4 0).2 60), some (bw_a G (u4 1).2 60), some (bw_a G (u5 0).2 5), some (bw_a G (u5 1).2 100), some (bw_a G (u5 2).2 100), some (bw_a G (u5 3).2 100), some (bw_a G (u6 0).2 101), some (bw_a G (u6 1).2 101), some (bw_a G (u6 2).2 101), some (bw_a G (u6 3).2 101), some (bw_a G (u6 4).2 100), some (bw_a G (u6 5).2 100), some (bw_a G (u6 6).2 100)] : List (Option (Nat × va_E))) := rfl
set_option maxRecDepth 100000 in
set_option maxHeartbeats 4000000 in
theorem bw_permB (G : am_G) (h0 v0 v1 v2 v3 v4 v5 v6 : Nat) (u0 u1 u2 u3 u4 u5 u6 : Nat → Nat × Nat) : (bw_cls G (fun k => ([h0, v0, v1, v2, v3, v4, v5, v6, (u0 0).1, (u0 1).1, (u0 2).1, (u0 3).1, (u0 4).1, (u0 5).1, (u0 6).1, (u0 7).1, (u0 8).1, (u0 9).1, (u0 10).1, (u1 0).1, (u1 1).1, (u1 2).1, (u2 0).1, (u2 1).1, (u2 2).1, (u3 0).1, (u3 1).1, (u3 2).1, (u4 0).1, (u4 1).1, (u5 0).1, (u5 1).1, (u5 2).1, (u5 3).1, (u6 0).1, (u6 1).1, (u6 2).1, (u6 3).1, (u6 4).1, (u6 5).1, (u6 6).1, (u0 0).2, (u0 1).2, (u0 2).2, (u0 3).2, (u0 4).2, (u0 5).2, (u0 6).2, (u0 7).2, (u0 8).2, (u0 9).2, (u0 10).2, (u1 0).2, (u1 1).2, (u1 2).2, (u2 0).2, (u2 1).2, (u2 2).2, (u3 0).2, (u3 1).2, (u3 2).2, (u4 0).2, (u4 1).2, (u5 0).2, (u5 1).2, (u5 2).2, (u5 3).2, (u6 0).2, (u6 1).2, (u6 2).2, (u6 3).2, (u6 4).2, (u6 5).2, (u6 6).2] : List Nat).getD k 0)).map some = ([some ((h0, .inr (8, [.ref v0, .ref v1, .ref v2, .ref v3, .ref v4, .ref v5, .ref v6]))), some ((v0, .inr (3, [.ref (u0 0).1, .ref (u0 1).1, .ref (u0 2).1, .ref (u0 3).1, .ref (u0 4).1, .ref (u0 5).1, .ref (u0 6).1, .ref (u0 7).1, .ref (u0 8).1, .ref (u0 9).1, .ref (u0 10).1, .int (Int32.ofInt 0), .int (Int32.ofInt 0), .int (Int32.ofInt 0), .int (Int32.ofInt 0)]))), some ((v1, .inr (7, [.ref (u1 0).1, .ref (u1 1).1, .ref (u1 2).1]))), some ((v2, .inr (0, [.ref (u2 0).1, .ref (u2 1).1, .ref (u2 2).1]))), some ((v3, .inr (6, [.ref (u3 0).1, .ref (u3 1).1, .ref (u3 2).1, .int (Int32.ofInt 0), .int (Int32.ofInt 0)]))), some ((v4, .inr (2, [.ref (u4 0).1, .ref (u4 1).1, .int (Int32.ofInt 0), .int (Int32.ofInt 0)]))), some ((v5, .inr (1, [.ref (u5 0).1, .ref (u5 1).1, .ref (u5 2).1, .ref (u5 3).1, .ref v0, .int (Int32.ofInt 0)]))), some ((v6, .inr (5, [.ref v2, .ref v0, .ref v3, .ref v4, .ref (u6 0).1, .ref (u6 1).1, .ref (u6 2).1, .ref (u6 3).1, .ref (u6 4).1, .ref (u6 5).1, .ref (u6 6).1, .int (Int32.ofInt (-1)), .int (Int32.ofInt (-1)), .int (Int32.ofInt 0)]))), some (bw_r (u0 0).1 (u0 0).2), some (bw_r (u0 1).1 (u0 1).2), some (bw_r (u0 2).1 (u0 2).2), some (bw_r (u0 3).1 (u0 3).2), some (bw_r (u0 4).1 (u0 4).2), some (bw_r (u0 5).1 (u0 5).2), some (bw_r (u0 6).1 (u0 6).2), some (bw_r (u0 7).1 (u0 7).2), some (bw_r (u0 8).1 (u0 8).2), some (bw_r (u0 9).1 (u0 9).2), some (bw_r (u0 10).1 (u0 10).2), some (bw_r (u1 0).1 (u1 0).2), some (bw_r (u1 1).1 (u1 1).2), some (bw_r (u1 2).1 (u1 2).2), some (bw_r (u2 0).1 (u2 0).2), some (bw_r (u2 1).1 (u2 1).2), some (bw_r (u2 2).1 (u2 2).2), some (bw_r (u3 0).1 (u3 0).2), some (bw_r (u3 1).1 (u3 1).2), some (bw_r (u3 2).1 (u3 2).2), some (bw_r (u4 0).1 (u4 0).2), some (bw_r (u4 1).1 (u4 1).2), some (bw_r (u5 0).1 (u5 0).2), some (bw_r (u5 1).1 (u5 1).2), some (bw_r (u5 2).1 (u5 2).2), some (bw_r (u5 3).1 (u5 3).2), some (bw_r (u6 0).1 (u6 0).2), some (bw_r (u6 1).1 (u6 1).2), some (bw_r (u6 2).1 (u6 2).2), some (bw_r (u6 3).1 (u6 3).2), some (bw_r (u6 4).1 (u6 4).2), some (bw_r (u6 5).1 (u6 5).2), some (bw_r (u6 6).1 (u6 6).2), some (bw_a G (u0 0).2 100), some (bw_a G (u0 1).2 100), some (bw_a G (u0 2).2 100), some (bw_a G (u0 3).2 100), some (bw_a G (u0 4).2 100), some (bw_a G (u0 5).2 100), some (bw_a G (u0 6).2 100), some (bw_a G (u0 7).2 100), some (bw_a G (u0 8).2 100), some (bw_a G (u0 9).2 900), some (bw_a G (u0 10).2 900), some (((u1 0).2, .inl (G.2.2.2.2, 4, .inr (.inl (bf3 4))))), some (bw_a G (u1 1).2 4), some (bw_a G (u1 2).2 4), some (bw_a G (u2 0).2 10), some (bw_a G (u2 1).2 100), some (bw_a G (u2 2).2 100), some (bw_a G (u3 0).2 32), some (bw_a G (u3 1).2 32), some (bw_a G (u3 2).2 32), some (bw_a G (u4 0).2 60), some (bw_a G (u4 1).2 60), some (bw_a G (u5 0).2 5), some (bw_a G (u5 1).2 100), some (bw_a G (u5 2).2 100), some (bw_a G (u5 3).2 100), some (bw_a G (u6 0).2 101), some (bw_a G (u6 1).2 101), some (bw_a G (u6 2).2 101), some (bw_a G (u6 3).2 101), some (bw_a G (u6 4).2 100), some (bw_a G (u6 5).2 100), some (bw_a G (u6 6).2 100)] : List (Option (Nat × va_E))) := rfl
set_option maxRecDepth 100000 in
set_option maxHeartbeats 4000000 in
theorem bc_X9 (l : Launch) (G : am_G) (h0 : Nat) : bn_met l yX9_init cX9_init 1 4 90 73 4230 G [.ref h0] [(h0, .inr (8, [.null, .null, .null, .null, .null, .null, .null]))] (fun x : {x : Nat → Nat // x 0 = h0} => bw_cls G x.1) := by
  refine bn_enter (lv := [(0, .ref h0)]) ym_X9_init rfl (Nat.le_of_ble_eq_true rfl) rfl (fun p e s m args below meth c C hr hlocks hin hA => ?_)
  refine bn_aload_n (pc := 0) C dX9_init_0 rfl 0 rfl ?_
  refine bn_oinit (pc := 1) C bf_oi_X9 bf_im bf_oc dX9_init_1 ⟨Nat.le_of_ble_eq_true rfl, Nat.le_of_ble_eq_true rfl⟩ ?_
  refine bn_aload_n (pc := 4) C dX9_init_4 rfl 0 rfl ?_
  refine bn_new (pc := 5) (fs := [.null, .null, .null, .null, .null, .null, .null, .null, .null, .null, .null, .int 0, .int 0, .int 0, .int 0]) C hA (ci := 3) rfl am_hin3 tyX3_ok bf_cl_X9_9 bf_ins3 bf_ini3 (fun j hj => match j, hj with | 0, _ => rfl | 1, _ => rfl | 2, _ => rfl | 3, _ => rfl | 4, _ => rfl | 5, _ => rfl | 6, _ => rfl | 7, _ => rfl | 8, _ => rfl | 9, _ => rfl | 10, _ => rfl | 11, _ => rfl | 12, _ => rfl | 13, _ => rfl | 14, _ => rfl | j + 15, h => absurd h (by omega)) ⟨Nat.le_of_ble_eq_true rfl, Nat.le_of_ble_eq_true rfl⟩ dX9_init_5 (fun v0 => ?_)
  refine bn_dup (pc := 8) C dX9_init_8 ?_
  refine bn_callN (pc := 9) (As := []) (rest := [.ref v0, .ref h0]) ((h0, .inr (8, [.null, .null, .null, .null, .null, .null, .null])) :: (([] : va_W))) C hA (bc_X3 l G v0) ym_X3_init rfl im_X3_init bf_si_X9_11 ⟨Nat.le_of_ble_eq_true rfl, Nat.le_of_ble_eq_true rfl⟩ rfl (Nat.le_of_ble_eq_true rfl) ⟨Nat.le_of_ble_eq_true rfl, Nat.le_of_ble_eq_true rfl⟩ rfl rfl dX9_init_9 (fun u0 => ?_)
  refine bn_weq 23 2726 ((h0, .inr (8, [.null, .null, .null, .null, .null, .null, .null])) :: (bw_X3 G v0 u0)) rfl rfl rfl ?_
  refine bn_putF (pc := 12) C hin ff_X9_12 rfl rfl (Nat.le_of_ble_eq_true rfl) dX9_init_12 ?_
  refine bn_weq 23 2726 ((h0, .inr (8, [.ref v0, .null, .null, .null, .null, .null, .null])) :: (bw_X3 G v0 u0)) rfl rfl rfl ?_
  refine bn_aload_n (pc := 15) C dX9_init_15 rfl 0 rfl ?_
  refine bn_new (pc := 16) (fs := [.null, .null, .null]) C hA (ci := 7) rfl am_hin7 tyX7_ok bf_cl_X9_16 bf_ins7 bf_ini7 (fun j hj => match j, hj with | 0, _ => rfl | 1, _ => rfl | 2, _ => rfl | j + 3, h => absurd h (by omega)) ⟨Nat.le_of_ble_eq_true rfl, Nat.le_of_ble_eq_true rfl⟩ dX9_init_16 (fun v1 => ?_)
  refine bn_dup (pc := 19) C dX9_init_19 ?_
  refine bn_call (pc := 20) (As := []) (rest := [.ref v1, .ref h0]) ((h0, .inr (8, [.ref v0, .null, .null, .null, .null, .null, .null])) :: (bw_X3 G v0 u0)) C hA (bc_X7 l G v1) ym_X7_init rfl im_X7_init bf_si_X9_18 ⟨Nat.le_of_ble_eq_true rfl, Nat.le_of_ble_eq_true rfl⟩ rfl (Nat.le_of_ble_eq_true rfl) ⟨Nat.le_of_ble_eq_true rfl, Nat.le_of_ble_eq_true rfl⟩ rfl rfl dX9_init_20 (fun u1 => ?_)
  refine bn_weq 30 2744 ((h0, .inr (8, [.ref v0, .null, .null, .null, .null, .null, .null])) :: (bw_X3 G v0 u0 ++ bw_X7 G v1 u1)) rfl rfl rfl ?_
  refine bn_putF (pc := 23) C hin ff_X9_19 rfl rfl (Nat.le_of_ble_eq_true rfl) dX9_init_23 ?_
  refine bn_weq 30 2744 ((h0, .inr (8, [.ref v0, .ref v1, .null, .null, .null, .null, .null])) :: (bw_X3 G v0 u0 ++ bw_X7 G v1 u1)) rfl rfl rfl ?_
  refine bn_aload_n (pc := 26) C dX9_init_26 rfl 0 rfl ?_
  refine bn_new (pc := 27) (fs := [.null, .null, .null]) C hA (ci := 0) rfl am_hin0 tyX0_ok bf_cl_X9_23 bf_ins0 bf_ini0 (fun j hj => match j, hj with | 0, _ => rfl | 1, _ => rfl | 2, _ => rfl | j + 3, h => absurd h (by omega)) ⟨Nat.le_of_ble_eq_true rfl, Nat.le_of_ble_eq_true rfl⟩ dX9_init_27 (fun v2 => ?_)
  refine bn_dup (pc := 30) C dX9_init_30 ?_
  refine bn_callN (pc := 31) (As := []) (rest := [.ref v2, .ref h0]) ((h0, .inr (8, [.ref v0, .ref v1, .null, .null, .null, .null, .null])) :: (bw_X3 G v0 u0 ++ bw_X7 G v1 u1)) C hA (bc_X0 l G v2) ym_X0_init rfl im_X0_init bf_si_X9_25 ⟨Nat.le_of_ble_eq_true rfl, Nat.le_of_ble_eq_true rfl⟩ rfl (Nat.le_of_ble_eq_true rfl) ⟨Nat.le_of_ble_eq_true rfl, Nat.le_of_ble_eq_true rfl⟩ rfl rfl dX9_init_31 (fun u2 => ?_)
  refine bn_weq 37 2960 ((h0, .inr (8, [.ref v0, .ref v1, .null, .null, .null, .null, .null])) :: (bw_X3 G v0 u0 ++ bw_X7 G v1 u1 ++ bw_X0 G v2 u2)) rfl rfl rfl ?_
  refine bn_putF (pc := 34) C hin ff_X9_26 rfl rfl (Nat.le_of_ble_eq_true rfl) dX9_init_34 ?_
  refine bn_weq 37 2960 ((h0, .inr (8, [.ref v0, .ref v1, .ref v2, .null, .null, .null, .null])) :: (bw_X3 G v0 u0 ++ bw_X7 G v1 u1 ++ bw_X0 G v2 u2)) rfl rfl rfl ?_
  refine bn_aload_n (pc := 37) C dX9_init_37 rfl 0 rfl ?_
  refine bn_new (pc := 38) (fs := [.null, .null, .null, .int 0, .int 0]) C hA (ci := 6) rfl am_hin6 tyX6_ok bf_cl_X9_30 bf_ins6 bf_ini6 (fun j hj => match j, hj with | 0, _ => rfl | 1, _ => rfl | 2, _ => rfl | 3, _ => rfl | 4, _ => rfl | j + 5, h => absurd h (by omega)) ⟨Nat.le_of_ble_eq_true rfl, Nat.le_of_ble_eq_true rfl⟩ dX9_init_38 (fun v3 => ?_)
  refine bn_dup (pc := 41) C dX9_init_41 ?_
  refine bn_callN (pc := 42) (As := []) (rest := [.ref v3, .ref h0]) ((h0, .inr (8, [.ref v0, .ref v1, .ref v2, .null, .null, .null, .null])) :: (bw_X3 G v0 u0 ++ bw_X7 G v1 u1 ++ bw_X0 G v2 u2)) C hA (bc_X6 l G v3) ym_X6_init rfl im_X6_init bf_si_X9_32 ⟨Nat.le_of_ble_eq_true rfl, Nat.le_of_ble_eq_true rfl⟩ rfl (Nat.le_of_ble_eq_true rfl) ⟨Nat.le_of_ble_eq_true rfl, Nat.le_of_ble_eq_true rfl⟩ rfl rfl dX9_init_42 (fun u3 => ?_)
  refine bn_weq 44 3064 ((h0, .inr (8, [.ref v0, .ref v1, .ref v2, .null, .null, .null, .null])) :: (bw_X3 G v0 u0 ++ bw_X7 G v1 u1 ++ bw_X0 G v2 u2 ++ bw_X6 G v3 u3)) rfl rfl rfl ?_
  refine bn_putF (pc := 45) C hin ff_X9_33 rfl rfl (Nat.le_of_ble_eq_true rfl) dX9_init_45 ?_
  refine bn_weq 44 3064 ((h0, .inr (8, [.ref v0, .ref v1, .ref v2, .ref v3, .null, .null, .null])) :: (bw_X3 G v0 u0 ++ bw_X7 G v1 u1 ++ bw_X0 G v2 u2 ++ bw_X6 G v3 u3)) rfl rfl rfl ?_
  refine bn_aload_n (pc := 48) C dX9_init_48 rfl 0 rfl ?_
  refine bn_new (pc := 49) (fs := [.null, .null, .int 0, .int 0]) C hA (ci := 2) rfl am_hin2 tyX2_ok bf_cl_X9_37 bf_ins2 bf_ini2 (fun j hj => match j, hj with | 0, _ => rfl | 1, _ => rfl | 2, _ => rfl | 3, _ => rfl | j + 4, h => absurd h (by omega)) ⟨Nat.le_of_ble_eq_true rfl, Nat.le_of_ble_eq_true rfl⟩ dX9_init_49 (fun v4 => ?_)
  refine bn_dup (pc := 52) C dX9_init_52 ?_
  refine bn_callN (pc := 53) (As := []) (rest := [.ref v4, .ref h0]) ((h0, .inr (8, [.ref v0, .ref v1, .ref v2, .ref v3, .null, .null, .null])) :: (bw_X3 G v0 u0 ++ bw_X7 G v1 u1 ++ bw_X0 G v2 u2 ++ bw_X6 G v3 u3)) C hA (bc_X2 l G v4) ym_X2_init rfl im_X2_init bf_si_X9_39 ⟨Nat.le_of_ble_eq_true rfl, Nat.le_of_ble_eq_true rfl⟩ rfl (Nat.le_of_ble_eq_true rfl) ⟨Nat.le_of_ble_eq_true rfl, Nat.le_of_ble_eq_true rfl⟩ rfl rfl dX9_init_53 (fun u4 => ?_)
  refine bn_weq 49 3190 ((h0, .inr (8, [.ref v0, .ref v1, .ref v2, .ref v3, .null, .null, .null])) :: (bw_X3 G v0 u0 ++ bw_X7 G v1 u1 ++ bw_X0 G v2 u2 ++ bw_X6 G v3 u3 ++ bw_X2 G v4 u4)) rfl rfl rfl ?_
  refine bn_putF (pc := 56) C hin ff_X9_40 rfl rfl (Nat.le_of_ble_eq_true rfl) dX9_init_56 ?_
  refine bn_weq 49 3190 ((h0, .inr (8, [.ref v0, .ref v1, .ref v2, .ref v3, .ref v4, .null, .null])) :: (bw_X3 G v0 u0 ++ bw_X7 G v1 u1 ++ bw_X0 G v2 u2 ++ bw_X6 G v3 u3 ++ bw_X2 G v4 u4)) rfl rfl rfl ?_
  refine bn_aload_n (pc := 59) C dX9_init_59 rfl 0 rfl ?_
  refine bn_new (pc := 60) (fs := [.null, .null, .null, .null, .null, .int 0]) C hA (ci := 1) rfl am_hin1 tyX1_ok bf_cl_X9_44 bf_ins1 bf_ini1 (fun j hj => match j, hj with | 0, _ => rfl | 1, _ => rfl | 2, _ => rfl | 3, _ => rfl | 4, _ => rfl | 5, _ => rfl | j + 6, h => absurd h (by omega)) ⟨Nat.le_of_ble_eq_true rfl, Nat.le_of_ble_eq_true rfl⟩ dX9_init_60 (fun v5 => ?_)
  refine bn_dup (pc := 63) C dX9_init_63 ?_
  refine bn_aload_n (pc := 64) C dX9_init_64 rfl 0 rfl ?_
  refine bn_get (pc := 65) (ci := 8) (k := 0) (v := .ref v0) C 0 rfl fl_X9_12 rfl dX9_init_65 ?_
  refine bn_call (pc := 68) (As := [.ref v0]) (rest := [.ref v5, .ref h0]) ((h0, .inr (8, [.ref v0, .ref v1, .ref v2, .ref v3, .ref v4, .null, .null])) :: (bw_X3 G v0 u0 ++ bw_X7 G v1 u1 ++ bw_X0 G v2 u2 ++ bw_X6 G v3 u3 ++ bw_X2 G v4 u4)) C hA (bc_X1 l G v5 v0) ym_X1_init rfl im_X1_init bf_si_X9_46 ⟨Nat.le_of_ble_eq_true rfl, Nat.le_of_ble_eq_true rfl⟩ rfl (Nat.le_of_ble_eq_true rfl) ⟨Nat.le_of_ble_eq_true rfl, Nat.le_of_ble_eq_true rfl⟩ rfl rfl dX9_init_68 (fun u5 => ?_)
  refine bn_weq 58 3505 ((h0, .inr (8, [.ref v0, .ref v1, .ref v2, .ref v3, .ref v4, .null, .null])) :: (bw_X3 G v0 u0 ++ bw_X7 G v1 u1 ++ bw_X0 G v2 u2 ++ bw_X6 G v3 u3 ++ bw_X2 G v4 u4 ++ bw_X1 G v5 v0 u5)) rfl rfl rfl ?_
  refine bn_putF (pc := 71) C hin ff_X9_49 rfl rfl (Nat.le_of_ble_eq_true rfl) dX9_init_71 ?_
  refine bn_weq 58 3505 ((h0, .inr (8, [.ref v0, .ref v1, .ref v2, .ref v3, .ref v4, .ref v5, .null])) :: (bw_X3 G v0 u0 ++ bw_X7 G v1 u1 ++ bw_X0 G v2 u2 ++ bw_X6 G v3 u3 ++ bw_X2 G v4 u4 ++ bw_X1 G v5 v0 u5)) rfl rfl rfl ?_
  refine bn_aload_n (pc := 74) C dX9_init_74 rfl 0 rfl ?_
  refine bn_new (pc := 75) (fs := [.null, .null, .null, .null, .null, .null, .null, .null, .null, .null, .null, .int 0, .int 0, .int 0]) C hA (ci := 5) rfl am_hin5 tyX5_ok bf_cl_X9_53 bf_ins5 bf_ini5 (fun j hj => match j, hj with | 0, _ => rfl | 1, _ => rfl | 2, _ => rfl | 3, _ => rfl | 4, _ => rfl | 5, _ => rfl | 6, _ => rfl | 7, _ => rfl | 8, _ => rfl | 9, _ => rfl | 10, _ => rfl | 11, _ => rfl | 12, _ => rfl | 13, _ => rfl | j + 14, h => absurd h (by omega)) ⟨Nat.le_of_ble_eq_true rfl, Nat.le_of_ble_eq_true rfl⟩ dX9_init_75 (fun v6 => ?_)
  refine bn_dup (pc := 78) C dX9_init_78 ?_
  refine bn_aload_n (pc := 79) C dX9_init_79 rfl 0 rfl ?_
  refine bn_get (pc := 80) (ci := 8) (k := 2) (v := .ref v2) C 0 rfl fl_X9_26 rfl dX9_init_80 ?_
  refine bn_aload_n (pc := 83) C dX9_init_83 rfl 0 rfl ?_
  refine bn_get (pc := 84) (ci := 8) (k := 0) (v := .ref v0) C 0 rfl fl_X9_12 rfl dX9_init_84 ?_
  refine bn_aload_n (pc := 87) C dX9_init_87 rfl 0 rfl ?_
  refine bn_get (pc := 88) (ci := 8) (k := 3) (v := .ref v3) C 0 rfl fl_X9_33 rfl dX9_init_88 ?_
  refine bn_aload_n (pc := 91) C dX9_init_91 rfl 0 rfl ?_
  refine bn_get (pc := 92) (ci := 8) (k := 4) (v := .ref v4) C 0 rfl fl_X9_40 rfl dX9_init_92 ?_
  refine bn_call (pc := 95) (As := [.ref v2, .ref v0, .ref v3, .ref v4]) (rest := [.ref v6, .ref h0]) ((h0, .inr (8, [.ref v0, .ref v1, .ref v2, .ref v3, .ref v4, .ref v5, .null])) :: (bw_X3 G v0 u0 ++ bw_X7 G v1 u1 ++ bw_X0 G v2 u2 ++ bw_X6 G v3 u3 ++ bw_X2 G v4 u4 ++ bw_X1 G v5 v0 u5)) C hA (bc_X5 l G v6 v2 v0 v3 v4) ym_X5_init rfl im_X5_init bf_si_X9_55 ⟨Nat.le_of_ble_eq_true rfl, Nat.le_of_ble_eq_true rfl⟩ rfl (Nat.le_of_ble_eq_true rfl) ⟨Nat.le_of_ble_eq_true rfl, Nat.le_of_ble_eq_true rfl⟩ rfl rfl dX9_init_95 (fun u6 => ?_)
  refine bn_weq 73 4230 ((h0, .inr (8, [.ref v0, .ref v1, .ref v2, .ref v3, .ref v4, .ref v5, .null])) :: (bw_X3 G v0 u0 ++ bw_X7 G v1 u1 ++ bw_X0 G v2 u2 ++ bw_X6 G v3 u3 ++ bw_X2 G v4 u4 ++ bw_X1 G v5 v0 u5 ++ bw_X5 G v6 v2 v0 v3 v4 u6)) rfl rfl rfl ?_
  refine bn_putF (pc := 98) C hin ff_X9_58 rfl rfl (Nat.le_of_ble_eq_true rfl) dX9_init_98 ?_
  refine bn_weq 73 4230 ((h0, .inr (8, [.ref v0, .ref v1, .ref v2, .ref v3, .ref v4, .ref v5, .ref v6])) :: (bw_X3 G v0 u0 ++ bw_X7 G v1 u1 ++ bw_X0 G v2 u2 ++ bw_X6 G v3 u3 ++ bw_X2 G v4 u4 ++ bw_X1 G v5 v0 u5 ++ bw_X5 G v6 v2 v0 v3 v4 u6)) rfl rfl rfl ?_
  obtain ⟨x, hx⟩ : ∃ x : Nat → Nat, x = (fun k => ([h0, v0, v1, v2, v3, v4, v5, v6, (u0 0).1, (u0 1).1, (u0 2).1, (u0 3).1, (u0 4).1, (u0 5).1, (u0 6).1, (u0 7).1, (u0 8).1, (u0 9).1, (u0 10).1, (u1 0).1, (u1 1).1, (u1 2).1, (u2 0).1, (u2 1).1, (u2 2).1, (u3 0).1, (u3 1).1, (u3 2).1, (u4 0).1, (u4 1).1, (u5 0).1, (u5 1).1, (u5 2).1, (u5 3).1, (u6 0).1, (u6 1).1, (u6 2).1, (u6 3).1, (u6 4).1, (u6 5).1, (u6 6).1, (u0 0).2, (u0 1).2, (u0 2).2, (u0 3).2, (u0 4).2, (u0 5).2, (u0 6).2, (u0 7).2, (u0 8).2, (u0 9).2, (u0 10).2, (u1 0).2, (u1 1).2, (u1 2).2, (u2 0).2, (u2 1).2, (u2 2).2, (u3 0).2, (u3 1).2, (u3 2).2, (u4 0).2, (u4 1).2, (u5 0).2, (u5 1).2, (u5 2).2, (u5 3).2, (u6 0).2, (u6 1).2, (u6 2).2, (u6 3).2, (u6 4).2, (u6 5).2, (u6 6).2] : List Nat).getD k 0) := ⟨_, rfl⟩
  have hx0 : x 0 = h0 := by rw [hx]; rfl
  refine bn_sub [0, 1, 28, 31, 38, 45, 50, 59, 2, 4, 6, 8, 10, 12, 14, 16, 18, 20, 22, 29, 24, 26, 32, 34, 36, 39, 41, 43, 46, 48, 51, 53, 55, 57, 60, 62, 64, 66, 68, 70, 72, 3, 5, 7, 9, 11, 13, 15, 17, 19, 21, 23, 30, 25, 27, 33, 35, 37, 40, 42, 44, 47, 49, 52, 54, 56, 58, 61, 63, 65, 67, 69, 71, 73] (bw_cls G x) (by decide +kernel) (by subst hx; exact (bw_permA G h0 v0 v1 v2 v3 v4 v5 v6 u0 u1 u2 u3 u4 u5 u6).trans (bw_permB G h0 v0 v1 v2 v3 v4 v5 v6 u0 u1 u2 u3 u4 u5 u6).symm) ?_
  exact bn_vret (⟨x, hx0⟩ : {x : Nat → Nat // x 0 = h0}) C hr hlocks rfl dX9_init_101
