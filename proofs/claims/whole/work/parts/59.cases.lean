/-! the law's cases; printed by gen59.py -/
theorem lw_r (v : Int32) : am_r32 v.toInt := ⟨Int32.le_toInt _, Int32.toInt_lt _⟩
theorem lw_w {i j : Int} {L : Nat} (hL : L ≤ 448) (hj : 0 ≤ j ∧ j < 7) (hi : 0 ≤ i ∧ i + 7 ≤ (L : Int)) : am_w32 (i + j) = i + j := am_w32_id (by unfold am_r32; omega)
theorem av_arg {p : Program} {l : Launch} {e : Env} {R : Room} {s : State} {m : MethodId} {args : Array Value} {below : List Frame} {meth : Method} {c : Code} {Q : State → Prop} {G : am_G} {nL kc ks : Nat} {cc : ByteArray} {own : String} {pc w k0 k3 : Nat} {lv : List (Nat × am_AV)} {st : List am_AV} {S : am_S} {b L : Nat} {xs : Nat → Int32} (C : am_C p s m args c cc nL own G) (hX : va_X b L xs s s.heap) (hbl : b < s.heap.size) (hG : G.1 999 = b) (hL : L ≤ 448) {i j : Int} (hj : 0 ≤ j ∧ j < 7) (hi : 0 ≤ i ∧ i + 7 ≤ (L : Int)) (h0 : lv[k0]? = some (0, am_R 999)) (h3 : lv[k3]? = some (3, am_I i)) (d0 : decode cc pc = .ok (.aload_n 0, 1)) (d1 : decode cc (pc + 1) = .ok (.iload_n 3, 1)) (d2 : (decode cc (pc + 2) = .ok (.iconst j, 1) ∧ w = 1) ∨ (decode cc (pc + 2) = .ok (.bipush j, 2) ∧ w = 2)) (d3 : decode cc (pc + 2 + w) = .ok (.iadd, 1)) (d4 : decode cc (pc + 2 + w + 1) = .ok (.iaload, 1))
    (kk : am_V p l e R s m args below meth c Q G (fun q => s.heap.size ≤ q) s.heap nL kc ks (pc + 2 + w + 1 + 1) lv (am_I (xs (i + j).toNat).toInt :: st) S) : am_V p l e R s m args below meth c Q G (fun q => s.heap.size ≤ q) s.heap nL kc ks pc lv st S := by
  have hok : am_rok j = true := by simp only [am_rok, Bool.and_eq_true, decide_eq_true_eq]; omega
  have hok8 : am_rok8 j = true := by simp only [am_rok8, Bool.and_eq_true, decide_eq_true_eq]; omega
  refine av_aload_n (j := k0) C d0 rfl h0 ?_
  refine av_iload_n (j := k3) C d1 rfl h3 ?_
  have k2 : am_V p l e R s m args below meth c Q G (fun q => s.heap.size ≤ q) s.heap nL kc ks (pc + 2 + w) lv (am_I j :: am_I i :: am_R 999 :: st) S := by
    refine av_iadd C d3 ?_
    rw [lw_w hL hj hi]
    exact av_sld C hX hbl hG hL (by omega) d4 kk
  rcases d2 with ⟨d2, rfl⟩ | ⟨d2, rfl⟩
  · exact av_iconst (pc := pc + 2) C d2 hok k2
  · exact av_bipush (pc := pc + 2) C d2 hok8 k2
set_option maxRecDepth 100000 in
theorem si_L_13 : Cond.methodLink "JobLoopLaw" 13 yX9_promise ∈ am_T := am_mem 319 (by decide +kernel) (by decide +kernel)
set_option maxRecDepth 100000 in
theorem im_X9_promise : Cond.instanceMethod yX9_promise ∈ am_T := am_mem 320 (by decide +kernel) (by decide +kernel)
set_option maxRecDepth 100000 in
theorem se_X9_promise : Cond.selects yX9_promise.cls yX9_promise yX9_promise ∈ am_T := am_mem 321 (by decide +kernel) (by decide +kernel)
set_option maxRecDepth 100000 in
theorem si_L_17 : Cond.methodLink "JobLoopLaw" 17 yX10_promise ∈ am_T := am_mem 991 (by decide +kernel) (by decide +kernel)
set_option maxRecDepth 100000 in
set_option maxHeartbeats 4000000 in
theorem lw_c0 {p : Program} {l : Launch} {e : Env} {R : Room} {s : State} {m : MethodId} {args : Array Value} {below : List Frame} {meth : Method} {c : Code} {Q : State → Prop} {G : am_G} {kc ks : Nat} {S : am_S} {b L : Nat} {xs : Nat → Int32} (C : am_C p s m args c cL_law 4 "JobLoopLaw" G) (hX : va_X b L xs s s.heap) (hbl : b < s.heap.size) (hG : G.1 999 = b) (hL : L ≤ 448) (hR : R = room_1) (hcap : kc ≤ R.cells ∧ ks ≤ R.slots) {i B : Int} (hi : 0 ≤ i ∧ i + 7 ≤ (L : Int)) (I : pr_I B S S) (hB : B + 2000000 < 2000000000)
    (kk : ∀ S2, pr_I (B + 2000000) S2 S2 → am_V p l e R s m args below meth c Q G (fun q => s.heap.size ≤ q) s.heap 4 kc ks 683 [(0, am_R 999), (1, am_R 0), (2, am_R 74), (3, am_I i)] [] S2) : am_V p l e R s m args below meth c Q G (fun q => s.heap.size ≤ q) s.heap 4 kc ks 112 [(0, am_R 999), (1, am_R 0), (2, am_R 74), (3, am_I i)] [] S := by
  subst hR
  obtain ⟨x, S1, g1, S2, g2, I2⟩ := pr_one I (c := sf_X9_promise) (r := sf_X10_promise) (fun Sr h => pr_pub_promise h hB) (fun S0 S h => pr_kf_X9_promise S0 S h) (fun S0 S h => pr_kf_X10_promise S0 S h)
  refine av_aload_n (pc := 112) (j := 1) C dL_law_112 rfl rfl ?_
  refine av_callV (pc := 113) (as := []) (rest := []) C (ct_X9_promise l G S x S1 g1) ym_X9_promise si_L_13 im_X9_promise se_X9_promise sk_0 rfl ⟨Nat.le_of_ble_eq_true rfl, Nat.le_of_ble_eq_true rfl⟩ rfl rfl (Nat.le_of_ble_eq_true rfl) dL_law_113 ⟨hcap.1, hcap.2⟩ (fun _ => ?_)
  refine av_aload_n (pc := 116) (j := 2) C dL_law_116 rfl rfl ?_
  refine av_callV (pc := 117) (as := []) (rest := [am_I x]) C (ct_X10_promise l G S1 x S2 g2) ym_X10_promise si_L_17 im_X10_promise se_X10_promise sk_74 rfl ⟨Nat.le_of_ble_eq_true rfl, Nat.le_of_ble_eq_true rfl⟩ rfl rfl (Nat.le_of_ble_eq_true rfl) dL_law_117 ⟨hcap.1, hcap.2⟩ (fun _ => ?_)
  refine av_icmp_eq (pc := 120) (tgt := 683) C dL_law_120 (by decide) (fun _ => ?_) (fun h => absurd rfl h)
  exact kk S2 I2
set_option maxRecDepth 100000 in
theorem si_L_18 : Cond.methodLink "JobLoopLaw" 18 yX9_resolve ∈ am_T := am_mem 335 (by decide +kernel) (by decide +kernel)
set_option maxRecDepth 100000 in
theorem im_X9_resolve : Cond.instanceMethod yX9_resolve ∈ am_T := am_mem 336 (by decide +kernel) (by decide +kernel)
set_option maxRecDepth 100000 in
theorem se_X9_resolve : Cond.selects yX9_resolve.cls yX9_resolve yX9_resolve ∈ am_T := am_mem 337 (by decide +kernel) (by decide +kernel)
set_option maxRecDepth 100000 in
theorem si_L_22 : Cond.methodLink "JobLoopLaw" 22 yX10_resolve ∈ am_T := am_mem 995 (by decide +kernel) (by decide +kernel)
set_option maxRecDepth 100000 in
theorem im_X10_resolve : Cond.instanceMethod yX10_resolve ∈ am_T := am_mem 996 (by decide +kernel) (by decide +kernel)
set_option maxRecDepth 100000 in
theorem se_X10_resolve : Cond.selects yX10_resolve.cls yX10_resolve yX10_resolve ∈ am_T := am_mem 997 (by decide +kernel) (by decide +kernel)
set_option maxRecDepth 100000 in
set_option maxHeartbeats 4000000 in
theorem lw_c1 {p : Program} {l : Launch} {e : Env} {R : Room} {s : State} {m : MethodId} {args : Array Value} {below : List Frame} {meth : Method} {c : Code} {Q : State → Prop} {G : am_G} {kc ks : Nat} {S : am_S} {b L : Nat} {xs : Nat → Int32} (C : am_C p s m args c cL_law 4 "JobLoopLaw" G) (hX : va_X b L xs s s.heap) (hbl : b < s.heap.size) (hG : G.1 999 = b) (hL : L ≤ 448) (hR : R = room_1) (hcap : kc ≤ R.cells ∧ ks ≤ R.slots) {i B : Int} (hi : 0 ≤ i ∧ i + 7 ≤ (L : Int)) (I : pr_I B S S) (hB : B + 2000000 < 2000000000)
    (kk : ∀ S2, pr_I (B + 2000000) S2 S2 → am_V p l e R s m args below meth c Q G (fun q => s.heap.size ≤ q) s.heap 4 kc ks 683 [(0, am_R 999), (1, am_R 0), (2, am_R 74), (3, am_I i)] [] S2) : am_V p l e R s m args below meth c Q G (fun q => s.heap.size ≤ q) s.heap 4 kc ks 125 [(0, am_R 999), (1, am_R 0), (2, am_R 74), (3, am_I i)] [] S := by
  subst hR
  obtain ⟨x, S1, g1, S2, g2, I2⟩ := pr_one I (c := sf_X9_resolve (xs (i + 1).toNat).toInt (xs (i + 2).toNat).toInt (xs (i + 3).toNat).toInt) (r := sf_X10_resolve (xs (i + 1).toNat).toInt (xs (i + 2).toNat).toInt (xs (i + 3).toNat).toInt) (fun Sr h => pr_pub_resolve h hB (xs (i + 1).toNat).toInt (xs (i + 2).toNat).toInt (lw_r _)) (fun S0 S h => pr_kf_X9_resolve _ _ _ S0 S h) (fun S0 S h => pr_kf_X10_resolve _ _ _ S0 S h)
  refine av_aload_n (pc := 125) (j := 1) C dL_law_125 rfl rfl ?_
  refine av_arg (pc := 126) (w := 1) (k0 := 0) (k3 := 3) (j := 1) C hX hbl hG hL (by omega) hi rfl rfl dL_law_126 dL_law_127 (Or.inl ⟨dL_law_128, rfl⟩) dL_law_129 dL_law_130 ?_
  refine av_arg (pc := 131) (w := 1) (k0 := 0) (k3 := 3) (j := 2) C hX hbl hG hL (by omega) hi rfl rfl dL_law_131 dL_law_132 (Or.inl ⟨dL_law_133, rfl⟩) dL_law_134 dL_law_135 ?_
  refine av_arg (pc := 136) (w := 1) (k0 := 0) (k3 := 3) (j := 3) C hX hbl hG hL (by omega) hi rfl rfl dL_law_136 dL_law_137 (Or.inl ⟨dL_law_138, rfl⟩) dL_law_139 dL_law_140 ?_
  refine av_callV (pc := 141) (as := [am_I (xs (i + 1).toNat).toInt, am_I (xs (i + 2).toNat).toInt, am_I (xs (i + 3).toNat).toInt]) (rest := []) C (ct_X9_resolve l G (xs (i + 1).toNat).toInt (xs (i + 2).toNat).toInt (xs (i + 3).toNat).toInt S x S1 g1) ym_X9_resolve si_L_18 im_X9_resolve se_X9_resolve sk_0 rfl ⟨Nat.le_of_ble_eq_true rfl, Nat.le_of_ble_eq_true rfl⟩ rfl rfl (Nat.le_of_ble_eq_true rfl) dL_law_141 ⟨hcap.1, hcap.2⟩ (fun _ => ?_)
  refine av_aload_n (pc := 144) (j := 2) C dL_law_144 rfl rfl ?_
  refine av_arg (pc := 145) (w := 1) (k0 := 0) (k3 := 3) (j := 1) C hX hbl hG hL (by omega) hi rfl rfl dL_law_145 dL_law_146 (Or.inl ⟨dL_law_147, rfl⟩) dL_law_148 dL_law_149 ?_
  refine av_arg (pc := 150) (w := 1) (k0 := 0) (k3 := 3) (j := 2) C hX hbl hG hL (by omega) hi rfl rfl dL_law_150 dL_law_151 (Or.inl ⟨dL_law_152, rfl⟩) dL_law_153 dL_law_154 ?_
  refine av_arg (pc := 155) (w := 1) (k0 := 0) (k3 := 3) (j := 3) C hX hbl hG hL (by omega) hi rfl rfl dL_law_155 dL_law_156 (Or.inl ⟨dL_law_157, rfl⟩) dL_law_158 dL_law_159 ?_
  refine av_callV (pc := 160) (as := [am_I (xs (i + 1).toNat).toInt, am_I (xs (i + 2).toNat).toInt, am_I (xs (i + 3).toNat).toInt]) (rest := [am_I x]) C (ct_X10_resolve l G (xs (i + 1).toNat).toInt (xs (i + 2).toNat).toInt (xs (i + 3).toNat).toInt S1 x S2 g2) ym_X10_resolve si_L_22 im_X10_resolve se_X10_resolve sk_74 rfl ⟨Nat.le_of_ble_eq_true rfl, Nat.le_of_ble_eq_true rfl⟩ rfl rfl (Nat.le_of_ble_eq_true rfl) dL_law_160 ⟨hcap.1, hcap.2⟩ (fun _ => ?_)
  refine av_icmp_eq (pc := 163) (tgt := 683) C dL_law_163 (by decide) (fun _ => ?_) (fun h => absurd rfl h)
  exact kk S2 I2
set_option maxRecDepth 100000 in
theorem si_L_23 : Cond.methodLink "JobLoopLaw" 23 yX9_reject ∈ am_T := am_mem 390 (by decide +kernel) (by decide +kernel)
set_option maxRecDepth 100000 in
theorem im_X9_reject : Cond.instanceMethod yX9_reject ∈ am_T := am_mem 391 (by decide +kernel) (by decide +kernel)
set_option maxRecDepth 100000 in
theorem se_X9_reject : Cond.selects yX9_reject.cls yX9_reject yX9_reject ∈ am_T := am_mem 392 (by decide +kernel) (by decide +kernel)
set_option maxRecDepth 100000 in
theorem si_L_26 : Cond.methodLink "JobLoopLaw" 26 yX10_reject ∈ am_T := am_mem 1034 (by decide +kernel) (by decide +kernel)
set_option maxRecDepth 100000 in
theorem im_X10_reject : Cond.instanceMethod yX10_reject ∈ am_T := am_mem 1035 (by decide +kernel) (by decide +kernel)
set_option maxRecDepth 100000 in
theorem se_X10_reject : Cond.selects yX10_reject.cls yX10_reject yX10_reject ∈ am_T := am_mem 1036 (by decide +kernel) (by decide +kernel)
set_option maxRecDepth 100000 in
set_option maxHeartbeats 4000000 in
theorem lw_c2 {p : Program} {l : Launch} {e : Env} {R : Room} {s : State} {m : MethodId} {args : Array Value} {below : List Frame} {meth : Method} {c : Code} {Q : State → Prop} {G : am_G} {kc ks : Nat} {S : am_S} {b L : Nat} {xs : Nat → Int32} (C : am_C p s m args c cL_law 4 "JobLoopLaw" G) (hX : va_X b L xs s s.heap) (hbl : b < s.heap.size) (hG : G.1 999 = b) (hL : L ≤ 448) (hR : R = room_1) (hcap : kc ≤ R.cells ∧ ks ≤ R.slots) {i B : Int} (hi : 0 ≤ i ∧ i + 7 ≤ (L : Int)) (I : pr_I B S S) (hB : B + 2000000 < 2000000000)
    (kk : ∀ S2, pr_I (B + 2000000) S2 S2 → am_V p l e R s m args below meth c Q G (fun q => s.heap.size ≤ q) s.heap 4 kc ks 683 [(0, am_R 999), (1, am_R 0), (2, am_R 74), (3, am_I i)] [] S2) : am_V p l e R s m args below meth c Q G (fun q => s.heap.size ≤ q) s.heap 4 kc ks 168 [(0, am_R 999), (1, am_R 0), (2, am_R 74), (3, am_I i)] [] S := by
  subst hR
  obtain ⟨x, S1, g1, S2, g2, I2⟩ := pr_one I (c := sf_X9_reject (xs (i + 1).toNat).toInt (xs (i + 2).toNat).toInt (xs (i + 3).toNat).toInt) (r := sf_X10_reject (xs (i + 1).toNat).toInt (xs (i + 2).toNat).toInt (xs (i + 3).toNat).toInt) (fun Sr h => pr_pub_reject h hB (xs (i + 1).toNat).toInt (xs (i + 2).toNat).toInt (lw_r _)) (fun S0 S h => pr_kf_X9_reject _ _ _ S0 S h) (fun S0 S h => pr_kf_X10_reject _ _ _ S0 S h)
  refine av_aload_n (pc := 168) (j := 1) C dL_law_168 rfl rfl ?_
  refine av_arg (pc := 169) (w := 1) (k0 := 0) (k3 := 3) (j := 1) C hX hbl hG hL (by omega) hi rfl rfl dL_law_169 dL_law_170 (Or.inl ⟨dL_law_171, rfl⟩) dL_law_172 dL_law_173 ?_
  refine av_arg (pc := 174) (w := 1) (k0 := 0) (k3 := 3) (j := 2) C hX hbl hG hL (by omega) hi rfl rfl dL_law_174 dL_law_175 (Or.inl ⟨dL_law_176, rfl⟩) dL_law_177 dL_law_178 ?_
  refine av_arg (pc := 179) (w := 1) (k0 := 0) (k3 := 3) (j := 3) C hX hbl hG hL (by omega) hi rfl rfl dL_law_179 dL_law_180 (Or.inl ⟨dL_law_181, rfl⟩) dL_law_182 dL_law_183 ?_
  refine av_callV (pc := 184) (as := [am_I (xs (i + 1).toNat).toInt, am_I (xs (i + 2).toNat).toInt, am_I (xs (i + 3).toNat).toInt]) (rest := []) C (ct_X9_reject l G (xs (i + 1).toNat).toInt (xs (i + 2).toNat).toInt (xs (i + 3).toNat).toInt S x S1 g1) ym_X9_reject si_L_23 im_X9_reject se_X9_reject sk_0 rfl ⟨Nat.le_of_ble_eq_true rfl, Nat.le_of_ble_eq_true rfl⟩ rfl rfl (Nat.le_of_ble_eq_true rfl) dL_law_184 ⟨hcap.1, hcap.2⟩ (fun _ => ?_)
  refine av_aload_n (pc := 187) (j := 2) C dL_law_187 rfl rfl ?_
  refine av_arg (pc := 188) (w := 1) (k0 := 0) (k3 := 3) (j := 1) C hX hbl hG hL (by omega) hi rfl rfl dL_law_188 dL_law_189 (Or.inl ⟨dL_law_190, rfl⟩) dL_law_191 dL_law_192 ?_
  refine av_arg (pc := 193) (w := 1) (k0 := 0) (k3 := 3) (j := 2) C hX hbl hG hL (by omega) hi rfl rfl dL_law_193 dL_law_194 (Or.inl ⟨dL_law_195, rfl⟩) dL_law_196 dL_law_197 ?_
  refine av_arg (pc := 198) (w := 1) (k0 := 0) (k3 := 3) (j := 3) C hX hbl hG hL (by omega) hi rfl rfl dL_law_198 dL_law_199 (Or.inl ⟨dL_law_200, rfl⟩) dL_law_201 dL_law_202 ?_
  refine av_callV (pc := 203) (as := [am_I (xs (i + 1).toNat).toInt, am_I (xs (i + 2).toNat).toInt, am_I (xs (i + 3).toNat).toInt]) (rest := [am_I x]) C (ct_X10_reject l G (xs (i + 1).toNat).toInt (xs (i + 2).toNat).toInt (xs (i + 3).toNat).toInt S1 x S2 g2) ym_X10_reject si_L_26 im_X10_reject se_X10_reject sk_74 rfl ⟨Nat.le_of_ble_eq_true rfl, Nat.le_of_ble_eq_true rfl⟩ rfl rfl (Nat.le_of_ble_eq_true rfl) dL_law_203 ⟨hcap.1, hcap.2⟩ (fun _ => ?_)
  refine av_icmp_eq (pc := 206) (tgt := 683) C dL_law_206 (by decide) (fun _ => ?_) (fun h => absurd rfl h)
  exact kk S2 I2
set_option maxRecDepth 100000 in
theorem si_L_27 : Cond.methodLink "JobLoopLaw" 27 yX9_then ∈ am_T := am_mem 394 (by decide +kernel) (by decide +kernel)
set_option maxRecDepth 100000 in
theorem im_X9_then : Cond.instanceMethod yX9_then ∈ am_T := am_mem 395 (by decide +kernel) (by decide +kernel)
set_option maxRecDepth 100000 in
theorem se_X9_then : Cond.selects yX9_then.cls yX9_then yX9_then ∈ am_T := am_mem 396 (by decide +kernel) (by decide +kernel)
set_option maxRecDepth 100000 in
theorem si_L_31 : Cond.methodLink "JobLoopLaw" 31 yX10_then ∈ am_T := am_mem 1042 (by decide +kernel) (by decide +kernel)
set_option maxRecDepth 100000 in
theorem im_X10_then : Cond.instanceMethod yX10_then ∈ am_T := am_mem 1043 (by decide +kernel) (by decide +kernel)
set_option maxRecDepth 100000 in
theorem se_X10_then : Cond.selects yX10_then.cls yX10_then yX10_then ∈ am_T := am_mem 1044 (by decide +kernel) (by decide +kernel)
set_option maxRecDepth 100000 in
set_option maxHeartbeats 4000000 in
theorem lw_c3 {p : Program} {l : Launch} {e : Env} {R : Room} {s : State} {m : MethodId} {args : Array Value} {below : List Frame} {meth : Method} {c : Code} {Q : State → Prop} {G : am_G} {kc ks : Nat} {S : am_S} {b L : Nat} {xs : Nat → Int32} (C : am_C p s m args c cL_law 4 "JobLoopLaw" G) (hX : va_X b L xs s s.heap) (hbl : b < s.heap.size) (hG : G.1 999 = b) (hL : L ≤ 448) (hR : R = room_1) (hcap : kc ≤ R.cells ∧ ks ≤ R.slots) {i B : Int} (hi : 0 ≤ i ∧ i + 7 ≤ (L : Int)) (I : pr_I B S S) (hB : B + 2000000 < 2000000000)
    (kk : ∀ S2, pr_I (B + 2000000) S2 S2 → am_V p l e R s m args below meth c Q G (fun q => s.heap.size ≤ q) s.heap 4 kc ks 683 [(0, am_R 999), (1, am_R 0), (2, am_R 74), (3, am_I i)] [] S2) : am_V p l e R s m args below meth c Q G (fun q => s.heap.size ≤ q) s.heap 4 kc ks 211 [(0, am_R 999), (1, am_R 0), (2, am_R 74), (3, am_I i)] [] S := by
  subst hR
  obtain ⟨x, S1, g1, S2, g2, I2⟩ := pr_one I (c := sf_X9_then (xs (i + 1).toNat).toInt (xs (i + 2).toNat).toInt (xs (i + 3).toNat).toInt) (r := sf_X10_then (xs (i + 1).toNat).toInt (xs (i + 2).toNat).toInt (xs (i + 3).toNat).toInt) (fun Sr h => pr_pub_then h hB (xs (i + 1).toNat).toInt (xs (i + 2).toNat).toInt (xs (i + 3).toNat).toInt) (fun S0 S h => pr_kf_X9_then _ _ _ S0 S h) (fun S0 S h => pr_kf_X10_then _ _ _ S0 S h)
  refine av_aload_n (pc := 211) (j := 1) C dL_law_211 rfl rfl ?_
  refine av_arg (pc := 212) (w := 1) (k0 := 0) (k3 := 3) (j := 1) C hX hbl hG hL (by omega) hi rfl rfl dL_law_212 dL_law_213 (Or.inl ⟨dL_law_214, rfl⟩) dL_law_215 dL_law_216 ?_
  refine av_arg (pc := 217) (w := 1) (k0 := 0) (k3 := 3) (j := 2) C hX hbl hG hL (by omega) hi rfl rfl dL_law_217 dL_law_218 (Or.inl ⟨dL_law_219, rfl⟩) dL_law_220 dL_law_221 ?_
  refine av_arg (pc := 222) (w := 1) (k0 := 0) (k3 := 3) (j := 3) C hX hbl hG hL (by omega) hi rfl rfl dL_law_222 dL_law_223 (Or.inl ⟨dL_law_224, rfl⟩) dL_law_225 dL_law_226 ?_
  refine av_callV (pc := 227) (as := [am_I (xs (i + 1).toNat).toInt, am_I (xs (i + 2).toNat).toInt, am_I (xs (i + 3).toNat).toInt]) (rest := []) C (ct_X9_then l G (xs (i + 1).toNat).toInt (xs (i + 2).toNat).toInt (xs (i + 3).toNat).toInt S x S1 g1) ym_X9_then si_L_27 im_X9_then se_X9_then sk_0 rfl ⟨Nat.le_of_ble_eq_true rfl, Nat.le_of_ble_eq_true rfl⟩ rfl rfl (Nat.le_of_ble_eq_true rfl) dL_law_227 ⟨hcap.1, hcap.2⟩ (fun _ => ?_)
  refine av_aload_n (pc := 230) (j := 2) C dL_law_230 rfl rfl ?_
  refine av_arg (pc := 231) (w := 1) (k0 := 0) (k3 := 3) (j := 1) C hX hbl hG hL (by omega) hi rfl rfl dL_law_231 dL_law_232 (Or.inl ⟨dL_law_233, rfl⟩) dL_law_234 dL_law_235 ?_
  refine av_arg (pc := 236) (w := 1) (k0 := 0) (k3 := 3) (j := 2) C hX hbl hG hL (by omega) hi rfl rfl dL_law_236 dL_law_237 (Or.inl ⟨dL_law_238, rfl⟩) dL_law_239 dL_law_240 ?_
  refine av_arg (pc := 241) (w := 1) (k0 := 0) (k3 := 3) (j := 3) C hX hbl hG hL (by omega) hi rfl rfl dL_law_241 dL_law_242 (Or.inl ⟨dL_law_243, rfl⟩) dL_law_244 dL_law_245 ?_
  refine av_callV (pc := 246) (as := [am_I (xs (i + 1).toNat).toInt, am_I (xs (i + 2).toNat).toInt, am_I (xs (i + 3).toNat).toInt]) (rest := [am_I x]) C (ct_X10_then l G (xs (i + 1).toNat).toInt (xs (i + 2).toNat).toInt (xs (i + 3).toNat).toInt S1 x S2 g2) ym_X10_then si_L_31 im_X10_then se_X10_then sk_74 rfl ⟨Nat.le_of_ble_eq_true rfl, Nat.le_of_ble_eq_true rfl⟩ rfl rfl (Nat.le_of_ble_eq_true rfl) dL_law_246 ⟨hcap.1, hcap.2⟩ (fun _ => ?_)
  refine av_icmp_eq (pc := 249) (tgt := 683) C dL_law_249 (by decide) (fun _ => ?_) (fun h => absurd rfl h)
  exact kk S2 I2
set_option maxRecDepth 100000 in
theorem si_L_32 : Cond.methodLink "JobLoopLaw" 32 yX9_thenable ∈ am_T := am_mem 416 (by decide +kernel) (by decide +kernel)
set_option maxRecDepth 100000 in
theorem im_X9_thenable : Cond.instanceMethod yX9_thenable ∈ am_T := am_mem 417 (by decide +kernel) (by decide +kernel)
set_option maxRecDepth 100000 in
theorem se_X9_thenable : Cond.selects yX9_thenable.cls yX9_thenable yX9_thenable ∈ am_T := am_mem 418 (by decide +kernel) (by decide +kernel)
set_option maxRecDepth 100000 in
theorem si_L_36 : Cond.methodLink "JobLoopLaw" 36 yX10_thenable ∈ am_T := am_mem 1051 (by decide +kernel) (by decide +kernel)
set_option maxRecDepth 100000 in
theorem im_X10_thenable : Cond.instanceMethod yX10_thenable ∈ am_T := am_mem 1052 (by decide +kernel) (by decide +kernel)
set_option maxRecDepth 100000 in
theorem se_X10_thenable : Cond.selects yX10_thenable.cls yX10_thenable yX10_thenable ∈ am_T := am_mem 1053 (by decide +kernel) (by decide +kernel)
set_option maxRecDepth 100000 in
set_option maxHeartbeats 4000000 in
theorem lw_c4 {p : Program} {l : Launch} {e : Env} {R : Room} {s : State} {m : MethodId} {args : Array Value} {below : List Frame} {meth : Method} {c : Code} {Q : State → Prop} {G : am_G} {kc ks : Nat} {S : am_S} {b L : Nat} {xs : Nat → Int32} (C : am_C p s m args c cL_law 4 "JobLoopLaw" G) (hX : va_X b L xs s s.heap) (hbl : b < s.heap.size) (hG : G.1 999 = b) (hL : L ≤ 448) (hR : R = room_1) (hcap : kc ≤ R.cells ∧ ks ≤ R.slots) {i B : Int} (hi : 0 ≤ i ∧ i + 7 ≤ (L : Int)) (I : pr_I B S S) (hB : B + 2000000 < 2000000000)
    (kk : ∀ S2, pr_I (B + 2000000) S2 S2 → am_V p l e R s m args below meth c Q G (fun q => s.heap.size ≤ q) s.heap 4 kc ks 683 [(0, am_R 999), (1, am_R 0), (2, am_R 74), (3, am_I i)] [] S2) : am_V p l e R s m args below meth c Q G (fun q => s.heap.size ≤ q) s.heap 4 kc ks 254 [(0, am_R 999), (1, am_R 0), (2, am_R 74), (3, am_I i)] [] S := by
  subst hR
  obtain ⟨x, S1, g1, S2, g2, I2⟩ := pr_one I (c := sf_X9_thenable (xs (i + 1).toNat).toInt (xs (i + 2).toNat).toInt (xs (i + 3).toNat).toInt (xs (i + 4).toNat).toInt (xs (i + 5).toNat).toInt (xs (i + 6).toNat).toInt) (r := sf_X10_thenable (xs (i + 1).toNat).toInt (xs (i + 2).toNat).toInt (xs (i + 3).toNat).toInt (xs (i + 4).toNat).toInt (xs (i + 5).toNat).toInt (xs (i + 6).toNat).toInt) (fun Sr h => pr_pub_thenable h hB (xs (i + 1).toNat).toInt (xs (i + 2).toNat).toInt (xs (i + 3).toNat).toInt (lw_r _) (xs (i + 5).toNat).toInt (lw_r _)) (fun S0 S h => pr_kf_X9_thenable _ _ _ _ _ _ S0 S h) (fun S0 S h => pr_kf_X10_thenable _ _ _ _ _ _ S0 S h)
  refine av_aload_n (pc := 254) (j := 1) C dL_law_254 rfl rfl ?_
  refine av_arg (pc := 255) (w := 1) (k0 := 0) (k3 := 3) (j := 1) C hX hbl hG hL (by omega) hi rfl rfl dL_law_255 dL_law_256 (Or.inl ⟨dL_law_257, rfl⟩) dL_law_258 dL_law_259 ?_
  refine av_arg (pc := 260) (w := 1) (k0 := 0) (k3 := 3) (j := 2) C hX hbl hG hL (by omega) hi rfl rfl dL_law_260 dL_law_261 (Or.inl ⟨dL_law_262, rfl⟩) dL_law_263 dL_law_264 ?_
  refine av_arg (pc := 265) (w := 1) (k0 := 0) (k3 := 3) (j := 3) C hX hbl hG hL (by omega) hi rfl rfl dL_law_265 dL_law_266 (Or.inl ⟨dL_law_267, rfl⟩) dL_law_268 dL_law_269 ?_
  refine av_arg (pc := 270) (w := 1) (k0 := 0) (k3 := 3) (j := 4) C hX hbl hG hL (by omega) hi rfl rfl dL_law_270 dL_law_271 (Or.inl ⟨dL_law_272, rfl⟩) dL_law_273 dL_law_274 ?_
  refine av_arg (pc := 275) (w := 1) (k0 := 0) (k3 := 3) (j := 5) C hX hbl hG hL (by omega) hi rfl rfl dL_law_275 dL_law_276 (Or.inl ⟨dL_law_277, rfl⟩) dL_law_278 dL_law_279 ?_
  refine av_arg (pc := 280) (w := 2) (k0 := 0) (k3 := 3) (j := 6) C hX hbl hG hL (by omega) hi rfl rfl dL_law_280 dL_law_281 (Or.inr ⟨dL_law_282, rfl⟩) dL_law_284 dL_law_285 ?_
  refine av_callV (pc := 286) (as := [am_I (xs (i + 1).toNat).toInt, am_I (xs (i + 2).toNat).toInt, am_I (xs (i + 3).toNat).toInt, am_I (xs (i + 4).toNat).toInt, am_I (xs (i + 5).toNat).toInt, am_I (xs (i + 6).toNat).toInt]) (rest := []) C (ct_X9_thenable l G (xs (i + 1).toNat).toInt (xs (i + 2).toNat).toInt (xs (i + 3).toNat).toInt (xs (i + 4).toNat).toInt (xs (i + 5).toNat).toInt (xs (i + 6).toNat).toInt S x S1 g1) ym_X9_thenable si_L_32 im_X9_thenable se_X9_thenable sk_0 rfl ⟨Nat.le_of_ble_eq_true rfl, Nat.le_of_ble_eq_true rfl⟩ rfl rfl (Nat.le_of_ble_eq_true rfl) dL_law_286 ⟨hcap.1, hcap.2⟩ (fun _ => ?_)
  refine av_aload_n (pc := 289) (j := 2) C dL_law_289 rfl rfl ?_
  refine av_arg (pc := 290) (w := 1) (k0 := 0) (k3 := 3) (j := 1) C hX hbl hG hL (by omega) hi rfl rfl dL_law_290 dL_law_291 (Or.inl ⟨dL_law_292, rfl⟩) dL_law_293 dL_law_294 ?_
  refine av_arg (pc := 295) (w := 1) (k0 := 0) (k3 := 3) (j := 2) C hX hbl hG hL (by omega) hi rfl rfl dL_law_295 dL_law_296 (Or.inl ⟨dL_law_297, rfl⟩) dL_law_298 dL_law_299 ?_
  refine av_arg (pc := 300) (w := 1) (k0 := 0) (k3 := 3) (j := 3) C hX hbl hG hL (by omega) hi rfl rfl dL_law_300 dL_law_301 (Or.inl ⟨dL_law_302, rfl⟩) dL_law_303 dL_law_304 ?_
  refine av_arg (pc := 305) (w := 1) (k0 := 0) (k3 := 3) (j := 4) C hX hbl hG hL (by omega) hi rfl rfl dL_law_305 dL_law_306 (Or.inl ⟨dL_law_307, rfl⟩) dL_law_308 dL_law_309 ?_
  refine av_arg (pc := 310) (w := 1) (k0 := 0) (k3 := 3) (j := 5) C hX hbl hG hL (by omega) hi rfl rfl dL_law_310 dL_law_311 (Or.inl ⟨dL_law_312, rfl⟩) dL_law_313 dL_law_314 ?_
  refine av_arg (pc := 315) (w := 2) (k0 := 0) (k3 := 3) (j := 6) C hX hbl hG hL (by omega) hi rfl rfl dL_law_315 dL_law_316 (Or.inr ⟨dL_law_317, rfl⟩) dL_law_319 dL_law_320 ?_
  refine av_callV (pc := 321) (as := [am_I (xs (i + 1).toNat).toInt, am_I (xs (i + 2).toNat).toInt, am_I (xs (i + 3).toNat).toInt, am_I (xs (i + 4).toNat).toInt, am_I (xs (i + 5).toNat).toInt, am_I (xs (i + 6).toNat).toInt]) (rest := [am_I x]) C (ct_X10_thenable l G (xs (i + 1).toNat).toInt (xs (i + 2).toNat).toInt (xs (i + 3).toNat).toInt (xs (i + 4).toNat).toInt (xs (i + 5).toNat).toInt (xs (i + 6).toNat).toInt S1 x S2 g2) ym_X10_thenable si_L_36 im_X10_thenable se_X10_thenable sk_74 rfl ⟨Nat.le_of_ble_eq_true rfl, Nat.le_of_ble_eq_true rfl⟩ rfl rfl (Nat.le_of_ble_eq_true rfl) dL_law_321 ⟨hcap.1, hcap.2⟩ (fun _ => ?_)
  refine av_icmp_eq (pc := 324) (tgt := 683) C dL_law_324 (by decide) (fun _ => ?_) (fun h => absurd rfl h)
  exact kk S2 I2
set_option maxRecDepth 100000 in
theorem si_L_37 : Cond.methodLink "JobLoopLaw" 37 yX9_step ∈ am_T := am_mem 425 (by decide +kernel) (by decide +kernel)
set_option maxRecDepth 100000 in
theorem im_X9_step : Cond.instanceMethod yX9_step ∈ am_T := am_mem 426 (by decide +kernel) (by decide +kernel)
set_option maxRecDepth 100000 in
theorem se_X9_step : Cond.selects yX9_step.cls yX9_step yX9_step ∈ am_T := am_mem 427 (by decide +kernel) (by decide +kernel)
set_option maxRecDepth 100000 in
theorem si_L_41 : Cond.methodLink "JobLoopLaw" 41 yX10_step ∈ am_T := am_mem 1055 (by decide +kernel) (by decide +kernel)
set_option maxRecDepth 100000 in
theorem im_X10_step : Cond.instanceMethod yX10_step ∈ am_T := am_mem 1056 (by decide +kernel) (by decide +kernel)
set_option maxRecDepth 100000 in
theorem se_X10_step : Cond.selects yX10_step.cls yX10_step yX10_step ∈ am_T := am_mem 1057 (by decide +kernel) (by decide +kernel)
set_option maxRecDepth 100000 in
set_option maxHeartbeats 4000000 in
theorem lw_c5 {p : Program} {l : Launch} {e : Env} {R : Room} {s : State} {m : MethodId} {args : Array Value} {below : List Frame} {meth : Method} {c : Code} {Q : State → Prop} {G : am_G} {kc ks : Nat} {S : am_S} {b L : Nat} {xs : Nat → Int32} (C : am_C p s m args c cL_law 4 "JobLoopLaw" G) (hX : va_X b L xs s s.heap) (hbl : b < s.heap.size) (hG : G.1 999 = b) (hL : L ≤ 448) (hR : R = room_1) (hcap : kc ≤ R.cells ∧ ks ≤ R.slots) {i B : Int} (hi : 0 ≤ i ∧ i + 7 ≤ (L : Int)) (I : pr_I B S S) (hB : B + 2000000 < 2000000000)
    (kk : ∀ S2, pr_I (B + 2000000) S2 S2 → am_V p l e R s m args below meth c Q G (fun q => s.heap.size ≤ q) s.heap 4 kc ks 683 [(0, am_R 999), (1, am_R 0), (2, am_R 74), (3, am_I i)] [] S2) : am_V p l e R s m args below meth c Q G (fun q => s.heap.size ≤ q) s.heap 4 kc ks 329 [(0, am_R 999), (1, am_R 0), (2, am_R 74), (3, am_I i)] [] S := by
  subst hR
  obtain ⟨x, S1, g1, S2, g2, I2⟩ := pr_one I (c := sf_X9_step (xs (i + 1).toNat).toInt (xs (i + 2).toNat).toInt (xs (i + 3).toNat).toInt (xs (i + 4).toNat).toInt) (r := sf_X10_step (xs (i + 1).toNat).toInt (xs (i + 2).toNat).toInt (xs (i + 3).toNat).toInt (xs (i + 4).toNat).toInt) (fun Sr h => pr_pub_step h hB (xs (i + 1).toNat).toInt (xs (i + 2).toNat).toInt (xs (i + 3).toNat).toInt (lw_r _)) (fun S0 S h => pr_kf_X9_step _ _ _ _ S0 S h) (fun S0 S h => pr_kf_X10_step _ _ _ _ S0 S h)
  refine av_aload_n (pc := 329) (j := 1) C dL_law_329 rfl rfl ?_
  refine av_arg (pc := 330) (w := 1) (k0 := 0) (k3 := 3) (j := 1) C hX hbl hG hL (by omega) hi rfl rfl dL_law_330 dL_law_331 (Or.inl ⟨dL_law_332, rfl⟩) dL_law_333 dL_law_334 ?_
  refine av_arg (pc := 335) (w := 1) (k0 := 0) (k3 := 3) (j := 2) C hX hbl hG hL (by omega) hi rfl rfl dL_law_335 dL_law_336 (Or.inl ⟨dL_law_337, rfl⟩) dL_law_338 dL_law_339 ?_
  refine av_arg (pc := 340) (w := 1) (k0 := 0) (k3 := 3) (j := 3) C hX hbl hG hL (by omega) hi rfl rfl dL_law_340 dL_law_341 (Or.inl ⟨dL_law_342, rfl⟩) dL_law_343 dL_law_344 ?_
  refine av_arg (pc := 345) (w := 1) (k0 := 0) (k3 := 3) (j := 4) C hX hbl hG hL (by omega) hi rfl rfl dL_law_345 dL_law_346 (Or.inl ⟨dL_law_347, rfl⟩) dL_law_348 dL_law_349 ?_
  refine av_callV (pc := 350) (as := [am_I (xs (i + 1).toNat).toInt, am_I (xs (i + 2).toNat).toInt, am_I (xs (i + 3).toNat).toInt, am_I (xs (i + 4).toNat).toInt]) (rest := []) C (ct_X9_step l G (xs (i + 1).toNat).toInt (xs (i + 2).toNat).toInt (xs (i + 3).toNat).toInt (xs (i + 4).toNat).toInt S x S1 g1) ym_X9_step si_L_37 im_X9_step se_X9_step sk_0 rfl ⟨Nat.le_of_ble_eq_true rfl, Nat.le_of_ble_eq_true rfl⟩ rfl rfl (Nat.le_of_ble_eq_true rfl) dL_law_350 ⟨hcap.1, hcap.2⟩ (fun _ => ?_)
  refine av_aload_n (pc := 353) (j := 2) C dL_law_353 rfl rfl ?_
  refine av_arg (pc := 354) (w := 1) (k0 := 0) (k3 := 3) (j := 1) C hX hbl hG hL (by omega) hi rfl rfl dL_law_354 dL_law_355 (Or.inl ⟨dL_law_356, rfl⟩) dL_law_357 dL_law_358 ?_
  refine av_arg (pc := 359) (w := 1) (k0 := 0) (k3 := 3) (j := 2) C hX hbl hG hL (by omega) hi rfl rfl dL_law_359 dL_law_360 (Or.inl ⟨dL_law_361, rfl⟩) dL_law_362 dL_law_363 ?_
  refine av_arg (pc := 364) (w := 1) (k0 := 0) (k3 := 3) (j := 3) C hX hbl hG hL (by omega) hi rfl rfl dL_law_364 dL_law_365 (Or.inl ⟨dL_law_366, rfl⟩) dL_law_367 dL_law_368 ?_
  refine av_arg (pc := 369) (w := 1) (k0 := 0) (k3 := 3) (j := 4) C hX hbl hG hL (by omega) hi rfl rfl dL_law_369 dL_law_370 (Or.inl ⟨dL_law_371, rfl⟩) dL_law_372 dL_law_373 ?_
  refine av_callV (pc := 374) (as := [am_I (xs (i + 1).toNat).toInt, am_I (xs (i + 2).toNat).toInt, am_I (xs (i + 3).toNat).toInt, am_I (xs (i + 4).toNat).toInt]) (rest := [am_I x]) C (ct_X10_step l G (xs (i + 1).toNat).toInt (xs (i + 2).toNat).toInt (xs (i + 3).toNat).toInt (xs (i + 4).toNat).toInt S1 x S2 g2) ym_X10_step si_L_41 im_X10_step se_X10_step sk_74 rfl ⟨Nat.le_of_ble_eq_true rfl, Nat.le_of_ble_eq_true rfl⟩ rfl rfl (Nat.le_of_ble_eq_true rfl) dL_law_374 ⟨hcap.1, hcap.2⟩ (fun _ => ?_)
  refine av_icmp_eq (pc := 377) (tgt := 683) C dL_law_377 (by decide) (fun _ => ?_) (fun h => absurd rfl h)
  exact kk S2 I2
set_option maxRecDepth 100000 in
theorem si_L_42 : Cond.methodLink "JobLoopLaw" 42 yX9_empty ∈ am_T := am_mem 445 (by decide +kernel) (by decide +kernel)
set_option maxRecDepth 100000 in
theorem im_X9_empty : Cond.instanceMethod yX9_empty ∈ am_T := am_mem 446 (by decide +kernel) (by decide +kernel)
set_option maxRecDepth 100000 in
theorem se_X9_empty : Cond.selects yX9_empty.cls yX9_empty yX9_empty ∈ am_T := am_mem 447 (by decide +kernel) (by decide +kernel)
set_option maxRecDepth 100000 in
theorem si_L_46 : Cond.methodLink "JobLoopLaw" 46 yX10_empty ∈ am_T := am_mem 1059 (by decide +kernel) (by decide +kernel)
set_option maxRecDepth 100000 in
theorem im_X10_empty : Cond.instanceMethod yX10_empty ∈ am_T := am_mem 1060 (by decide +kernel) (by decide +kernel)
set_option maxRecDepth 100000 in
theorem se_X10_empty : Cond.selects yX10_empty.cls yX10_empty yX10_empty ∈ am_T := am_mem 1061 (by decide +kernel) (by decide +kernel)
set_option maxRecDepth 100000 in
set_option maxHeartbeats 4000000 in
theorem lw_c6 {p : Program} {l : Launch} {e : Env} {R : Room} {s : State} {m : MethodId} {args : Array Value} {below : List Frame} {meth : Method} {c : Code} {Q : State → Prop} {G : am_G} {kc ks : Nat} {S : am_S} {b L : Nat} {xs : Nat → Int32} (C : am_C p s m args c cL_law 4 "JobLoopLaw" G) (hX : va_X b L xs s s.heap) (hbl : b < s.heap.size) (hG : G.1 999 = b) (hL : L ≤ 448) (hR : R = room_1) (hcap : kc ≤ R.cells ∧ ks ≤ R.slots) {i B : Int} (hi : 0 ≤ i ∧ i + 7 ≤ (L : Int)) (I : pr_I B S S) (hB : B + 2000000 < 2000000000)
    (kk : ∀ S2, pr_I (B + 2000000) S2 S2 → am_V p l e R s m args below meth c Q G (fun q => s.heap.size ≤ q) s.heap 4 kc ks 683 [(0, am_R 999), (1, am_R 0), (2, am_R 74), (3, am_I i)] [] S2) : am_V p l e R s m args below meth c Q G (fun q => s.heap.size ≤ q) s.heap 4 kc ks 382 [(0, am_R 999), (1, am_R 0), (2, am_R 74), (3, am_I i)] [] S := by
  subst hR
  obtain ⟨x, S1, g1, S2, g2, I2⟩ := pr_one I (c := sf_X9_empty (xs (i + 1).toNat).toInt) (r := sf_X10_empty (xs (i + 1).toNat).toInt) (fun Sr h => pr_pub_empty h hB (xs (i + 1).toNat).toInt) (fun S0 S h => pr_kf_X9_empty _ S0 S h) (fun S0 S h => pr_kf_X10_empty _ S0 S h)
  refine av_aload_n (pc := 382) (j := 1) C dL_law_382 rfl rfl ?_
  refine av_arg (pc := 383) (w := 1) (k0 := 0) (k3 := 3) (j := 1) C hX hbl hG hL (by omega) hi rfl rfl dL_law_383 dL_law_384 (Or.inl ⟨dL_law_385, rfl⟩) dL_law_386 dL_law_387 ?_
  refine av_callV (pc := 388) (as := [am_I (xs (i + 1).toNat).toInt]) (rest := []) C (ct_X9_empty l G (xs (i + 1).toNat).toInt S x S1 g1) ym_X9_empty si_L_42 im_X9_empty se_X9_empty sk_0 rfl ⟨Nat.le_of_ble_eq_true rfl, Nat.le_of_ble_eq_true rfl⟩ rfl rfl (Nat.le_of_ble_eq_true rfl) dL_law_388 ⟨hcap.1, hcap.2⟩ (fun _ => ?_)
  refine av_aload_n (pc := 391) (j := 2) C dL_law_391 rfl rfl ?_
  refine av_arg (pc := 392) (w := 1) (k0 := 0) (k3 := 3) (j := 1) C hX hbl hG hL (by omega) hi rfl rfl dL_law_392 dL_law_393 (Or.inl ⟨dL_law_394, rfl⟩) dL_law_395 dL_law_396 ?_
  refine av_callV (pc := 397) (as := [am_I (xs (i + 1).toNat).toInt]) (rest := [am_I x]) C (ct_X10_empty l G (xs (i + 1).toNat).toInt S1 x S2 g2) ym_X10_empty si_L_46 im_X10_empty se_X10_empty sk_74 rfl ⟨Nat.le_of_ble_eq_true rfl, Nat.le_of_ble_eq_true rfl⟩ rfl rfl (Nat.le_of_ble_eq_true rfl) dL_law_397 ⟨hcap.1, hcap.2⟩ (fun _ => ?_)
  refine av_icmp_eq (pc := 400) (tgt := 683) C dL_law_400 (by decide) (fun _ => ?_) (fun h => absurd rfl h)
  exact kk S2 I2
set_option maxRecDepth 100000 in
theorem si_L_47 : Cond.methodLink "JobLoopLaw" 47 yX9_start ∈ am_T := am_mem 453 (by decide +kernel) (by decide +kernel)
set_option maxRecDepth 100000 in
theorem im_X9_start : Cond.instanceMethod yX9_start ∈ am_T := am_mem 454 (by decide +kernel) (by decide +kernel)
set_option maxRecDepth 100000 in
theorem se_X9_start : Cond.selects yX9_start.cls yX9_start yX9_start ∈ am_T := am_mem 455 (by decide +kernel) (by decide +kernel)
set_option maxRecDepth 100000 in
theorem si_L_50 : Cond.methodLink "JobLoopLaw" 50 yX10_start ∈ am_T := am_mem 1063 (by decide +kernel) (by decide +kernel)
set_option maxRecDepth 100000 in
theorem im_X10_start : Cond.instanceMethod yX10_start ∈ am_T := am_mem 1064 (by decide +kernel) (by decide +kernel)
set_option maxRecDepth 100000 in
theorem se_X10_start : Cond.selects yX10_start.cls yX10_start yX10_start ∈ am_T := am_mem 1065 (by decide +kernel) (by decide +kernel)
set_option maxRecDepth 100000 in
set_option maxHeartbeats 4000000 in
theorem lw_c7 {p : Program} {l : Launch} {e : Env} {R : Room} {s : State} {m : MethodId} {args : Array Value} {below : List Frame} {meth : Method} {c : Code} {Q : State → Prop} {G : am_G} {kc ks : Nat} {S : am_S} {b L : Nat} {xs : Nat → Int32} (C : am_C p s m args c cL_law 4 "JobLoopLaw" G) (hX : va_X b L xs s s.heap) (hbl : b < s.heap.size) (hG : G.1 999 = b) (hL : L ≤ 448) (hR : R = room_1) (hcap : kc ≤ R.cells ∧ ks ≤ R.slots) {i B : Int} (hi : 0 ≤ i ∧ i + 7 ≤ (L : Int)) (I : pr_I B S S) (hB : B + 2000000 < 2000000000)
    (kk : ∀ S2, pr_I (B + 2000000) S2 S2 → am_V p l e R s m args below meth c Q G (fun q => s.heap.size ≤ q) s.heap 4 kc ks 683 [(0, am_R 999), (1, am_R 0), (2, am_R 74), (3, am_I i)] [] S2) : am_V p l e R s m args below meth c Q G (fun q => s.heap.size ≤ q) s.heap 4 kc ks 405 [(0, am_R 999), (1, am_R 0), (2, am_R 74), (3, am_I i)] [] S := by
  subst hR
  obtain ⟨x, S1, g1, S2, g2, I2⟩ := pr_one I (c := sf_X9_start (xs (i + 1).toNat).toInt (xs (i + 2).toNat).toInt (xs (i + 3).toNat).toInt) (r := sf_X10_start (xs (i + 1).toNat).toInt (xs (i + 2).toNat).toInt (xs (i + 3).toNat).toInt) (fun Sr h => pr_pub_start h hB (xs (i + 1).toNat).toInt (xs (i + 2).toNat).toInt (lw_r _)) (fun S0 S h => pr_kf_X9_start _ _ _ S0 S h) (fun S0 S h => pr_kf_X10_start _ _ _ S0 S h)
  refine av_aload_n (pc := 405) (j := 1) C dL_law_405 rfl rfl ?_
  refine av_arg (pc := 406) (w := 1) (k0 := 0) (k3 := 3) (j := 1) C hX hbl hG hL (by omega) hi rfl rfl dL_law_406 dL_law_407 (Or.inl ⟨dL_law_408, rfl⟩) dL_law_409 dL_law_410 ?_
  refine av_arg (pc := 411) (w := 1) (k0 := 0) (k3 := 3) (j := 2) C hX hbl hG hL (by omega) hi rfl rfl dL_law_411 dL_law_412 (Or.inl ⟨dL_law_413, rfl⟩) dL_law_414 dL_law_415 ?_
  refine av_arg (pc := 416) (w := 1) (k0 := 0) (k3 := 3) (j := 3) C hX hbl hG hL (by omega) hi rfl rfl dL_law_416 dL_law_417 (Or.inl ⟨dL_law_418, rfl⟩) dL_law_419 dL_law_420 ?_
  refine av_callV (pc := 421) (as := [am_I (xs (i + 1).toNat).toInt, am_I (xs (i + 2).toNat).toInt, am_I (xs (i + 3).toNat).toInt]) (rest := []) C (ct_X9_start l G (xs (i + 1).toNat).toInt (xs (i + 2).toNat).toInt (xs (i + 3).toNat).toInt S x S1 g1) ym_X9_start si_L_47 im_X9_start se_X9_start sk_0 rfl ⟨Nat.le_of_ble_eq_true rfl, Nat.le_of_ble_eq_true rfl⟩ rfl rfl (Nat.le_of_ble_eq_true rfl) dL_law_421 ⟨hcap.1, hcap.2⟩ (fun _ => ?_)
  refine av_aload_n (pc := 424) (j := 2) C dL_law_424 rfl rfl ?_
  refine av_arg (pc := 425) (w := 1) (k0 := 0) (k3 := 3) (j := 1) C hX hbl hG hL (by omega) hi rfl rfl dL_law_425 dL_law_426 (Or.inl ⟨dL_law_427, rfl⟩) dL_law_428 dL_law_429 ?_
  refine av_arg (pc := 430) (w := 1) (k0 := 0) (k3 := 3) (j := 2) C hX hbl hG hL (by omega) hi rfl rfl dL_law_430 dL_law_431 (Or.inl ⟨dL_law_432, rfl⟩) dL_law_433 dL_law_434 ?_
  refine av_arg (pc := 435) (w := 1) (k0 := 0) (k3 := 3) (j := 3) C hX hbl hG hL (by omega) hi rfl rfl dL_law_435 dL_law_436 (Or.inl ⟨dL_law_437, rfl⟩) dL_law_438 dL_law_439 ?_
  refine av_callV (pc := 440) (as := [am_I (xs (i + 1).toNat).toInt, am_I (xs (i + 2).toNat).toInt, am_I (xs (i + 3).toNat).toInt]) (rest := [am_I x]) C (ct_X10_start l G (xs (i + 1).toNat).toInt (xs (i + 2).toNat).toInt (xs (i + 3).toNat).toInt S1 x S2 g2) ym_X10_start si_L_50 im_X10_start se_X10_start sk_74 rfl ⟨Nat.le_of_ble_eq_true rfl, Nat.le_of_ble_eq_true rfl⟩ rfl rfl (Nat.le_of_ble_eq_true rfl) dL_law_440 ⟨hcap.1, hcap.2⟩ (fun _ => ?_)
  refine av_icmp_eq (pc := 443) (tgt := 683) C dL_law_443 (by decide) (fun _ => ?_) (fun h => absurd rfl h)
  exact kk S2 I2
set_option maxRecDepth 100000 in
theorem si_L_51 : Cond.methodLink "JobLoopLaw" 51 yX9_later ∈ am_T := am_mem 556 (by decide +kernel) (by decide +kernel)
set_option maxRecDepth 100000 in
theorem im_X9_later : Cond.instanceMethod yX9_later ∈ am_T := am_mem 557 (by decide +kernel) (by decide +kernel)
set_option maxRecDepth 100000 in
theorem se_X9_later : Cond.selects yX9_later.cls yX9_later yX9_later ∈ am_T := am_mem 558 (by decide +kernel) (by decide +kernel)
set_option maxRecDepth 100000 in
theorem si_L_54 : Cond.methodLink "JobLoopLaw" 54 yX10_later ∈ am_T := am_mem 1115 (by decide +kernel) (by decide +kernel)
set_option maxRecDepth 100000 in
theorem im_X10_later : Cond.instanceMethod yX10_later ∈ am_T := am_mem 1116 (by decide +kernel) (by decide +kernel)
set_option maxRecDepth 100000 in
theorem se_X10_later : Cond.selects yX10_later.cls yX10_later yX10_later ∈ am_T := am_mem 1117 (by decide +kernel) (by decide +kernel)
set_option maxRecDepth 100000 in
set_option maxHeartbeats 4000000 in
theorem lw_c8 {p : Program} {l : Launch} {e : Env} {R : Room} {s : State} {m : MethodId} {args : Array Value} {below : List Frame} {meth : Method} {c : Code} {Q : State → Prop} {G : am_G} {kc ks : Nat} {S : am_S} {b L : Nat} {xs : Nat → Int32} (C : am_C p s m args c cL_law 4 "JobLoopLaw" G) (hX : va_X b L xs s s.heap) (hbl : b < s.heap.size) (hG : G.1 999 = b) (hL : L ≤ 448) (hR : R = room_1) (hcap : kc ≤ R.cells ∧ ks ≤ R.slots) {i B : Int} (hi : 0 ≤ i ∧ i + 7 ≤ (L : Int)) (I : pr_I B S S) (hB : B + 2000000 < 2000000000)
    (kk : ∀ S2, pr_I (B + 2000000) S2 S2 → am_V p l e R s m args below meth c Q G (fun q => s.heap.size ≤ q) s.heap 4 kc ks 683 [(0, am_R 999), (1, am_R 0), (2, am_R 74), (3, am_I i)] [] S2) : am_V p l e R s m args below meth c Q G (fun q => s.heap.size ≤ q) s.heap 4 kc ks 448 [(0, am_R 999), (1, am_R 0), (2, am_R 74), (3, am_I i)] [] S := by
  subst hR
  obtain ⟨x, S1, g1, S2, g2, I2⟩ := pr_one I (c := sf_X9_later (xs (i + 1).toNat).toInt (xs (i + 2).toNat).toInt (xs (i + 3).toNat).toInt (xs (i + 4).toNat).toInt) (r := sf_X10_later (xs (i + 1).toNat).toInt (xs (i + 2).toNat).toInt (xs (i + 3).toNat).toInt (xs (i + 4).toNat).toInt) (fun Sr h => pr_pub_later h hB (xs (i + 1).toNat).toInt (xs (i + 2).toNat).toInt (lw_r _) (xs (i + 4).toNat).toInt) (fun S0 S h => pr_kf_X9_later _ _ _ _ S0 S h) (fun S0 S h => pr_kf_X10_later _ _ _ _ S0 S h)
  refine av_aload_n (pc := 448) (j := 1) C dL_law_448 rfl rfl ?_
  refine av_arg (pc := 449) (w := 1) (k0 := 0) (k3 := 3) (j := 1) C hX hbl hG hL (by omega) hi rfl rfl dL_law_449 dL_law_450 (Or.inl ⟨dL_law_451, rfl⟩) dL_law_452 dL_law_453 ?_
  refine av_arg (pc := 454) (w := 1) (k0 := 0) (k3 := 3) (j := 2) C hX hbl hG hL (by omega) hi rfl rfl dL_law_454 dL_law_455 (Or.inl ⟨dL_law_456, rfl⟩) dL_law_457 dL_law_458 ?_
  refine av_arg (pc := 459) (w := 1) (k0 := 0) (k3 := 3) (j := 3) C hX hbl hG hL (by omega) hi rfl rfl dL_law_459 dL_law_460 (Or.inl ⟨dL_law_461, rfl⟩) dL_law_462 dL_law_463 ?_
  refine av_arg (pc := 464) (w := 1) (k0 := 0) (k3 := 3) (j := 4) C hX hbl hG hL (by omega) hi rfl rfl dL_law_464 dL_law_465 (Or.inl ⟨dL_law_466, rfl⟩) dL_law_467 dL_law_468 ?_
  refine av_callV (pc := 469) (as := [am_I (xs (i + 1).toNat).toInt, am_I (xs (i + 2).toNat).toInt, am_I (xs (i + 3).toNat).toInt, am_I (xs (i + 4).toNat).toInt]) (rest := []) C (ct_X9_later l G (xs (i + 1).toNat).toInt (xs (i + 2).toNat).toInt (xs (i + 3).toNat).toInt (xs (i + 4).toNat).toInt S x S1 g1) ym_X9_later si_L_51 im_X9_later se_X9_later sk_0 rfl ⟨Nat.le_of_ble_eq_true rfl, Nat.le_of_ble_eq_true rfl⟩ rfl rfl (Nat.le_of_ble_eq_true rfl) dL_law_469 ⟨hcap.1, hcap.2⟩ (fun _ => ?_)
  refine av_aload_n (pc := 472) (j := 2) C dL_law_472 rfl rfl ?_
  refine av_arg (pc := 473) (w := 1) (k0 := 0) (k3 := 3) (j := 1) C hX hbl hG hL (by omega) hi rfl rfl dL_law_473 dL_law_474 (Or.inl ⟨dL_law_475, rfl⟩) dL_law_476 dL_law_477 ?_
  refine av_arg (pc := 478) (w := 1) (k0 := 0) (k3 := 3) (j := 2) C hX hbl hG hL (by omega) hi rfl rfl dL_law_478 dL_law_479 (Or.inl ⟨dL_law_480, rfl⟩) dL_law_481 dL_law_482 ?_
  refine av_arg (pc := 483) (w := 1) (k0 := 0) (k3 := 3) (j := 3) C hX hbl hG hL (by omega) hi rfl rfl dL_law_483 dL_law_484 (Or.inl ⟨dL_law_485, rfl⟩) dL_law_486 dL_law_487 ?_
  refine av_arg (pc := 488) (w := 1) (k0 := 0) (k3 := 3) (j := 4) C hX hbl hG hL (by omega) hi rfl rfl dL_law_488 dL_law_489 (Or.inl ⟨dL_law_490, rfl⟩) dL_law_491 dL_law_492 ?_
  refine av_callV (pc := 493) (as := [am_I (xs (i + 1).toNat).toInt, am_I (xs (i + 2).toNat).toInt, am_I (xs (i + 3).toNat).toInt, am_I (xs (i + 4).toNat).toInt]) (rest := [am_I x]) C (ct_X10_later l G (xs (i + 1).toNat).toInt (xs (i + 2).toNat).toInt (xs (i + 3).toNat).toInt (xs (i + 4).toNat).toInt S1 x S2 g2) ym_X10_later si_L_54 im_X10_later se_X10_later sk_74 rfl ⟨Nat.le_of_ble_eq_true rfl, Nat.le_of_ble_eq_true rfl⟩ rfl rfl (Nat.le_of_ble_eq_true rfl) dL_law_493 ⟨hcap.1, hcap.2⟩ (fun _ => ?_)
  refine av_icmp_eq (pc := 496) (tgt := 683) C dL_law_496 (by decide) (fun _ => ?_) (fun h => absurd rfl h)
  exact kk S2 I2
set_option maxRecDepth 100000 in
theorem si_L_55 : Cond.methodLink "JobLoopLaw" 55 yX9_item ∈ am_T := am_mem 562 (by decide +kernel) (by decide +kernel)
set_option maxRecDepth 100000 in
theorem im_X9_item : Cond.instanceMethod yX9_item ∈ am_T := am_mem 563 (by decide +kernel) (by decide +kernel)
set_option maxRecDepth 100000 in
theorem se_X9_item : Cond.selects yX9_item.cls yX9_item yX9_item ∈ am_T := am_mem 564 (by decide +kernel) (by decide +kernel)
set_option maxRecDepth 100000 in
theorem si_L_59 : Cond.methodLink "JobLoopLaw" 59 yX10_item ∈ am_T := am_mem 1131 (by decide +kernel) (by decide +kernel)
set_option maxRecDepth 100000 in
theorem im_X10_item : Cond.instanceMethod yX10_item ∈ am_T := am_mem 1132 (by decide +kernel) (by decide +kernel)
set_option maxRecDepth 100000 in
theorem se_X10_item : Cond.selects yX10_item.cls yX10_item yX10_item ∈ am_T := am_mem 1133 (by decide +kernel) (by decide +kernel)
set_option maxRecDepth 100000 in
set_option maxHeartbeats 4000000 in
theorem lw_c9 {p : Program} {l : Launch} {e : Env} {R : Room} {s : State} {m : MethodId} {args : Array Value} {below : List Frame} {meth : Method} {c : Code} {Q : State → Prop} {G : am_G} {kc ks : Nat} {S : am_S} {b L : Nat} {xs : Nat → Int32} (C : am_C p s m args c cL_law 4 "JobLoopLaw" G) (hX : va_X b L xs s s.heap) (hbl : b < s.heap.size) (hG : G.1 999 = b) (hL : L ≤ 448) (hR : R = room_1) (hcap : kc ≤ R.cells ∧ ks ≤ R.slots) {i B : Int} (hi : 0 ≤ i ∧ i + 7 ≤ (L : Int)) (I : pr_I B S S) (hB : B + 2000000 < 2000000000)
    (kk : ∀ S2, pr_I (B + 2000000) S2 S2 → am_V p l e R s m args below meth c Q G (fun q => s.heap.size ≤ q) s.heap 4 kc ks 683 [(0, am_R 999), (1, am_R 0), (2, am_R 74), (3, am_I i)] [] S2) : am_V p l e R s m args below meth c Q G (fun q => s.heap.size ≤ q) s.heap 4 kc ks 501 [(0, am_R 999), (1, am_R 0), (2, am_R 74), (3, am_I i)] [] S := by
  subst hR
  obtain ⟨x, S1, g1, S2, g2, I2⟩ := pr_one I (c := sf_X9_item (xs (i + 1).toNat).toInt (xs (i + 2).toNat).toInt) (r := sf_X10_item (xs (i + 1).toNat).toInt (xs (i + 2).toNat).toInt) (fun Sr h => pr_pub_item h hB (xs (i + 1).toNat).toInt (lw_r _)) (fun S0 S h => pr_kf_X9_item _ _ S0 S h) (fun S0 S h => pr_kf_X10_item _ _ S0 S h)
  refine av_aload_n (pc := 501) (j := 1) C dL_law_501 rfl rfl ?_
  refine av_arg (pc := 502) (w := 1) (k0 := 0) (k3 := 3) (j := 1) C hX hbl hG hL (by omega) hi rfl rfl dL_law_502 dL_law_503 (Or.inl ⟨dL_law_504, rfl⟩) dL_law_505 dL_law_506 ?_
  refine av_arg (pc := 507) (w := 1) (k0 := 0) (k3 := 3) (j := 2) C hX hbl hG hL (by omega) hi rfl rfl dL_law_507 dL_law_508 (Or.inl ⟨dL_law_509, rfl⟩) dL_law_510 dL_law_511 ?_
  refine av_callV (pc := 512) (as := [am_I (xs (i + 1).toNat).toInt, am_I (xs (i + 2).toNat).toInt]) (rest := []) C (ct_X9_item l G (xs (i + 1).toNat).toInt (xs (i + 2).toNat).toInt S x S1 g1) ym_X9_item si_L_55 im_X9_item se_X9_item sk_0 rfl ⟨Nat.le_of_ble_eq_true rfl, Nat.le_of_ble_eq_true rfl⟩ rfl rfl (Nat.le_of_ble_eq_true rfl) dL_law_512 ⟨hcap.1, hcap.2⟩ (fun _ => ?_)
  refine av_aload_n (pc := 515) (j := 2) C dL_law_515 rfl rfl ?_
  refine av_arg (pc := 516) (w := 1) (k0 := 0) (k3 := 3) (j := 1) C hX hbl hG hL (by omega) hi rfl rfl dL_law_516 dL_law_517 (Or.inl ⟨dL_law_518, rfl⟩) dL_law_519 dL_law_520 ?_
  refine av_arg (pc := 521) (w := 1) (k0 := 0) (k3 := 3) (j := 2) C hX hbl hG hL (by omega) hi rfl rfl dL_law_521 dL_law_522 (Or.inl ⟨dL_law_523, rfl⟩) dL_law_524 dL_law_525 ?_
  refine av_callV (pc := 526) (as := [am_I (xs (i + 1).toNat).toInt, am_I (xs (i + 2).toNat).toInt]) (rest := [am_I x]) C (ct_X10_item l G (xs (i + 1).toNat).toInt (xs (i + 2).toNat).toInt S1 x S2 g2) ym_X10_item si_L_59 im_X10_item se_X10_item sk_74 rfl ⟨Nat.le_of_ble_eq_true rfl, Nat.le_of_ble_eq_true rfl⟩ rfl rfl (Nat.le_of_ble_eq_true rfl) dL_law_526 ⟨hcap.1, hcap.2⟩ (fun _ => ?_)
  refine av_icmp_eq (pc := 529) (tgt := 683) C dL_law_529 (by decide) (fun _ => ?_) (fun h => absurd rfl h)
  exact kk S2 I2
set_option maxRecDepth 100000 in
theorem si_L_60 : Cond.methodLink "JobLoopLaw" 60 yX9_group ∈ am_T := am_mem 575 (by decide +kernel) (by decide +kernel)
set_option maxRecDepth 100000 in
theorem im_X9_group : Cond.instanceMethod yX9_group ∈ am_T := am_mem 576 (by decide +kernel) (by decide +kernel)
set_option maxRecDepth 100000 in
theorem se_X9_group : Cond.selects yX9_group.cls yX9_group yX9_group ∈ am_T := am_mem 577 (by decide +kernel) (by decide +kernel)
set_option maxRecDepth 100000 in
theorem si_L_63 : Cond.methodLink "JobLoopLaw" 63 yX10_group ∈ am_T := am_mem 1135 (by decide +kernel) (by decide +kernel)
set_option maxRecDepth 100000 in
theorem im_X10_group : Cond.instanceMethod yX10_group ∈ am_T := am_mem 1136 (by decide +kernel) (by decide +kernel)
set_option maxRecDepth 100000 in
theorem se_X10_group : Cond.selects yX10_group.cls yX10_group yX10_group ∈ am_T := am_mem 1137 (by decide +kernel) (by decide +kernel)
set_option maxRecDepth 100000 in
set_option maxHeartbeats 4000000 in
theorem lw_c10 {p : Program} {l : Launch} {e : Env} {R : Room} {s : State} {m : MethodId} {args : Array Value} {below : List Frame} {meth : Method} {c : Code} {Q : State → Prop} {G : am_G} {kc ks : Nat} {S : am_S} {b L : Nat} {xs : Nat → Int32} (C : am_C p s m args c cL_law 4 "JobLoopLaw" G) (hX : va_X b L xs s s.heap) (hbl : b < s.heap.size) (hG : G.1 999 = b) (hL : L ≤ 448) (hR : R = room_1) (hcap : kc ≤ R.cells ∧ ks ≤ R.slots) {i B : Int} (hi : 0 ≤ i ∧ i + 7 ≤ (L : Int)) (I : pr_I B S S) (hB : B + 2000000 < 2000000000)
    (kk : ∀ S2, pr_I (B + 2000000) S2 S2 → am_V p l e R s m args below meth c Q G (fun q => s.heap.size ≤ q) s.heap 4 kc ks 683 [(0, am_R 999), (1, am_R 0), (2, am_R 74), (3, am_I i)] [] S2) : am_V p l e R s m args below meth c Q G (fun q => s.heap.size ≤ q) s.heap 4 kc ks 534 [(0, am_R 999), (1, am_R 0), (2, am_R 74), (3, am_I i)] [] S := by
  subst hR
  obtain ⟨x, S1, g1, S2, g2, I2⟩ := pr_one I (c := sf_X9_group (xs (i + 1).toNat).toInt) (r := sf_X10_group (xs (i + 1).toNat).toInt) (fun Sr h => pr_pub_group h hB (xs (i + 1).toNat).toInt) (fun S0 S h => pr_kf_X9_group _ S0 S h) (fun S0 S h => pr_kf_X10_group _ S0 S h)
  refine av_aload_n (pc := 534) (j := 1) C dL_law_534 rfl rfl ?_
  refine av_arg (pc := 535) (w := 1) (k0 := 0) (k3 := 3) (j := 1) C hX hbl hG hL (by omega) hi rfl rfl dL_law_535 dL_law_536 (Or.inl ⟨dL_law_537, rfl⟩) dL_law_538 dL_law_539 ?_
  refine av_callV (pc := 540) (as := [am_I (xs (i + 1).toNat).toInt]) (rest := []) C (ct_X9_group l G (xs (i + 1).toNat).toInt S x S1 g1) ym_X9_group si_L_60 im_X9_group se_X9_group sk_0 rfl ⟨Nat.le_of_ble_eq_true rfl, Nat.le_of_ble_eq_true rfl⟩ rfl rfl (Nat.le_of_ble_eq_true rfl) dL_law_540 ⟨hcap.1, hcap.2⟩ (fun _ => ?_)
  refine av_aload_n (pc := 543) (j := 2) C dL_law_543 rfl rfl ?_
  refine av_arg (pc := 544) (w := 1) (k0 := 0) (k3 := 3) (j := 1) C hX hbl hG hL (by omega) hi rfl rfl dL_law_544 dL_law_545 (Or.inl ⟨dL_law_546, rfl⟩) dL_law_547 dL_law_548 ?_
  refine av_callV (pc := 549) (as := [am_I (xs (i + 1).toNat).toInt]) (rest := [am_I x]) C (ct_X10_group l G (xs (i + 1).toNat).toInt S1 x S2 g2) ym_X10_group si_L_63 im_X10_group se_X10_group sk_74 rfl ⟨Nat.le_of_ble_eq_true rfl, Nat.le_of_ble_eq_true rfl⟩ rfl rfl (Nat.le_of_ble_eq_true rfl) dL_law_549 ⟨hcap.1, hcap.2⟩ (fun _ => ?_)
  refine av_icmp_eq (pc := 552) (tgt := 683) C dL_law_552 (by decide) (fun _ => ?_) (fun h => absurd rfl h)
  exact kk S2 I2
set_option maxRecDepth 100000 in
theorem si_L_64 : Cond.methodLink "JobLoopLaw" 64 yX9_run ∈ am_T := am_mem 601 (by decide +kernel) (by decide +kernel)
set_option maxRecDepth 100000 in
theorem im_X9_run : Cond.instanceMethod yX9_run ∈ am_T := am_mem 602 (by decide +kernel) (by decide +kernel)
set_option maxRecDepth 100000 in
theorem se_X9_run : Cond.selects yX9_run.cls yX9_run yX9_run ∈ am_T := am_mem 603 (by decide +kernel) (by decide +kernel)
set_option maxRecDepth 100000 in
theorem si_L_67 : Cond.methodLink "JobLoopLaw" 67 yX10_run ∈ am_T := am_mem 1139 (by decide +kernel) (by decide +kernel)
set_option maxRecDepth 100000 in
theorem im_X10_run : Cond.instanceMethod yX10_run ∈ am_T := am_mem 1140 (by decide +kernel) (by decide +kernel)
set_option maxRecDepth 100000 in
theorem se_X10_run : Cond.selects yX10_run.cls yX10_run yX10_run ∈ am_T := am_mem 1141 (by decide +kernel) (by decide +kernel)
set_option maxRecDepth 100000 in
set_option maxHeartbeats 4000000 in
theorem lw_c11 {p : Program} {l : Launch} {e : Env} {R : Room} {s : State} {m : MethodId} {args : Array Value} {below : List Frame} {meth : Method} {c : Code} {Q : State → Prop} {G : am_G} {kc ks : Nat} {S : am_S} {b L : Nat} {xs : Nat → Int32} (C : am_C p s m args c cL_law 4 "JobLoopLaw" G) (hX : va_X b L xs s s.heap) (hbl : b < s.heap.size) (hG : G.1 999 = b) (hL : L ≤ 448) (hR : R = room_1) (hcap : kc ≤ R.cells ∧ ks ≤ R.slots) {i B : Int} (hi : 0 ≤ i ∧ i + 7 ≤ (L : Int)) (I : pr_I B S S) (hB : B + 2000000 < 2000000000)
    (kk : ∀ S2, pr_I (B + 2000000) S2 S2 → am_V p l e R s m args below meth c Q G (fun q => s.heap.size ≤ q) s.heap 4 kc ks 683 [(0, am_R 999), (1, am_R 0), (2, am_R 74), (3, am_I i)] [] S2) : am_V p l e R s m args below meth c Q G (fun q => s.heap.size ≤ q) s.heap 4 kc ks 557 [(0, am_R 999), (1, am_R 0), (2, am_R 74), (3, am_I i)] [] S := by
  subst hR
  obtain ⟨x, S1, g1, S2, g2, I2⟩ := pr_one I (c := sf_X9_run (xs (i + 1).toNat).toInt) (r := sf_X10_run (xs (i + 1).toNat).toInt) (fun Sr h => pr_pub_run h hB (xs (i + 1).toNat).toInt) (fun S0 S h => pr_kf_X9_run _ S0 S h) (fun S0 S h => pr_kf_X10_run _ S0 S h)
  refine av_aload_n (pc := 557) (j := 1) C dL_law_557 rfl rfl ?_
  refine av_arg (pc := 558) (w := 1) (k0 := 0) (k3 := 3) (j := 1) C hX hbl hG hL (by omega) hi rfl rfl dL_law_558 dL_law_559 (Or.inl ⟨dL_law_560, rfl⟩) dL_law_561 dL_law_562 ?_
  refine av_callV (pc := 563) (as := [am_I (xs (i + 1).toNat).toInt]) (rest := []) C (ct_X9_run l G (xs (i + 1).toNat).toInt S x S1 g1) ym_X9_run si_L_64 im_X9_run se_X9_run sk_0 rfl ⟨Nat.le_of_ble_eq_true rfl, Nat.le_of_ble_eq_true rfl⟩ rfl rfl (Nat.le_of_ble_eq_true rfl) dL_law_563 ⟨hcap.1, hcap.2⟩ (fun _ => ?_)
  refine av_aload_n (pc := 566) (j := 2) C dL_law_566 rfl rfl ?_
  refine av_arg (pc := 567) (w := 1) (k0 := 0) (k3 := 3) (j := 1) C hX hbl hG hL (by omega) hi rfl rfl dL_law_567 dL_law_568 (Or.inl ⟨dL_law_569, rfl⟩) dL_law_570 dL_law_571 ?_
  refine av_callV (pc := 572) (as := [am_I (xs (i + 1).toNat).toInt]) (rest := [am_I x]) C (ct_X10_run l G (xs (i + 1).toNat).toInt S1 x S2 g2) ym_X10_run si_L_67 im_X10_run se_X10_run sk_74 rfl ⟨Nat.le_of_ble_eq_true rfl, Nat.le_of_ble_eq_true rfl⟩ rfl rfl (Nat.le_of_ble_eq_true rfl) dL_law_572 ⟨hcap.1, hcap.2⟩ (fun _ => ?_)
  refine av_icmp_eq (pc := 575) (tgt := 683) C dL_law_575 (by decide) (fun _ => ?_) (fun h => absurd rfl h)
  exact kk S2 I2
set_option maxRecDepth 100000 in
theorem si_L_68 : Cond.methodLink "JobLoopLaw" 68 yX9_forget ∈ am_T := am_mem 717 (by decide +kernel) (by decide +kernel)
set_option maxRecDepth 100000 in
theorem im_X9_forget : Cond.instanceMethod yX9_forget ∈ am_T := am_mem 718 (by decide +kernel) (by decide +kernel)
set_option maxRecDepth 100000 in
theorem se_X9_forget : Cond.selects yX9_forget.cls yX9_forget yX9_forget ∈ am_T := am_mem 719 (by decide +kernel) (by decide +kernel)
set_option maxRecDepth 100000 in
theorem si_L_71 : Cond.methodLink "JobLoopLaw" 71 yX10_forget ∈ am_T := am_mem 1163 (by decide +kernel) (by decide +kernel)
set_option maxRecDepth 100000 in
theorem im_X10_forget : Cond.instanceMethod yX10_forget ∈ am_T := am_mem 1164 (by decide +kernel) (by decide +kernel)
set_option maxRecDepth 100000 in
theorem se_X10_forget : Cond.selects yX10_forget.cls yX10_forget yX10_forget ∈ am_T := am_mem 1165 (by decide +kernel) (by decide +kernel)
set_option maxRecDepth 100000 in
set_option maxHeartbeats 4000000 in
theorem lw_c12 {p : Program} {l : Launch} {e : Env} {R : Room} {s : State} {m : MethodId} {args : Array Value} {below : List Frame} {meth : Method} {c : Code} {Q : State → Prop} {G : am_G} {kc ks : Nat} {S : am_S} {b L : Nat} {xs : Nat → Int32} (C : am_C p s m args c cL_law 4 "JobLoopLaw" G) (hX : va_X b L xs s s.heap) (hbl : b < s.heap.size) (hG : G.1 999 = b) (hL : L ≤ 448) (hR : R = room_1) (hcap : kc ≤ R.cells ∧ ks ≤ R.slots) {i B : Int} (hi : 0 ≤ i ∧ i + 7 ≤ (L : Int)) (I : pr_I B S S) (hB : B + 2000000 < 2000000000)
    (kk : ∀ S2, pr_I (B + 2000000) S2 S2 → am_V p l e R s m args below meth c Q G (fun q => s.heap.size ≤ q) s.heap 4 kc ks 683 [(0, am_R 999), (1, am_R 0), (2, am_R 74), (3, am_I i)] [] S2) : am_V p l e R s m args below meth c Q G (fun q => s.heap.size ≤ q) s.heap 4 kc ks 580 [(0, am_R 999), (1, am_R 0), (2, am_R 74), (3, am_I i)] [] S := by
  subst hR
  obtain ⟨x, S1, g1, S2, g2, I2⟩ := pr_one I (c := sf_X9_forget) (r := sf_X10_forget) (fun Sr h => pr_pub_forget h hB) (fun S0 S h => pr_kf_X9_forget S0 S h) (fun S0 S h => pr_kf_X10_forget S0 S h)
  refine av_aload_n (pc := 580) (j := 1) C dL_law_580 rfl rfl ?_
  refine av_callV (pc := 581) (as := []) (rest := []) C (ct_X9_forget l G S x S1 g1) ym_X9_forget si_L_68 im_X9_forget se_X9_forget sk_0 rfl ⟨Nat.le_of_ble_eq_true rfl, Nat.le_of_ble_eq_true rfl⟩ rfl rfl (Nat.le_of_ble_eq_true rfl) dL_law_581 ⟨hcap.1, hcap.2⟩ (fun _ => ?_)
  refine av_aload_n (pc := 584) (j := 2) C dL_law_584 rfl rfl ?_
  refine av_callV (pc := 585) (as := []) (rest := [am_I x]) C (ct_X10_forget l G S1 x S2 g2) ym_X10_forget si_L_71 im_X10_forget se_X10_forget sk_74 rfl ⟨Nat.le_of_ble_eq_true rfl, Nat.le_of_ble_eq_true rfl⟩ rfl rfl (Nat.le_of_ble_eq_true rfl) dL_law_585 ⟨hcap.1, hcap.2⟩ (fun _ => ?_)
  refine av_icmp_eq (pc := 588) (tgt := 683) C dL_law_588 (by decide) (fun _ => ?_) (fun h => absurd rfl h)
  exact kk S2 I2
set_option maxRecDepth 100000 in
theorem si_L_72 : Cond.methodLink "JobLoopLaw" 72 yX9_state ∈ am_T := am_mem 743 (by decide +kernel) (by decide +kernel)
set_option maxRecDepth 100000 in
theorem im_X9_state : Cond.instanceMethod yX9_state ∈ am_T := am_mem 744 (by decide +kernel) (by decide +kernel)
set_option maxRecDepth 100000 in
theorem se_X9_state : Cond.selects yX9_state.cls yX9_state yX9_state ∈ am_T := am_mem 745 (by decide +kernel) (by decide +kernel)
set_option maxRecDepth 100000 in
theorem si_L_75 : Cond.methodLink "JobLoopLaw" 75 yX10_state ∈ am_T := am_mem 1167 (by decide +kernel) (by decide +kernel)
set_option maxRecDepth 100000 in
theorem im_X10_state : Cond.instanceMethod yX10_state ∈ am_T := am_mem 1168 (by decide +kernel) (by decide +kernel)
set_option maxRecDepth 100000 in
theorem se_X10_state : Cond.selects yX10_state.cls yX10_state yX10_state ∈ am_T := am_mem 1169 (by decide +kernel) (by decide +kernel)
set_option maxRecDepth 100000 in
set_option maxHeartbeats 4000000 in
theorem lw_c13 {p : Program} {l : Launch} {e : Env} {R : Room} {s : State} {m : MethodId} {args : Array Value} {below : List Frame} {meth : Method} {c : Code} {Q : State → Prop} {G : am_G} {kc ks : Nat} {S : am_S} {b L : Nat} {xs : Nat → Int32} (C : am_C p s m args c cL_law 4 "JobLoopLaw" G) (hX : va_X b L xs s s.heap) (hbl : b < s.heap.size) (hG : G.1 999 = b) (hL : L ≤ 448) (hR : R = room_1) (hcap : kc ≤ R.cells ∧ ks ≤ R.slots) {i B : Int} (hi : 0 ≤ i ∧ i + 7 ≤ (L : Int)) (I : pr_I B S S) (hB : B + 2000000 < 2000000000)
    (kk : ∀ S2, pr_I (B + 2000000) S2 S2 → am_V p l e R s m args below meth c Q G (fun q => s.heap.size ≤ q) s.heap 4 kc ks 683 [(0, am_R 999), (1, am_R 0), (2, am_R 74), (3, am_I i)] [] S2) : am_V p l e R s m args below meth c Q G (fun q => s.heap.size ≤ q) s.heap 4 kc ks 593 [(0, am_R 999), (1, am_R 0), (2, am_R 74), (3, am_I i)] [] S := by
  subst hR
  obtain ⟨x, S1, g1, S2, g2, I2⟩ := pr_one I (c := sf_X9_state (xs (i + 1).toNat).toInt (xs (i + 2).toNat).toInt) (r := sf_X10_state (xs (i + 1).toNat).toInt (xs (i + 2).toNat).toInt) (fun Sr h => pr_pub_state h hB (xs (i + 1).toNat).toInt (xs (i + 2).toNat).toInt) (fun S0 S h => pr_kf_X9_state _ _ S0 S h) (fun S0 S h => pr_kf_X10_state _ _ S0 S h)
  refine av_aload_n (pc := 593) (j := 1) C dL_law_593 rfl rfl ?_
  refine av_arg (pc := 594) (w := 1) (k0 := 0) (k3 := 3) (j := 1) C hX hbl hG hL (by omega) hi rfl rfl dL_law_594 dL_law_595 (Or.inl ⟨dL_law_596, rfl⟩) dL_law_597 dL_law_598 ?_
  refine av_arg (pc := 599) (w := 1) (k0 := 0) (k3 := 3) (j := 2) C hX hbl hG hL (by omega) hi rfl rfl dL_law_599 dL_law_600 (Or.inl ⟨dL_law_601, rfl⟩) dL_law_602 dL_law_603 ?_
  refine av_callV (pc := 604) (as := [am_I (xs (i + 1).toNat).toInt, am_I (xs (i + 2).toNat).toInt]) (rest := []) C (ct_X9_state l G (xs (i + 1).toNat).toInt (xs (i + 2).toNat).toInt S x S1 g1) ym_X9_state si_L_72 im_X9_state se_X9_state sk_0 rfl ⟨Nat.le_of_ble_eq_true rfl, Nat.le_of_ble_eq_true rfl⟩ rfl rfl (Nat.le_of_ble_eq_true rfl) dL_law_604 ⟨hcap.1, hcap.2⟩ (fun _ => ?_)
  refine av_aload_n (pc := 607) (j := 2) C dL_law_607 rfl rfl ?_
  refine av_arg (pc := 608) (w := 1) (k0 := 0) (k3 := 3) (j := 1) C hX hbl hG hL (by omega) hi rfl rfl dL_law_608 dL_law_609 (Or.inl ⟨dL_law_610, rfl⟩) dL_law_611 dL_law_612 ?_
  refine av_arg (pc := 613) (w := 1) (k0 := 0) (k3 := 3) (j := 2) C hX hbl hG hL (by omega) hi rfl rfl dL_law_613 dL_law_614 (Or.inl ⟨dL_law_615, rfl⟩) dL_law_616 dL_law_617 ?_
  refine av_callV (pc := 618) (as := [am_I (xs (i + 1).toNat).toInt, am_I (xs (i + 2).toNat).toInt]) (rest := [am_I x]) C (ct_X10_state l G (xs (i + 1).toNat).toInt (xs (i + 2).toNat).toInt S1 x S2 g2) ym_X10_state si_L_75 im_X10_state se_X10_state sk_74 rfl ⟨Nat.le_of_ble_eq_true rfl, Nat.le_of_ble_eq_true rfl⟩ rfl rfl (Nat.le_of_ble_eq_true rfl) dL_law_618 ⟨hcap.1, hcap.2⟩ (fun _ => ?_)
  refine av_icmp_eq (pc := 621) (tgt := 683) C dL_law_621 (by decide) (fun _ => ?_) (fun h => absurd rfl h)
  exact kk S2 I2
set_option maxRecDepth 100000 in
theorem si_L_76 : Cond.methodLink "JobLoopLaw" 76 yX9_noted ∈ am_T := am_mem 760 (by decide +kernel) (by decide +kernel)
set_option maxRecDepth 100000 in
theorem im_X9_noted : Cond.instanceMethod yX9_noted ∈ am_T := am_mem 761 (by decide +kernel) (by decide +kernel)
set_option maxRecDepth 100000 in
theorem se_X9_noted : Cond.selects yX9_noted.cls yX9_noted yX9_noted ∈ am_T := am_mem 762 (by decide +kernel) (by decide +kernel)
set_option maxRecDepth 100000 in
theorem si_L_80 : Cond.methodLink "JobLoopLaw" 80 yX10_noted ∈ am_T := am_mem 1171 (by decide +kernel) (by decide +kernel)
set_option maxRecDepth 100000 in
theorem im_X10_noted : Cond.instanceMethod yX10_noted ∈ am_T := am_mem 1172 (by decide +kernel) (by decide +kernel)
set_option maxRecDepth 100000 in
theorem se_X10_noted : Cond.selects yX10_noted.cls yX10_noted yX10_noted ∈ am_T := am_mem 1173 (by decide +kernel) (by decide +kernel)
set_option maxRecDepth 100000 in
set_option maxHeartbeats 4000000 in
theorem lw_c14 {p : Program} {l : Launch} {e : Env} {R : Room} {s : State} {m : MethodId} {args : Array Value} {below : List Frame} {meth : Method} {c : Code} {Q : State → Prop} {G : am_G} {kc ks : Nat} {S : am_S} {b L : Nat} {xs : Nat → Int32} (C : am_C p s m args c cL_law 4 "JobLoopLaw" G) (hX : va_X b L xs s s.heap) (hbl : b < s.heap.size) (hG : G.1 999 = b) (hL : L ≤ 448) (hR : R = room_1) (hcap : kc ≤ R.cells ∧ ks ≤ R.slots) {i B : Int} (hi : 0 ≤ i ∧ i + 7 ≤ (L : Int)) (I : pr_I B S S) (hB : B + 2000000 < 2000000000)
    (kk : ∀ S2, pr_I (B + 2000000) S2 S2 → am_V p l e R s m args below meth c Q G (fun q => s.heap.size ≤ q) s.heap 4 kc ks 683 [(0, am_R 999), (1, am_R 0), (2, am_R 74), (3, am_I i)] [] S2) : am_V p l e R s m args below meth c Q G (fun q => s.heap.size ≤ q) s.heap 4 kc ks 626 [(0, am_R 999), (1, am_R 0), (2, am_R 74), (3, am_I i)] [] S := by
  subst hR
  obtain ⟨x, S1, g1, S2, g2, I2⟩ := pr_one I (c := sf_X9_noted (xs (i + 1).toNat).toInt (xs (i + 2).toNat).toInt) (r := sf_X10_noted (xs (i + 1).toNat).toInt (xs (i + 2).toNat).toInt) (fun Sr h => pr_pub_noted h hB (xs (i + 1).toNat).toInt (xs (i + 2).toNat).toInt) (fun S0 S h => pr_kf_X9_noted _ _ S0 S h) (fun S0 S h => pr_kf_X10_noted _ _ S0 S h)
  refine av_aload_n (pc := 626) (j := 1) C dL_law_626 rfl rfl ?_
  refine av_arg (pc := 627) (w := 1) (k0 := 0) (k3 := 3) (j := 1) C hX hbl hG hL (by omega) hi rfl rfl dL_law_627 dL_law_628 (Or.inl ⟨dL_law_629, rfl⟩) dL_law_630 dL_law_631 ?_
  refine av_arg (pc := 632) (w := 1) (k0 := 0) (k3 := 3) (j := 2) C hX hbl hG hL (by omega) hi rfl rfl dL_law_632 dL_law_633 (Or.inl ⟨dL_law_634, rfl⟩) dL_law_635 dL_law_636 ?_
  refine av_callV (pc := 637) (as := [am_I (xs (i + 1).toNat).toInt, am_I (xs (i + 2).toNat).toInt]) (rest := []) C (ct_X9_noted l G (xs (i + 1).toNat).toInt (xs (i + 2).toNat).toInt S x S1 g1) ym_X9_noted si_L_76 im_X9_noted se_X9_noted sk_0 rfl ⟨Nat.le_of_ble_eq_true rfl, Nat.le_of_ble_eq_true rfl⟩ rfl rfl (Nat.le_of_ble_eq_true rfl) dL_law_637 ⟨hcap.1, hcap.2⟩ (fun _ => ?_)
  refine av_aload_n (pc := 640) (j := 2) C dL_law_640 rfl rfl ?_
  refine av_arg (pc := 641) (w := 1) (k0 := 0) (k3 := 3) (j := 1) C hX hbl hG hL (by omega) hi rfl rfl dL_law_641 dL_law_642 (Or.inl ⟨dL_law_643, rfl⟩) dL_law_644 dL_law_645 ?_
  refine av_arg (pc := 646) (w := 1) (k0 := 0) (k3 := 3) (j := 2) C hX hbl hG hL (by omega) hi rfl rfl dL_law_646 dL_law_647 (Or.inl ⟨dL_law_648, rfl⟩) dL_law_649 dL_law_650 ?_
  refine av_callV (pc := 651) (as := [am_I (xs (i + 1).toNat).toInt, am_I (xs (i + 2).toNat).toInt]) (rest := [am_J x]) C (ct_X10_noted l G (xs (i + 1).toNat).toInt (xs (i + 2).toNat).toInt S1 x S2 g2) ym_X10_noted si_L_80 im_X10_noted se_X10_noted sk_74 rfl ⟨Nat.le_of_ble_eq_true rfl, Nat.le_of_ble_eq_true rfl⟩ rfl rfl (Nat.le_of_ble_eq_true rfl) dL_law_651 ⟨hcap.1, hcap.2⟩ (fun _ => ?_)
  refine av_lcmp (pc := 654) C dL_law_654 ?_
  refine av_if_eq (pc := 655) (tgt := 683) C dL_law_655 (by decide) (fun _ => ?_) (fun h => absurd (by unfold am_cmp; rw [if_neg (by omega), if_pos rfl]) h)
  exact kk S2 I2
set_option maxRecDepth 100000 in
theorem si_L_81 : Cond.methodLink "JobLoopLaw" 81 yX9_count ∈ am_T := am_mem 782 (by decide +kernel) (by decide +kernel)
set_option maxRecDepth 100000 in
theorem im_X9_count : Cond.instanceMethod yX9_count ∈ am_T := am_mem 783 (by decide +kernel) (by decide +kernel)
set_option maxRecDepth 100000 in
theorem se_X9_count : Cond.selects yX9_count.cls yX9_count yX9_count ∈ am_T := am_mem 784 (by decide +kernel) (by decide +kernel)
set_option maxRecDepth 100000 in
theorem si_L_84 : Cond.methodLink "JobLoopLaw" 84 yX10_count ∈ am_T := am_mem 1176 (by decide +kernel) (by decide +kernel)
set_option maxRecDepth 100000 in
set_option maxHeartbeats 4000000 in
theorem lw_c15 {p : Program} {l : Launch} {e : Env} {R : Room} {s : State} {m : MethodId} {args : Array Value} {below : List Frame} {meth : Method} {c : Code} {Q : State → Prop} {G : am_G} {kc ks : Nat} {S : am_S} {b L : Nat} {xs : Nat → Int32} (C : am_C p s m args c cL_law 4 "JobLoopLaw" G) (hX : va_X b L xs s s.heap) (hbl : b < s.heap.size) (hG : G.1 999 = b) (hL : L ≤ 448) (hR : R = room_1) (hcap : kc ≤ R.cells ∧ ks ≤ R.slots) {i B : Int} (hi : 0 ≤ i ∧ i + 7 ≤ (L : Int)) (I : pr_I B S S) (hB : B + 2000000 < 2000000000)
    (kk : ∀ S2, pr_I (B + 2000000) S2 S2 → am_V p l e R s m args below meth c Q G (fun q => s.heap.size ≤ q) s.heap 4 kc ks 683 [(0, am_R 999), (1, am_R 0), (2, am_R 74), (3, am_I i)] [] S2) : am_V p l e R s m args below meth c Q G (fun q => s.heap.size ≤ q) s.heap 4 kc ks 660 [(0, am_R 999), (1, am_R 0), (2, am_R 74), (3, am_I i)] [] S := by
  subst hR
  obtain ⟨x, S1, g1, S2, g2, I2⟩ := pr_one I (c := sf_X9_count (xs (i + 1).toNat).toInt) (r := sf_X10_count (xs (i + 1).toNat).toInt) (fun Sr h => pr_pub_count h hB (xs (i + 1).toNat).toInt) (fun S0 S h => pr_kf_X9_count _ S0 S h) (fun S0 S h => pr_kf_X10_count _ S0 S h)
  refine av_aload_n (pc := 660) (j := 1) C dL_law_660 rfl rfl ?_
  refine av_arg (pc := 661) (w := 1) (k0 := 0) (k3 := 3) (j := 1) C hX hbl hG hL (by omega) hi rfl rfl dL_law_661 dL_law_662 (Or.inl ⟨dL_law_663, rfl⟩) dL_law_664 dL_law_665 ?_
  refine av_callV (pc := 666) (as := [am_I (xs (i + 1).toNat).toInt]) (rest := []) C (ct_X9_count l G (xs (i + 1).toNat).toInt S x S1 g1) ym_X9_count si_L_81 im_X9_count se_X9_count sk_0 rfl ⟨Nat.le_of_ble_eq_true rfl, Nat.le_of_ble_eq_true rfl⟩ rfl rfl (Nat.le_of_ble_eq_true rfl) dL_law_666 ⟨hcap.1, hcap.2⟩ (fun _ => ?_)
  refine av_aload_n (pc := 669) (j := 2) C dL_law_669 rfl rfl ?_
  refine av_arg (pc := 670) (w := 1) (k0 := 0) (k3 := 3) (j := 1) C hX hbl hG hL (by omega) hi rfl rfl dL_law_670 dL_law_671 (Or.inl ⟨dL_law_672, rfl⟩) dL_law_673 dL_law_674 ?_
  refine av_callV (pc := 675) (as := [am_I (xs (i + 1).toNat).toInt]) (rest := [am_I x]) C (ct_X10_count l G (xs (i + 1).toNat).toInt S1 x S2 g2) ym_X10_count si_L_84 im_X10_count se_X10_count sk_74 rfl ⟨Nat.le_of_ble_eq_true rfl, Nat.le_of_ble_eq_true rfl⟩ rfl rfl (Nat.le_of_ble_eq_true rfl) dL_law_675 ⟨hcap.1, hcap.2⟩ (fun _ => ?_)
  refine av_icmp_eq (pc := 678) (tgt := 683) C dL_law_678 (by decide) (fun _ => ?_) (fun h => absurd rfl h)
  exact kk S2 I2
