/-! the law's walk; printed by gen60.py -/
set_option maxRecDepth 100000 in
theorem bf_cl_L7 : Cond.classLink "JobLoopLaw" 7 RX9 ∈ am_T := am_mem 58 (by decide +kernel) (by decide +kernel)
set_option maxRecDepth 100000 in
theorem bf_cl_L10 : Cond.classLink "JobLoopLaw" 10 RX10 ∈ am_T := am_mem 807 (by decide +kernel) (by decide +kernel)
set_option maxRecDepth 100000 in
theorem si_L_9 : Cond.methodLink "JobLoopLaw" 9 yX9_init ∈ am_T := am_mem 60 (by decide +kernel) (by decide +kernel)
set_option maxRecDepth 100000 in
theorem si_L_12 : Cond.methodLink "JobLoopLaw" 12 yX10_init ∈ am_T := am_mem 809 (by decide +kernel) (by decide +kernel)
set_option maxRecDepth 100000 in
theorem bf_ini10 : Cond.initialized RX10 ∈ am_T := am_mem 55 (by decide +kernel) (by decide +kernel)
set_option maxRecDepth 100000 in
set_option maxHeartbeats 4000000 in
theorem lw_loop {p : Program} {l : Launch} {e : Env} {s : State} {m : MethodId} {args : Array Value} {below : List Frame} {meth : Method} {c : Code} {Q : State → Prop} {G : am_G} {kc ks : Nat} {b L : Nat} {xs : Nat → Int32} (C : am_C p s m args c cL_law 4 "JobLoopLaw" G) (hX : va_X b L xs s s.heap) (hbl : b < s.heap.size) (hG : G.1 999 = b) (hL : L ≤ 448) (hcap : kc ≤ room_1.cells ∧ ks ≤ room_1.slots)
    (hend : ∀ (lv : List (Nat × am_AV)) (S : am_S), am_V p l e room_1 s m args below meth c Q G (fun q => s.heap.size ≤ q) s.heap 4 kc ks 690 lv [am_I 1] S) : ∀ (k n : Nat) (S : am_S), n + k = 64 → pr_I (2000000 * (n : Int)) S S → am_V p l e room_1 s m args below meth c Q G (fun q => s.heap.size ≤ q) s.heap 4 kc ks 18 [(0, am_R 999), (1, am_R 0), (2, am_R 74), (3, am_I ((7 * n : Nat) : Int))] [] S := by
  intro k
  induction k with
  | zero =>
    intro n S hn I
    refine av_iload_n (pc := 18) (j := 3) C dL_law_18 rfl rfl ?_
    refine av_aload_n (pc := 19) (j := 0) C dL_law_19 rfl rfl ?_
    refine av_slen (pc := 20) C hX hbl hG hL dL_law_20 ?_
    refine av_bipush (pc := 21) C dL_law_21 rfl ?_
    refine av_isub (pc := 23) C dL_law_23 ?_
    rw [am_w32_id (x := (L : Int) - 7) (by unfold am_r32; omega)]
    refine av_icmp_gt (pc := 24) (tgt := 689) C dL_law_24 (by decide) (fun _ => ?_) (fun h => by omega)
    exact av_iconst (pc := 689) C dL_law_689 rfl (hend _ S)
  | succ k ih =>
    intro n S hn I
    refine av_iload_n (pc := 18) (j := 3) C dL_law_18 rfl rfl ?_
    refine av_aload_n (pc := 19) (j := 0) C dL_law_19 rfl rfl ?_
    refine av_slen (pc := 20) C hX hbl hG hL dL_law_20 ?_
    refine av_bipush (pc := 21) C dL_law_21 rfl ?_
    refine av_isub (pc := 23) C dL_law_23 ?_
    rw [am_w32_id (x := (L : Int) - 7) (by unfold am_r32; omega)]
    refine av_icmp_gt (pc := 24) (tgt := 689) C dL_law_24 (by decide) (fun _ => ?_) (fun hlt => ?_)
    · exact av_iconst (pc := 689) C dL_law_689 rfl (hend _ S)
    have hi : 0 ≤ ((7 * n : Nat) : Int) ∧ ((7 * n : Nat) : Int) + 7 ≤ (L : Int) := ⟨by omega, by omega⟩
    have hB : 2000000 * (n : Int) + 2000000 < 2000000000 := by omega
    have kk : ∀ S2, pr_I (2000000 * (n : Int) + 2000000) S2 S2 → am_V p l e room_1 s m args below meth c Q G (fun q => s.heap.size ≤ q) s.heap 4 kc ks 683 [(0, am_R 999), (1, am_R 0), (2, am_R 74), (3, am_I ((7 * n : Nat) : Int))] [] S2 := by
      intro S2 I2
      have e7 : am_w32 (((7 * n : Nat) : Int) + 7) = ((7 * (n + 1) : Nat) : Int) := by rw [am_w32_id (by unfold am_r32; omega)]; omega
      refine av_iinc (pc := 683) (j := 3) C dL_law_683 rfl (by decide) rfl ?_
      refine av_goto (pc := 686) (tgt := 18) C dL_law_686 (by decide) ?_
      rw [e7]
      refine av_lvsub [1, 2, 3, 0] rfl ?_
      exact ih (n + 1) S2 (by omega) (by rw [show 2000000 * ((n + 1 : Nat) : Int) = 2000000 * (n : Int) + 2000000 by omega]; exact I2)
    refine av_aload_n (pc := 27) (j := 0) C dL_law_27 rfl rfl ?_
    refine av_iload_n (pc := 28) (j := 3) C dL_law_28 rfl rfl ?_
    refine av_sld (pc := 29) C hX hbl hG hL ⟨by omega, by omega⟩ dL_law_29 ?_
    refine av_bipush (pc := 30) C dL_law_30 rfl ?_
    refine av_iandS (pc := 32) C dL_law_32 ?_
    generalize (Int32.ofInt (xs ((7 * n : Nat) : Int).toNat).toInt &&& Int32.ofInt 15).toInt = v
    rcases (show (v < 0 ∨ 15 < v) ∨ v = 0 ∨ v = 1 ∨ v = 2 ∨ v = 3 ∨ v = 4 ∨ v = 5 ∨ v = 6 ∨ v = 7 ∨ v = 8 ∨ v = 9 ∨ v = 10 ∨ v = 11 ∨ v = 12 ∨ v = 13 ∨ v = 14 ∨ v = 15 by omega) with h | h | h | h | h | h | h | h | h | h | h | h | h | h | h | h | h
    · exact av_swo (pc := 33) (tgt := 683) C dL_law_33 h (by decide) (kk S (pr_I_mono I (by omega) hB))
    · exact av_swi (pc := 33) (k := 0) (tgt := 112) C dL_law_33 (by rw [h]; rfl) (by decide) rfl (by decide) (lw_c0 C hX hbl hG hL rfl hcap hi I hB kk)
    · exact av_swi (pc := 33) (k := 1) (tgt := 125) C dL_law_33 (by rw [h]; rfl) (by decide) rfl (by decide) (lw_c1 C hX hbl hG hL rfl hcap hi I hB kk)
    · exact av_swi (pc := 33) (k := 2) (tgt := 168) C dL_law_33 (by rw [h]; rfl) (by decide) rfl (by decide) (lw_c2 C hX hbl hG hL rfl hcap hi I hB kk)
    · exact av_swi (pc := 33) (k := 3) (tgt := 211) C dL_law_33 (by rw [h]; rfl) (by decide) rfl (by decide) (lw_c3 C hX hbl hG hL rfl hcap hi I hB kk)
    · exact av_swi (pc := 33) (k := 4) (tgt := 254) C dL_law_33 (by rw [h]; rfl) (by decide) rfl (by decide) (lw_c4 C hX hbl hG hL rfl hcap hi I hB kk)
    · exact av_swi (pc := 33) (k := 5) (tgt := 329) C dL_law_33 (by rw [h]; rfl) (by decide) rfl (by decide) (lw_c5 C hX hbl hG hL rfl hcap hi I hB kk)
    · exact av_swi (pc := 33) (k := 6) (tgt := 382) C dL_law_33 (by rw [h]; rfl) (by decide) rfl (by decide) (lw_c6 C hX hbl hG hL rfl hcap hi I hB kk)
    · exact av_swi (pc := 33) (k := 7) (tgt := 405) C dL_law_33 (by rw [h]; rfl) (by decide) rfl (by decide) (lw_c7 C hX hbl hG hL rfl hcap hi I hB kk)
    · exact av_swi (pc := 33) (k := 8) (tgt := 448) C dL_law_33 (by rw [h]; rfl) (by decide) rfl (by decide) (lw_c8 C hX hbl hG hL rfl hcap hi I hB kk)
    · exact av_swi (pc := 33) (k := 9) (tgt := 501) C dL_law_33 (by rw [h]; rfl) (by decide) rfl (by decide) (lw_c9 C hX hbl hG hL rfl hcap hi I hB kk)
    · exact av_swi (pc := 33) (k := 10) (tgt := 534) C dL_law_33 (by rw [h]; rfl) (by decide) rfl (by decide) (lw_c10 C hX hbl hG hL rfl hcap hi I hB kk)
    · exact av_swi (pc := 33) (k := 11) (tgt := 557) C dL_law_33 (by rw [h]; rfl) (by decide) rfl (by decide) (lw_c11 C hX hbl hG hL rfl hcap hi I hB kk)
    · exact av_swi (pc := 33) (k := 12) (tgt := 580) C dL_law_33 (by rw [h]; rfl) (by decide) rfl (by decide) (lw_c12 C hX hbl hG hL rfl hcap hi I hB kk)
    · exact av_swi (pc := 33) (k := 13) (tgt := 593) C dL_law_33 (by rw [h]; rfl) (by decide) rfl (by decide) (lw_c13 C hX hbl hG hL rfl hcap hi I hB kk)
    · exact av_swi (pc := 33) (k := 14) (tgt := 626) C dL_law_33 (by rw [h]; rfl) (by decide) rfl (by decide) (lw_c14 C hX hbl hG hL rfl hcap hi I hB kk)
    · exact av_swi (pc := 33) (k := 15) (tgt := 660) C dL_law_33 (by rw [h]; rfl) (by decide) rfl (by decide) (lw_c15 C hX hbl hG hL rfl hcap hi I hB kk)
