set_option maxHeartbeats 4000000 in
set_option maxRecDepth 100000 in
theorem wk_X10_clear_75 {p : Program} {l : Launch} {e : Env} {s : State} {m : MethodId} {args : Array Value} {below : List Frame} {meth : Method} {c : Code} {G : am_G} (C : am_C p s m args c cX10_clear 2 RX10 G) (hr : meth.sig.returnType = none) (hlocks : meth.locks = false) : ∀ (fu : Nat) (b1 : Int) (S : am_S) (SZ : am_S), sf_X10_clear_75 fu b1 S = some SZ → am_V p l e (am_rm 0 0) s m args below meth c (MQ below (am_Q G none SZ) args s 0 0 (am_A G)) G (am_A G) s.heap 2 0 0 75 [(0, am_R 74), (1, am_I b1)] [] S := by
  intro fu
  induction fu with
  | zero => intro b1 S SZ hs; cases hs
  | succ fu ih =>
    intro b1 S SZ hs
    unfold sf_X10_clear_75 at hs
    refine av_iload_n (pc := 75) (j := 1) C dX10_clear_75 rfl rfl ?_
    refine av_iconst (pc := 76) C dX10_clear_76 rfl ?_
    refine av_icmp_ge (pc := 77) (tgt := 93) C dX10_clear_77 (by decide) (fun hc => ?_) (fun hc => ?_)
    · rw [if_pos hc] at hs
      obtain rfl := am_inj1 hs
      exact av_vret C hr hlocks dX10_clear_93
    · rw [if_neg hc] at hs
      refine av_aload_n (pc := 80) (j := 0) C dX10_clear_80 rfl rfl ?_
      refine av_getR (pc := 81) (k := 20) (r := 93) C fl_X10_65 sk_74 rfl dX10_clear_81 ?_
      refine av_iload_n (pc := 84) (j := 1) C dX10_clear_84 rfl rfl ?_
      refine av_iconst (pc := 85) C dX10_clear_85 rfl ?_
      obtain ⟨hb, hs⟩ := am_gd_of hs
      obtain ⟨S9, eS9, hs⟩ := am_let_of hs
      refine av_iast (pc := 86) C sk_93 hb dX10_clear_86 ?_
      refine av_eq rfl rfl rfl eS9 ?_
      refine av_iinc (pc := 87) (j := 1) (lv2 := [(1, am_I (am_w32 (b1 + 1))), (0, am_R 74)]) C dX10_clear_87 rfl (by decide) rfl ?_
      refine av_goto (pc := 90) (tgt := 75) C dX10_clear_90 (by decide) ?_
      refine av_lvsub (lv2 := [(0, am_R 74), (1, am_I (am_w32 (b1 + 1)))]) [1, 0] rfl ?_
      exact ih (am_w32 (b1 + 1)) S9 SZ hs
set_option maxHeartbeats 4000000 in
set_option maxRecDepth 100000 in
theorem wk_X10_clear_54 {p : Program} {l : Launch} {e : Env} {s : State} {m : MethodId} {args : Array Value} {below : List Frame} {meth : Method} {c : Code} {G : am_G} (C : am_C p s m args c cX10_clear 2 RX10 G) (hr : meth.sig.returnType = none) (hlocks : meth.locks = false) : ∀ (fu : Nat) (b1 : Int) (S : am_S) (SZ : am_S), sf_X10_clear_54 fu b1 S = some SZ → am_V p l e (am_rm 0 0) s m args below meth c (MQ below (am_Q G none SZ) args s 0 0 (am_A G)) G (am_A G) s.heap 2 0 0 54 [(0, am_R 74), (1, am_I b1)] [] S := by
  intro fu
  induction fu with
  | zero => intro b1 S SZ hs; cases hs
  | succ fu ih =>
    intro b1 S SZ hs
    unfold sf_X10_clear_54 at hs
    refine av_iload_n (pc := 54) (j := 1) C dX10_clear_54 rfl rfl ?_
    refine av_bipush (pc := 55) C dX10_clear_55 rfl ?_
    refine av_icmp_ge (pc := 57) (tgt := 73) C dX10_clear_57 (by decide) (fun hc => ?_) (fun hc => ?_)
    · rw [if_pos hc] at hs
      refine av_iconst (pc := 73) C dX10_clear_73 rfl ?_
      refine av_istore_n (pc := 74) (i := 1) (lv2 := [(1, am_I 0), (0, am_R 74)]) C dX10_clear_74 rfl (by decide) rfl ?_
      refine av_lvsub (lv2 := [(0, am_R 74), (1, am_I 0)]) [1, 0] rfl ?_
      exact wk_X10_clear_75 C hr hlocks 1000 0 S SZ hs
    · rw [if_neg hc] at hs
      refine av_aload_n (pc := 60) (j := 0) C dX10_clear_60 rfl rfl ?_
      refine av_getR (pc := 61) (k := 36) (r := 108) C fl_X10_110 sk_74 rfl dX10_clear_61 ?_
      refine av_iload_n (pc := 64) (j := 1) C dX10_clear_64 rfl rfl ?_
      refine av_iconst (pc := 65) C dX10_clear_65 rfl ?_
      obtain ⟨hb, hs⟩ := am_gd_of hs
      obtain ⟨S8, eS8, hs⟩ := am_let_of hs
      refine av_iast (pc := 66) C sk_108 hb dX10_clear_66 ?_
      refine av_eq rfl rfl rfl eS8 ?_
      refine av_iinc (pc := 67) (j := 1) (lv2 := [(1, am_I (am_w32 (b1 + 1))), (0, am_R 74)]) C dX10_clear_67 rfl (by decide) rfl ?_
      refine av_goto (pc := 70) (tgt := 54) C dX10_clear_70 (by decide) ?_
      refine av_lvsub (lv2 := [(0, am_R 74), (1, am_I (am_w32 (b1 + 1)))]) [1, 0] rfl ?_
      exact ih (am_w32 (b1 + 1)) S8 SZ hs
set_option maxHeartbeats 4000000 in
set_option maxRecDepth 100000 in
theorem wk_X10_clear_32 {p : Program} {l : Launch} {e : Env} {s : State} {m : MethodId} {args : Array Value} {below : List Frame} {meth : Method} {c : Code} {G : am_G} (C : am_C p s m args c cX10_clear 2 RX10 G) (hr : meth.sig.returnType = none) (hlocks : meth.locks = false) : ∀ (fu : Nat) (b1 : Int) (S : am_S) (SZ : am_S), sf_X10_clear_32 fu b1 S = some SZ → am_V p l e (am_rm 0 0) s m args below meth c (MQ below (am_Q G none SZ) args s 0 0 (am_A G)) G (am_A G) s.heap 2 0 0 32 [(0, am_R 74), (1, am_I b1)] [] S := by
  intro fu
  induction fu with
  | zero => intro b1 S SZ hs; cases hs
  | succ fu ih =>
    intro b1 S SZ hs
    unfold sf_X10_clear_32 at hs
    refine av_iload_n (pc := 32) (j := 1) C dX10_clear_32 rfl rfl ?_
    refine av_sipush (pc := 33) C dX10_clear_33 rfl ?_
    refine av_icmp_ge (pc := 36) (tgt := 52) C dX10_clear_36 (by decide) (fun hc => ?_) (fun hc => ?_)
    · rw [if_pos hc] at hs
      refine av_iconst (pc := 52) C dX10_clear_52 rfl ?_
      refine av_istore_n (pc := 53) (i := 1) (lv2 := [(1, am_I 0), (0, am_R 74)]) C dX10_clear_53 rfl (by decide) rfl ?_
      refine av_lvsub (lv2 := [(0, am_R 74), (1, am_I 0)]) [1, 0] rfl ?_
      exact wk_X10_clear_54 C hr hlocks 1000 0 S SZ hs
    · rw [if_neg hc] at hs
      refine av_aload_n (pc := 39) (j := 0) C dX10_clear_39 rfl rfl ?_
      refine av_getR (pc := 40) (k := 10) (r := 84) C fl_X10_38 sk_74 rfl dX10_clear_40 ?_
      refine av_iload_n (pc := 43) (j := 1) C dX10_clear_43 rfl rfl ?_
      refine av_iconst (pc := 44) C dX10_clear_44 rfl ?_
      obtain ⟨hb, hs⟩ := am_gd_of hs
      obtain ⟨S7, eS7, hs⟩ := am_let_of hs
      refine av_iast (pc := 45) C sk_84 hb dX10_clear_45 ?_
      refine av_eq rfl rfl rfl eS7 ?_
      refine av_iinc (pc := 46) (j := 1) (lv2 := [(1, am_I (am_w32 (b1 + 1))), (0, am_R 74)]) C dX10_clear_46 rfl (by decide) rfl ?_
      refine av_goto (pc := 49) (tgt := 32) C dX10_clear_49 (by decide) ?_
      refine av_lvsub (lv2 := [(0, am_R 74), (1, am_I (am_w32 (b1 + 1)))]) [1, 0] rfl ?_
      exact ih (am_w32 (b1 + 1)) S7 SZ hs
set_option maxHeartbeats 4000000 in
set_option maxRecDepth 100000 in
theorem ct_X10_clear (l : Launch) (G : am_G) (S : am_S) (SZ : am_S) (hs : sf_X10_clear  S = some SZ) : am_met l yX10_clear cX10_clear 2 none 0 0 G [am_R 74] S none SZ := by
  refine am_enter ym_X10_clear (Nat.le_of_ble_eq_true rfl) ?_
  intro p e s m args below meth c C hr hlocks
  refine av_eq (lv2 := [(0, am_R 74)]) rfl rfl rfl rfl ?_
  unfold sf_X10_clear at hs
  refine av_aload_n (pc := 0) (j := 0) C dX10_clear_0 rfl rfl ?_
  refine av_iconst (pc := 1) C dX10_clear_1 rfl ?_
  obtain ⟨S1, eS1, hs⟩ := am_let_of hs
  refine av_putI (pc := 2) (k := 9) (n := 4745) C fp_X10_152 sk_74 rfl rfl dX10_clear_2 ?_
  refine av_eq rfl rfl rfl eS1 ?_
  refine av_aload_n (pc := 5) (j := 0) C dX10_clear_5 rfl rfl ?_
  refine av_iconst (pc := 6) C dX10_clear_6 rfl ?_
  obtain ⟨S2, eS2, hs⟩ := am_let_of hs
  refine av_putI (pc := 7) (k := 19) (n := 4755) C fp_X10_156 sk_74 rfl rfl dX10_clear_7 ?_
  refine av_eq rfl rfl rfl eS2 ?_
  refine av_aload_n (pc := 10) (j := 0) C dX10_clear_10 rfl rfl ?_
  refine av_iconst (pc := 11) C dX10_clear_11 rfl ?_
  obtain ⟨S3, eS3, hs⟩ := am_let_of hs
  refine av_putI (pc := 12) (k := 35) (n := 4771) C fp_X10_159 sk_74 rfl rfl dX10_clear_12 ?_
  refine av_eq rfl rfl rfl eS3 ?_
  refine av_aload_n (pc := 15) (j := 0) C dX10_clear_15 rfl rfl ?_
  refine av_iconst (pc := 16) C dX10_clear_16 rfl ?_
  obtain ⟨S4, eS4, hs⟩ := am_let_of hs
  refine av_putI (pc := 17) (k := 41) (n := 4777) C fp_X10_162 sk_74 rfl rfl dX10_clear_17 ?_
  refine av_eq rfl rfl rfl eS4 ?_
  refine av_aload_n (pc := 20) (j := 0) C dX10_clear_20 rfl rfl ?_
  refine av_iconst (pc := 21) C dX10_clear_21 rfl ?_
  obtain ⟨S5, eS5, hs⟩ := am_let_of hs
  refine av_putI (pc := 22) (k := 42) (n := 4778) C fp_X10_165 sk_74 rfl rfl dX10_clear_22 ?_
  refine av_eq rfl rfl rfl eS5 ?_
  refine av_aload_n (pc := 25) (j := 0) C dX10_clear_25 rfl rfl ?_
  refine av_iconst (pc := 26) C dX10_clear_26 rfl ?_
  obtain ⟨S6, eS6, hs⟩ := am_let_of hs
  refine av_putI (pc := 27) (k := 46) (n := 4782) C fp_X10_168 sk_74 rfl rfl dX10_clear_27 ?_
  refine av_eq rfl rfl rfl eS6 ?_
  refine av_iconst (pc := 30) C dX10_clear_30 rfl ?_
  refine av_istore_n (pc := 31) (i := 1) (lv2 := [(1, am_I 0), (0, am_R 74)]) C dX10_clear_31 rfl (by decide) rfl ?_
  refine av_lvsub (lv2 := [(0, am_R 74), (1, am_I 0)]) [1, 0] rfl ?_
  exact wk_X10_clear_32 C hr hlocks 1000 0 S6 SZ hs
set_option maxHeartbeats 4000000 in
set_option maxRecDepth 100000 in
theorem ct_X10_in (l : Launch) (G : am_G) (a1 : Int) (a2 : Int) (a3 : Int) (S : am_S) (x : Int) (SZ : am_S) (hs : sf_X10_in a1 a2 a3 S = some (x, SZ)) : am_met l yX10_in cX10_in 3 (some .boolean) 0 0 G [am_I a1, am_I a2, am_I a3] S (some (am_I x)) SZ := by
  refine am_enter ym_X10_in (Nat.le_of_ble_eq_true rfl) ?_
  intro p e s m args below meth c C hr hlocks
  refine av_eq (lv2 := [(0, am_I a1), (1, am_I a2), (2, am_I a3)]) rfl rfl rfl rfl ?_
  unfold sf_X10_in at hs
  refine av_iload_n (pc := 0) (j := 0) C dX10_in_0 rfl rfl ?_
  refine av_iload_n (pc := 1) (j := 1) C dX10_in_1 rfl rfl ?_
  refine av_icmp_lt (pc := 2) (tgt := 14) C dX10_in_2 (by decide) (fun hc => ?_) (fun hc => ?_)
  · rw [if_pos hc] at hs
    refine av_iconst (pc := 14) C dX10_in_14 rfl ?_
    obtain ⟨rfl, rfl⟩ := am_inj2 hs
    exact av_zret C (by decide) hr hlocks dX10_in_15
  · rw [if_neg hc] at hs
    refine av_iload_n (pc := 5) (j := 0) C dX10_in_5 rfl rfl ?_
    refine av_iload_n (pc := 6) (j := 2) C dX10_in_6 rfl rfl ?_
    refine av_icmp_gt (pc := 7) (tgt := 14) C dX10_in_7 (by decide) (fun hc => ?_) (fun hc => ?_)
    · rw [if_pos hc] at hs
      refine av_iconst (pc := 14) C dX10_in_14 rfl ?_
      obtain ⟨rfl, rfl⟩ := am_inj2 hs
      exact av_zret C (by decide) hr hlocks dX10_in_15
    · rw [if_neg hc] at hs
      refine av_iconst (pc := 10) C dX10_in_10 rfl ?_
      refine av_goto (pc := 11) (tgt := 15) C dX10_in_11 (by decide) ?_
      obtain ⟨rfl, rfl⟩ := am_inj2 hs
      exact av_zret C (by decide) hr hlocks dX10_in_15
set_option maxHeartbeats 4000000 in
set_option maxRecDepth 100000 in
theorem ct_X10_isPromise (l : Launch) (G : am_G) (a1 : Int) (S : am_S) (x : Int) (SZ : am_S) (hs : sf_X10_isPromise a1 S = some (x, SZ)) : am_met l yX10_isPromise cX10_isPromise 2 (some .boolean) 1 22 G [am_R 74, am_I a1] S (some (am_I x)) SZ := by
  refine am_enter ym_X10_isPromise (Nat.le_of_ble_eq_true rfl) ?_
  intro p e s m args below meth c C hr hlocks
  refine av_eq (lv2 := [(0, am_R 74), (1, am_I a1)]) rfl rfl rfl rfl ?_
  unfold sf_X10_isPromise at hs
  refine av_iload_n (pc := 0) (j := 1) C dX10_isPromise_0 rfl rfl ?_
  refine av_iconst (pc := 1) C dX10_isPromise_1 rfl ?_
  refine av_aload_n (pc := 2) (j := 0) C dX10_isPromise_2 rfl rfl ?_
  refine av_getI (pc := 3) (k := 9) (n := 4745) C fl_X10_152 sk_74 rfl rfl dX10_isPromise_3 ?_
  refine av_iconst (pc := 6) C dX10_isPromise_6 rfl ?_
  refine av_isub (pc := 7) C dX10_isPromise_7 ?_
  obtain ⟨x2, S1, hc3, hs⟩ := am_b2_of hs
  refine av_eq (st2 := [am_I (am_w32 ((S.1 4745) - 1)), am_I 0, am_I a1]) rfl rfl rfl rfl (av_callS (pc := 8) (as := [am_I a1, am_I 0, am_I (am_w32 ((S.1 4745) - 1))]) (rest := []) C (ct_X10_in l G a1 0 (am_w32 ((S.1 4745) - 1)) S x2 S1 hc3) ym_X10_in si_X10_171 st_X10_in ⟨Nat.le_of_ble_eq_true rfl, Nat.le_of_ble_eq_true rfl⟩ rfl rfl (Nat.le_of_ble_eq_true rfl) dX10_isPromise_8 ⟨Nat.le_refl _, Nat.le_refl _⟩ (fun hrv => av_eq (st2 := [am_I x2]) rfl rfl rfl rfl ?_))
  obtain ⟨hz, hs⟩ := am_gz_of hs
  obtain ⟨rfl, rfl⟩ := am_inj2 hs
  exact av_zret C hz hr hlocks dX10_isPromise_11
set_option maxHeartbeats 4000000 in
set_option maxRecDepth 100000 in
theorem wk_X10_isValue_17 {p : Program} {l : Launch} {e : Env} {s : State} {m : MethodId} {args : Array Value} {below : List Frame} {meth : Method} {c : Code} {G : am_G} (C : am_C p s m args c cX10_isValue 3 RX10 G) (hr : meth.sig.returnType = (some .boolean)) (hlocks : meth.locks = false) (b1 : Int) (b2 : Int) (S : am_S) (x : Int) (SZ : am_S) (hs : sf_X10_isValue_17 b1 b2 S = some (x, SZ)) : am_V p l e (am_rm 2 43) s m args below meth c (MQ below (am_Q G (some (am_I x)) SZ) args s 0 0 (am_A G)) G (am_A G) s.heap 3 0 0 17 [(1, am_I b1), (2, am_I b2)] [] S := by
  unfold sf_X10_isValue_17 at hs
  refine av_iload_n (pc := 17) (j := 0) C dX10_isValue_17 rfl rfl ?_
  refine av_iconst (pc := 18) C dX10_isValue_18 rfl ?_
  refine av_icmp_ne (pc := 19) (tgt := 35) C dX10_isValue_19 (by decide) (fun hc => ?_) (fun hc => ?_)
  · rw [if_neg hc] at hs
    refine av_iconst (pc := 35) C dX10_isValue_35 rfl ?_
    obtain ⟨rfl, rfl⟩ := am_inj2 hs
    exact av_zret C (by decide) hr hlocks dX10_isValue_36
  · rw [if_pos (Decidable.not_not.mp hc)] at hs
    refine av_iload_n (pc := 22) (j := 1) C dX10_isValue_22 rfl rfl ?_
    refine av_iconst (pc := 23) C dX10_isValue_23 rfl ?_
    refine av_iconst (pc := 24) C dX10_isValue_24 rfl ?_
    obtain ⟨x5, S4, hc6, hs⟩ := am_b2_of hs
    refine av_eq (st2 := [am_I 3, am_I 0, am_I b2]) rfl rfl rfl rfl (av_callS (pc := 25) (as := [am_I b2, am_I 0, am_I 3]) (rest := []) C (ct_X10_in l G b2 0 3 S x5 S4 hc6) ym_X10_in si_X10_171 st_X10_in ⟨Nat.le_of_ble_eq_true rfl, Nat.le_of_ble_eq_true rfl⟩ rfl rfl (Nat.le_of_ble_eq_true rfl) dX10_isValue_25 ⟨Nat.le_refl _, Nat.le_refl _⟩ (fun hrv => av_eq (st2 := [am_I x5]) rfl rfl rfl rfl ?_))
    refine av_if_eq (pc := 28) (tgt := 35) C dX10_isValue_28 (by decide) (fun hc => ?_) (fun hc => ?_)
    · rw [if_pos hc] at hs
      refine av_iconst (pc := 35) C dX10_isValue_35 rfl ?_
      obtain ⟨rfl, rfl⟩ := am_inj2 hs
      exact av_zret C (by decide) hr hlocks dX10_isValue_36
    · rw [if_neg hc] at hs
      refine av_iconst (pc := 31) C dX10_isValue_31 rfl ?_
      refine av_goto (pc := 32) (tgt := 36) C dX10_isValue_32 (by decide) ?_
      obtain ⟨rfl, rfl⟩ := am_inj2 hs
      exact av_zret C (by decide) hr hlocks dX10_isValue_36
set_option maxHeartbeats 4000000 in
set_option maxRecDepth 100000 in
theorem ct_X10_isValue (l : Launch) (G : am_G) (a1 : Int) (a2 : Int) (S : am_S) (x : Int) (SZ : am_S) (hs : sf_X10_isValue a1 a2 S = some (x, SZ)) : am_met l yX10_isValue cX10_isValue 3 (some .boolean) 2 43 G [am_R 74, am_I a1, am_I a2] S (some (am_I x)) SZ := by
  refine am_enter ym_X10_isValue (Nat.le_of_ble_eq_true rfl) ?_
  intro p e s m args below meth c C hr hlocks
  refine av_eq (lv2 := [(0, am_R 74), (1, am_I a1), (2, am_I a2)]) rfl rfl rfl rfl ?_
  unfold sf_X10_isValue at hs
  refine av_iload_n (pc := 0) (j := 1) C dX10_isValue_0 rfl rfl ?_
  refine av_if_eq (pc := 1) (tgt := 31) C dX10_isValue_1 (by decide) (fun hc => ?_) (fun hc => ?_)
  · rw [if_pos hc] at hs
    refine av_iconst (pc := 31) C dX10_isValue_31 rfl ?_
    refine av_goto (pc := 32) (tgt := 36) C dX10_isValue_32 (by decide) ?_
    obtain ⟨rfl, rfl⟩ := am_inj2 hs
    exact av_zret C (by decide) hr hlocks dX10_isValue_36
  · rw [if_neg hc] at hs
    refine av_iload_n (pc := 4) (j := 1) C dX10_isValue_4 rfl rfl ?_
    refine av_iconst (pc := 5) C dX10_isValue_5 rfl ?_
    refine av_icmp_ne (pc := 6) (tgt := 17) C dX10_isValue_6 (by decide) (fun hc => ?_) (fun hc => ?_)
    · rw [if_neg hc] at hs
      refine av_lvsub (lv2 := [(1, am_I a1), (2, am_I a2)]) [1, 2] rfl ?_
      exact wk_X10_isValue_17 C hr hlocks a1 a2 S x SZ hs
    · rw [if_pos (Decidable.not_not.mp hc)] at hs
      refine av_aload_n (pc := 9) (j := 0) C dX10_isValue_9 rfl rfl ?_
      refine av_iload_n (pc := 10) (j := 2) C dX10_isValue_10 rfl rfl ?_
      obtain ⟨x2, S1, hc3, hs⟩ := am_b2_of hs
      refine av_eq (st2 := [am_I a2, am_R 74]) rfl rfl rfl rfl (av_callV (pc := 11) (as := [am_I a2]) (rest := []) C (ct_X10_isPromise l G a2 S x2 S1 hc3) ym_X10_isPromise si_X10_175 im_X10_isPromise se_X10_isPromise sk_74 rfl ⟨Nat.le_of_ble_eq_true rfl, Nat.le_of_ble_eq_true rfl⟩ rfl rfl (Nat.le_of_ble_eq_true rfl) dX10_isValue_11 ⟨Nat.le_refl _, Nat.le_refl _⟩ (fun hrv => av_eq (st2 := [am_I x2]) rfl rfl rfl rfl ?_))
      refine av_if_ne (pc := 14) (tgt := 31) C dX10_isValue_14 (by decide) (fun hc => ?_) (fun hc => ?_)
      · rw [if_neg hc] at hs
        refine av_iconst (pc := 31) C dX10_isValue_31 rfl ?_
        refine av_goto (pc := 32) (tgt := 36) C dX10_isValue_32 (by decide) ?_
        obtain ⟨rfl, rfl⟩ := am_inj2 hs
        exact av_zret C (by decide) hr hlocks dX10_isValue_36
      · rw [if_pos (Decidable.not_not.mp hc)] at hs
        refine av_lvsub (lv2 := [(1, am_I a1), (2, am_I a2)]) [1, 2] rfl ?_
        exact wk_X10_isValue_17 C hr hlocks a1 a2 S1 x SZ hs
set_option maxHeartbeats 4000000 in
set_option maxRecDepth 100000 in
theorem ct_X10_promise (l : Launch) (G : am_G) (S : am_S) (x : Int) (SZ : am_S) (hs : sf_X10_promise  S = some (x, SZ)) : am_met l yX10_promise cX10_promise 2 (some .int) 0 0 G [am_R 74] S (some (am_I x)) SZ := by
  refine am_enter ym_X10_promise (Nat.le_of_ble_eq_true rfl) ?_
  intro p e s m args below meth c C hr hlocks
  refine av_eq (lv2 := [(0, am_R 74)]) rfl rfl rfl rfl ?_
  unfold sf_X10_promise at hs
  refine av_aload_n (pc := 0) (j := 0) C dX10_promise_0 rfl rfl ?_
  refine av_getI (pc := 1) (k := 9) (n := 4745) C fl_X10_152 sk_74 rfl rfl dX10_promise_1 ?_
  refine av_bipush (pc := 4) C dX10_promise_4 rfl ?_
  refine av_icmp_ne (pc := 6) (tgt := 12) C dX10_promise_6 (by decide) (fun hc => ?_) (fun hc => ?_)
  · rw [if_neg hc] at hs
    refine av_aload_n (pc := 12) (j := 0) C dX10_promise_12 rfl rfl ?_
    refine av_dup (pc := 13) C dX10_promise_13 rfl ?_
    refine av_getI (pc := 14) (k := 9) (n := 4745) C fl_X10_152 sk_74 rfl rfl dX10_promise_14 ?_
    refine av_dup_x1 (pc := 17) C dX10_promise_17 rfl rfl ?_
    refine av_iconst (pc := 18) C dX10_promise_18 rfl ?_
    refine av_iadd (pc := 19) C dX10_promise_19 ?_
    obtain ⟨S1, eS1, hs⟩ := am_let_of hs
    refine av_putI (pc := 20) (k := 9) (n := 4745) C fp_X10_152 sk_74 rfl rfl dX10_promise_20 ?_
    refine av_eq rfl rfl rfl eS1 ?_
    refine av_istore_n (pc := 23) (i := 1) (lv2 := [(1, am_I (S.1 4745)), (0, am_R 74)]) C dX10_promise_23 rfl (by decide) rfl ?_
    refine av_aload_n (pc := 24) (j := 1) C dX10_promise_24 rfl rfl ?_
    refine av_getR (pc := 25) (k := 0) (r := 75) C fl_X10_7 sk_74 rfl dX10_promise_25 ?_
    refine av_iload_n (pc := 28) (j := 0) C dX10_promise_28 rfl rfl ?_
    refine av_iconst (pc := 29) C dX10_promise_29 rfl ?_
    obtain ⟨hb, hs⟩ := am_gd_of hs
    obtain ⟨S2, eS2, hs⟩ := am_let_of hs
    refine av_iast (pc := 30) C sk_75 hb dX10_promise_30 ?_
    refine av_eq rfl rfl rfl eS2 ?_
    refine av_aload_n (pc := 31) (j := 1) C dX10_promise_31 rfl rfl ?_
    refine av_getR (pc := 32) (k := 3) (r := 78) C fl_X10_19 sk_74 rfl dX10_promise_32 ?_
    refine av_iload_n (pc := 35) (j := 0) C dX10_promise_35 rfl rfl ?_
    refine av_iconst (pc := 36) C dX10_promise_36 rfl ?_
    obtain ⟨hb, hs⟩ := am_gd_of hs
    obtain ⟨S3, eS3, hs⟩ := am_let_of hs
    refine av_iast (pc := 37) C sk_78 hb dX10_promise_37 ?_
    refine av_eq rfl rfl rfl eS3 ?_
    refine av_aload_n (pc := 38) (j := 1) C dX10_promise_38 rfl rfl ?_
    refine av_getR (pc := 39) (k := 6) (r := 81) C fl_X10_28 sk_74 rfl dX10_promise_39 ?_
    refine av_iload_n (pc := 42) (j := 0) C dX10_promise_42 rfl rfl ?_
    refine av_iconst (pc := 43) C dX10_promise_43 rfl ?_
    obtain ⟨hb, hs⟩ := am_gd_of hs
    obtain ⟨S4, eS4, hs⟩ := am_let_of hs
    refine av_zast (pc := 44) C sk_81 hb (by decide) dX10_promise_44 ?_
    refine av_eq rfl rfl rfl eS4 ?_
    refine av_aload_n (pc := 45) (j := 1) C dX10_promise_45 rfl rfl ?_
    refine av_getR (pc := 46) (k := 7) (r := 82) C fl_X10_32 sk_74 rfl dX10_promise_46 ?_
    refine av_iload_n (pc := 49) (j := 0) C dX10_promise_49 rfl rfl ?_
    refine av_iconst (pc := 50) C dX10_promise_50 rfl ?_
    obtain ⟨hb, hs⟩ := am_gd_of hs
    obtain ⟨S5, eS5, hs⟩ := am_let_of hs
    refine av_zast (pc := 51) C sk_82 hb (by decide) dX10_promise_51 ?_
    refine av_eq rfl rfl rfl eS5 ?_
    refine av_aload_n (pc := 52) (j := 1) C dX10_promise_52 rfl rfl ?_
    refine av_getR (pc := 53) (k := 8) (r := 83) C fl_X10_35 sk_74 rfl dX10_promise_53 ?_
    refine av_iload_n (pc := 56) (j := 0) C dX10_promise_56 rfl rfl ?_
    refine av_iconst (pc := 57) C dX10_promise_57 rfl ?_
    obtain ⟨hb, hs⟩ := am_gd_of hs
    obtain ⟨S6, eS6, hs⟩ := am_let_of hs
    refine av_zast (pc := 58) C sk_83 hb (by decide) dX10_promise_58 ?_
    refine av_eq rfl rfl rfl eS6 ?_
    refine av_iload_n (pc := 59) (j := 0) C dX10_promise_59 rfl rfl ?_
    obtain ⟨rfl, rfl⟩ := am_inj2 hs
    exact av_iret C hr hlocks dX10_promise_60
  · rw [if_pos (Decidable.not_not.mp hc)] at hs
    refine av_bipush (pc := 9) C dX10_promise_9 rfl ?_
    obtain ⟨rfl, rfl⟩ := am_inj2 hs
    exact av_iret C hr hlocks dX10_promise_11
set_option maxHeartbeats 4000000 in
set_option maxRecDepth 100000 in
theorem wk_X10_enter_3 {p : Program} {l : Launch} {e : Env} {s : State} {m : MethodId} {args : Array Value} {below : List Frame} {meth : Method} {c : Code} {G : am_G} (C : am_C p s m args c cX10_enter 7 RX10 G) (hr : meth.sig.returnType = (some .int)) (hlocks : meth.locks = false) : ∀ (fu : Nat) (b1 : Int) (b2 : Int) (b3 : Int) (b4 : Int) (b5 : Int) (b6 : Int) (S : am_S) (x : Int) (SZ : am_S), sf_X10_enter_3 fu b1 b2 b3 b4 b5 b6 S = some (x, SZ) → am_V p l e (am_rm 0 0) s m args below meth c (MQ below (am_Q G (some (am_I x)) SZ) args s 0 0 (am_A G)) G (am_A G) s.heap 7 0 0 3 [(0, am_R 74), (1, am_I b1), (2, am_I b2), (3, am_I b3), (4, am_I b4), (5, am_I b5), (6, am_I b6)] [] S := by
  intro fu
  induction fu with
  | zero => intro b1 b2 b3 b4 b5 b6 S x SZ hs; cases hs
  | succ fu ih =>
    intro b1 b2 b3 b4 b5 b6 S x SZ hs
    unfold sf_X10_enter_3 at hs
    refine av_aload_n (pc := 3) (j := 0) C dX10_enter_3 rfl rfl ?_
    refine av_getR (pc := 4) (k := 10) (r := 84) C fl_X10_38 sk_74 rfl dX10_enter_4 ?_
    refine av_iload (pc := 7) (j := 6) C dX10_enter_7 rfl ?_
    obtain ⟨hb, hs⟩ := am_gd_of hs
    refine av_iald (pc := 9) C sk_84 hb dX10_enter_9 ?_
    refine av_if_eq (pc := 10) (tgt := 19) C dX10_enter_10 (by decide) (fun hc => ?_) (fun hc => ?_)
    · rw [if_pos hc] at hs
      refine av_aload_n (pc := 19) (j := 0) C dX10_enter_19 rfl rfl ?_
      refine av_getR (pc := 20) (k := 10) (r := 84) C fl_X10_38 sk_74 rfl dX10_enter_20 ?_
      refine av_iload (pc := 23) (j := 6) C dX10_enter_23 rfl ?_
      refine av_iload_n (pc := 25) (j := 1) C dX10_enter_25 rfl rfl ?_
      obtain ⟨hb, hs⟩ := am_gd_of hs
      obtain ⟨S1, eS1, hs⟩ := am_let_of hs
      refine av_iast (pc := 26) C sk_84 hb dX10_enter_26 ?_
      refine av_eq rfl rfl rfl eS1 ?_
      refine av_aload_n (pc := 27) (j := 0) C dX10_enter_27 rfl rfl ?_
      refine av_getR (pc := 28) (k := 11) (r := 85) C fl_X10_41 sk_74 rfl dX10_enter_28 ?_
      refine av_iload (pc := 31) (j := 6) C dX10_enter_31 rfl ?_
      refine av_iload_n (pc := 33) (j := 2) C dX10_enter_33 rfl rfl ?_
      obtain ⟨hb, hs⟩ := am_gd_of hs
      obtain ⟨S2, eS2, hs⟩ := am_let_of hs
      refine av_iast (pc := 34) C sk_85 hb dX10_enter_34 ?_
      refine av_eq rfl rfl rfl eS2 ?_
      refine av_aload_n (pc := 35) (j := 0) C dX10_enter_35 rfl rfl ?_
      refine av_getR (pc := 36) (k := 12) (r := 86) C fl_X10_44 sk_74 rfl dX10_enter_36 ?_
      refine av_iload (pc := 39) (j := 6) C dX10_enter_39 rfl ?_
      refine av_aload_n (pc := 41) (j := 0) C dX10_enter_41 rfl rfl ?_
      refine av_dup (pc := 42) C dX10_enter_42 rfl ?_
      refine av_getI (pc := 43) (k := 19) (n := 4755) C fl_X10_156 sk_74 rfl rfl dX10_enter_43 ?_
      refine av_iconst (pc := 46) C dX10_enter_46 rfl ?_
      refine av_iadd (pc := 47) C dX10_enter_47 ?_
      refine av_dup_x1 (pc := 48) C dX10_enter_48 rfl rfl ?_
      obtain ⟨S3, eS3, hs⟩ := am_let_of hs
      refine av_putI (pc := 49) (k := 19) (n := 4755) C fp_X10_156 sk_74 rfl rfl dX10_enter_49 ?_
      refine av_eq rfl rfl rfl eS3 ?_
      obtain ⟨hb, hs⟩ := am_gd_of hs
      obtain ⟨S4, eS4, hs⟩ := am_let_of hs
      refine av_iast (pc := 52) C sk_86 hb dX10_enter_52 ?_
      refine av_eq rfl rfl rfl eS4 ?_
      refine av_aload_n (pc := 53) (j := 0) C dX10_enter_53 rfl rfl ?_
      refine av_getR (pc := 54) (k := 13) (r := 87) C fl_X10_47 sk_74 rfl dX10_enter_54 ?_
      refine av_iload (pc := 57) (j := 6) C dX10_enter_57 rfl ?_
      refine av_iload_n (pc := 59) (j := 3) C dX10_enter_59 rfl rfl ?_
      obtain ⟨hb, hs⟩ := am_gd_of hs
      obtain ⟨S5, eS5, hs⟩ := am_let_of hs
      refine av_iast (pc := 60) C sk_87 hb dX10_enter_60 ?_
      refine av_eq rfl rfl rfl eS5 ?_
      refine av_aload_n (pc := 61) (j := 0) C dX10_enter_61 rfl rfl ?_
      refine av_getR (pc := 62) (k := 14) (r := 88) C fl_X10_50 sk_74 rfl dX10_enter_62 ?_
      refine av_iload (pc := 65) (j := 6) C dX10_enter_65 rfl ?_
      refine av_iload (pc := 67) (j := 4) C dX10_enter_67 rfl ?_
      obtain ⟨hb, hs⟩ := am_gd_of hs
      obtain ⟨S6, eS6, hs⟩ := am_let_of hs
      refine av_iast (pc := 69) C sk_88 hb dX10_enter_69 ?_
      refine av_eq rfl rfl rfl eS6 ?_
      refine av_aload_n (pc := 70) (j := 0) C dX10_enter_70 rfl rfl ?_
      refine av_getR (pc := 71) (k := 15) (r := 89) C fl_X10_53 sk_74 rfl dX10_enter_71 ?_
      refine av_iload (pc := 74) (j := 6) C dX10_enter_74 rfl ?_
      refine av_iload (pc := 76) (j := 5) C dX10_enter_76 rfl ?_
      obtain ⟨hb, hs⟩ := am_gd_of hs
      obtain ⟨S7, eS7, hs⟩ := am_let_of hs
      refine av_iast (pc := 78) C sk_89 hb dX10_enter_78 ?_
      refine av_eq rfl rfl rfl eS7 ?_
      refine av_iload (pc := 79) (j := 6) C dX10_enter_79 rfl ?_
      obtain ⟨rfl, rfl⟩ := am_inj2 hs
      exact av_iret C hr hlocks dX10_enter_81
    · rw [if_neg hc] at hs
      refine av_iinc (pc := 13) (j := 6) (lv2 := [(6, am_I (am_w32 (b6 + 1))), (0, am_R 74), (1, am_I b1), (2, am_I b2), (3, am_I b3), (4, am_I b4), (5, am_I b5)]) C dX10_enter_13 rfl (by decide) rfl ?_
      refine av_goto (pc := 16) (tgt := 3) C dX10_enter_16 (by decide) ?_
      refine av_lvsub (lv2 := [(0, am_R 74), (1, am_I b1), (2, am_I b2), (3, am_I b3), (4, am_I b4), (5, am_I b5), (6, am_I (am_w32 (b6 + 1)))]) [1, 2, 3, 4, 5, 6, 0] rfl ?_
      exact ih b1 b2 b3 b4 b5 (am_w32 (b6 + 1)) S x SZ hs
set_option maxHeartbeats 4000000 in
set_option maxRecDepth 100000 in
theorem ct_X10_enter (l : Launch) (G : am_G) (a1 : Int) (a2 : Int) (a3 : Int) (a4 : Int) (a5 : Int) (S : am_S) (x : Int) (SZ : am_S) (hs : sf_X10_enter a1 a2 a3 a4 a5 S = some (x, SZ)) : am_met l yX10_enter cX10_enter 7 (some .int) 0 0 G [am_R 74, am_I a1, am_I a2, am_I a3, am_I a4, am_I a5] S (some (am_I x)) SZ := by
  refine am_enter ym_X10_enter (Nat.le_of_ble_eq_true rfl) ?_
  intro p e s m args below meth c C hr hlocks
  refine av_eq (lv2 := [(0, am_R 74), (1, am_I a1), (2, am_I a2), (3, am_I a3), (4, am_I a4), (5, am_I a5)]) rfl rfl rfl rfl ?_
  unfold sf_X10_enter at hs
  refine av_iconst (pc := 0) C dX10_enter_0 rfl ?_
  refine av_istore (pc := 1) (i := 6) (lv2 := [(6, am_I 0), (0, am_R 74), (1, am_I a1), (2, am_I a2), (3, am_I a3), (4, am_I a4), (5, am_I a5)]) C dX10_enter_1 (by decide) rfl ?_
  refine av_lvsub (lv2 := [(0, am_R 74), (1, am_I a1), (2, am_I a2), (3, am_I a3), (4, am_I a4), (5, am_I a5), (6, am_I 0)]) [1, 2, 3, 4, 5, 6, 0] rfl ?_
  exact wk_X10_enter_3 C hr hlocks 1000 a1 a2 a3 a4 a5 0 S x SZ hs
set_option maxHeartbeats 4000000 in
set_option maxRecDepth 100000 in
theorem ct_X10_carry (l : Launch) (G : am_G) (a1 : Int) (a2 : Int) (a3 : Int) (a4 : Int) (S : am_S) (SZ : am_S) (hs : sf_X10_carry a1 a2 a3 a4 S = some SZ) : am_met l yX10_carry cX10_carry 5 none 0 0 G [am_R 74, am_I a1, am_I a2, am_I a3, am_I a4] S none SZ := by
  refine am_enter ym_X10_carry (Nat.le_of_ble_eq_true rfl) ?_
  intro p e s m args below meth c C hr hlocks
  refine av_eq (lv2 := [(0, am_R 74), (1, am_I a1), (2, am_I a2), (3, am_I a3), (4, am_I a4)]) rfl rfl rfl rfl ?_
  unfold sf_X10_carry at hs
  refine av_aload_n (pc := 0) (j := 0) C dX10_carry_0 rfl rfl ?_
  refine av_getR (pc := 1) (k := 11) (r := 85) C fl_X10_41 sk_74 rfl dX10_carry_1 ?_
  refine av_iload_n (pc := 4) (j := 1) C dX10_carry_4 rfl rfl ?_
  refine av_iconst (pc := 5) C dX10_carry_5 rfl ?_
  obtain ⟨hb, hs⟩ := am_gd_of hs
  obtain ⟨S1, eS1, hs⟩ := am_let_of hs
  refine av_iast (pc := 6) C sk_85 hb dX10_carry_6 ?_
  refine av_eq rfl rfl rfl eS1 ?_
  refine av_aload_n (pc := 7) (j := 0) C dX10_carry_7 rfl rfl ?_
  refine av_getR (pc := 8) (k := 16) (r := 90) C fl_X10_56 sk_74 rfl dX10_carry_8 ?_
  refine av_iload_n (pc := 11) (j := 1) C dX10_carry_11 rfl rfl ?_
  refine av_iload_n (pc := 12) (j := 2) C dX10_carry_12 rfl rfl ?_
  obtain ⟨hb, hs⟩ := am_gd_of hs
  obtain ⟨S2, eS2, hs⟩ := am_let_of hs
  refine av_iast (pc := 13) C sk_90 hb dX10_carry_13 ?_
  refine av_eq rfl rfl rfl eS2 ?_
  refine av_aload_n (pc := 14) (j := 0) C dX10_carry_14 rfl rfl ?_
  refine av_getR (pc := 15) (k := 17) (r := 91) C fl_X10_59 sk_74 rfl dX10_carry_15 ?_
  refine av_iload_n (pc := 18) (j := 1) C dX10_carry_18 rfl rfl ?_
  refine av_iload_n (pc := 19) (j := 3) C dX10_carry_19 rfl rfl ?_
  obtain ⟨hb, hs⟩ := am_gd_of hs
  obtain ⟨S3, eS3, hs⟩ := am_let_of hs
  refine av_iast (pc := 20) C sk_91 hb dX10_carry_20 ?_
  refine av_eq rfl rfl rfl eS3 ?_
  refine av_aload_n (pc := 21) (j := 0) C dX10_carry_21 rfl rfl ?_
  refine av_getR (pc := 22) (k := 18) (r := 92) C fl_X10_62 sk_74 rfl dX10_carry_22 ?_
  refine av_iload_n (pc := 25) (j := 1) C dX10_carry_25 rfl rfl ?_
  refine av_iload (pc := 26) (j := 4) C dX10_carry_26 rfl ?_
  obtain ⟨hb, hs⟩ := am_gd_of hs
  obtain ⟨S4, eS4, hs⟩ := am_let_of hs
  refine av_iast (pc := 28) C sk_92 hb dX10_carry_28 ?_
  refine av_eq rfl rfl rfl eS4 ?_
  obtain rfl := am_inj1 hs
  exact av_vret C hr hlocks dX10_carry_29
set_option maxHeartbeats 4000000 in
set_option maxRecDepth 100000 in
theorem wk_X10_firstOn_4 {p : Program} {l : Launch} {e : Env} {s : State} {m : MethodId} {args : Array Value} {below : List Frame} {meth : Method} {c : Code} {G : am_G} (C : am_C p s m args c cX10_firstOn 4 RX10 G) (hr : meth.sig.returnType = (some .int)) (hlocks : meth.locks = false) : ∀ (fu : Nat) (b1 : Int) (b2 : Int) (b3 : Int) (S : am_S) (x : Int) (SZ : am_S), sf_X10_firstOn_4 fu b1 b2 b3 S = some (x, SZ) → am_V p l e (am_rm 0 0) s m args below meth c (MQ below (am_Q G (some (am_I x)) SZ) args s 0 0 (am_A G)) G (am_A G) s.heap 4 0 0 4 [(0, am_R 74), (1, am_I b1), (2, am_I b2), (3, am_I b3)] [] S := by
  intro fu
  induction fu with
  | zero => intro b1 b2 b3 S x SZ hs; cases hs
  | succ fu ih =>
    intro b1 b2 b3 S x SZ hs
    unfold sf_X10_firstOn_4 at hs
    refine av_iload_n (pc := 4) (j := 3) C dX10_firstOn_4 rfl rfl ?_
    refine av_sipush (pc := 5) C dX10_firstOn_5 rfl ?_
    refine av_icmp_ge (pc := 8) (tgt := 57) C dX10_firstOn_8 (by decide) (fun hc => ?_) (fun hc => ?_)
    · rw [if_pos hc] at hs
      refine av_iload_n (pc := 57) (j := 2) C dX10_firstOn_57 rfl rfl ?_
      obtain ⟨rfl, rfl⟩ := am_inj2 hs
      exact av_iret C hr hlocks dX10_firstOn_58
    · rw [if_neg hc] at hs
      refine av_aload_n (pc := 11) (j := 0) C dX10_firstOn_11 rfl rfl ?_
      refine av_getR (pc := 12) (k := 10) (r := 84) C fl_X10_38 sk_74 rfl dX10_firstOn_12 ?_
      refine av_iload_n (pc := 15) (j := 3) C dX10_firstOn_15 rfl rfl ?_
      obtain ⟨hb, hs⟩ := am_gd_of hs
      refine av_iald (pc := 16) C sk_84 hb dX10_firstOn_16 ?_
      refine av_if_eq (pc := 17) (tgt := 51) C dX10_firstOn_17 (by decide) (fun hc => ?_) (fun hc => ?_)
      · rw [if_pos hc] at hs
        refine av_iinc (pc := 51) (j := 3) (lv2 := [(3, am_I (am_w32 (b3 + 1))), (0, am_R 74), (1, am_I b1), (2, am_I b2)]) C dX10_firstOn_51 rfl (by decide) rfl ?_
        refine av_goto (pc := 54) (tgt := 4) C dX10_firstOn_54 (by decide) ?_
        refine av_lvsub (lv2 := [(0, am_R 74), (1, am_I b1), (2, am_I b2), (3, am_I (am_w32 (b3 + 1)))]) [1, 2, 3, 0] rfl ?_
        exact ih b1 b2 (am_w32 (b3 + 1)) S x SZ hs
      · rw [if_neg hc] at hs
        refine av_aload_n (pc := 20) (j := 0) C dX10_firstOn_20 rfl rfl ?_
        refine av_getR (pc := 21) (k := 11) (r := 85) C fl_X10_41 sk_74 rfl dX10_firstOn_21 ?_
        refine av_iload_n (pc := 24) (j := 3) C dX10_firstOn_24 rfl rfl ?_
        obtain ⟨hb, hs⟩ := am_gd_of hs
        refine av_iald (pc := 25) C sk_85 hb dX10_firstOn_25 ?_
        refine av_iload_n (pc := 26) (j := 1) C dX10_firstOn_26 rfl rfl ?_
        refine av_icmp_ne (pc := 27) (tgt := 51) C dX10_firstOn_27 (by decide) (fun hc => ?_) (fun hc => ?_)
        · rw [if_neg hc] at hs
          refine av_iinc (pc := 51) (j := 3) (lv2 := [(3, am_I (am_w32 (b3 + 1))), (0, am_R 74), (1, am_I b1), (2, am_I b2)]) C dX10_firstOn_51 rfl (by decide) rfl ?_
          refine av_goto (pc := 54) (tgt := 4) C dX10_firstOn_54 (by decide) ?_
          refine av_lvsub (lv2 := [(0, am_R 74), (1, am_I b1), (2, am_I b2), (3, am_I (am_w32 (b3 + 1)))]) [1, 2, 3, 0] rfl ?_
          exact ih b1 b2 (am_w32 (b3 + 1)) S x SZ hs
        · rw [if_pos (Decidable.not_not.mp hc)] at hs
          refine av_iload_n (pc := 30) (j := 2) C dX10_firstOn_30 rfl rfl ?_
          refine av_if_lt (pc := 31) (tgt := 49) C dX10_firstOn_31 (by decide) (fun hc => ?_) (fun hc => ?_)
          · rw [if_pos hc] at hs
            refine av_iload_n (pc := 49) (j := 3) C dX10_firstOn_49 rfl rfl ?_
            refine av_istore_n (pc := 50) (i := 2) (lv2 := [(2, am_I b3), (0, am_R 74), (1, am_I b1), (3, am_I b3)]) C dX10_firstOn_50 rfl (by decide) rfl ?_
            refine av_iinc (pc := 51) (j := 3) (lv2 := [(3, am_I (am_w32 (b3 + 1))), (2, am_I b3), (0, am_R 74), (1, am_I b1)]) C dX10_firstOn_51 rfl (by decide) rfl ?_
            refine av_goto (pc := 54) (tgt := 4) C dX10_firstOn_54 (by decide) ?_
            refine av_lvsub (lv2 := [(0, am_R 74), (1, am_I b1), (2, am_I b3), (3, am_I (am_w32 (b3 + 1)))]) [2, 3, 1, 0] rfl ?_
            exact ih b1 b3 (am_w32 (b3 + 1)) S x SZ hs
          · rw [if_neg hc] at hs
            refine av_aload_n (pc := 34) (j := 0) C dX10_firstOn_34 rfl rfl ?_
            refine av_getR (pc := 35) (k := 12) (r := 86) C fl_X10_44 sk_74 rfl dX10_firstOn_35 ?_
            refine av_iload_n (pc := 38) (j := 3) C dX10_firstOn_38 rfl rfl ?_
            obtain ⟨hb, hs⟩ := am_gd_of hs
            refine av_iald (pc := 39) C sk_86 hb dX10_firstOn_39 ?_
            refine av_aload_n (pc := 40) (j := 0) C dX10_firstOn_40 rfl rfl ?_
            refine av_getR (pc := 41) (k := 12) (r := 86) C fl_X10_44 sk_74 rfl dX10_firstOn_41 ?_
            refine av_iload_n (pc := 44) (j := 2) C dX10_firstOn_44 rfl rfl ?_
            obtain ⟨hb, hs⟩ := am_gd_of hs
            refine av_iald (pc := 45) C sk_86 hb dX10_firstOn_45 ?_
            refine av_icmp_ge (pc := 46) (tgt := 51) C dX10_firstOn_46 (by decide) (fun hc => ?_) (fun hc => ?_)
            · rw [if_pos hc] at hs
              refine av_iinc (pc := 51) (j := 3) (lv2 := [(3, am_I (am_w32 (b3 + 1))), (0, am_R 74), (1, am_I b1), (2, am_I b2)]) C dX10_firstOn_51 rfl (by decide) rfl ?_
              refine av_goto (pc := 54) (tgt := 4) C dX10_firstOn_54 (by decide) ?_
              refine av_lvsub (lv2 := [(0, am_R 74), (1, am_I b1), (2, am_I b2), (3, am_I (am_w32 (b3 + 1)))]) [1, 2, 3, 0] rfl ?_
              exact ih b1 b2 (am_w32 (b3 + 1)) S x SZ hs
            · rw [if_neg hc] at hs
              refine av_iload_n (pc := 49) (j := 3) C dX10_firstOn_49 rfl rfl ?_
              refine av_istore_n (pc := 50) (i := 2) (lv2 := [(2, am_I b3), (0, am_R 74), (1, am_I b1), (3, am_I b3)]) C dX10_firstOn_50 rfl (by decide) rfl ?_
              refine av_iinc (pc := 51) (j := 3) (lv2 := [(3, am_I (am_w32 (b3 + 1))), (2, am_I b3), (0, am_R 74), (1, am_I b1)]) C dX10_firstOn_51 rfl (by decide) rfl ?_
              refine av_goto (pc := 54) (tgt := 4) C dX10_firstOn_54 (by decide) ?_
              refine av_lvsub (lv2 := [(0, am_R 74), (1, am_I b1), (2, am_I b3), (3, am_I (am_w32 (b3 + 1)))]) [2, 3, 1, 0] rfl ?_
              exact ih b1 b3 (am_w32 (b3 + 1)) S x SZ hs
set_option maxHeartbeats 4000000 in
set_option maxRecDepth 100000 in
theorem ct_X10_firstOn (l : Launch) (G : am_G) (a1 : Int) (S : am_S) (x : Int) (SZ : am_S) (hs : sf_X10_firstOn a1 S = some (x, SZ)) : am_met l yX10_firstOn cX10_firstOn 4 (some .int) 0 0 G [am_R 74, am_I a1] S (some (am_I x)) SZ := by
  refine am_enter ym_X10_firstOn (Nat.le_of_ble_eq_true rfl) ?_
  intro p e s m args below meth c C hr hlocks
  refine av_eq (lv2 := [(0, am_R 74), (1, am_I a1)]) rfl rfl rfl rfl ?_
  unfold sf_X10_firstOn at hs
  refine av_iconst (pc := 0) C dX10_firstOn_0 rfl ?_
  refine av_istore_n (pc := 1) (i := 2) (lv2 := [(2, am_I (-1)), (0, am_R 74), (1, am_I a1)]) C dX10_firstOn_1 rfl (by decide) rfl ?_
  refine av_iconst (pc := 2) C dX10_firstOn_2 rfl ?_
  refine av_istore_n (pc := 3) (i := 3) (lv2 := [(3, am_I 0), (2, am_I (-1)), (0, am_R 74), (1, am_I a1)]) C dX10_firstOn_3 rfl (by decide) rfl ?_
  refine av_lvsub (lv2 := [(0, am_R 74), (1, am_I a1), (2, am_I (-1)), (3, am_I 0)]) [2, 3, 1, 0] rfl ?_
  exact wk_X10_firstOn_4 C hr hlocks 1000 a1 (-1) 0 S x SZ hs
set_option maxHeartbeats 4000000 in
set_option maxRecDepth 100000 in
theorem wk_X10_settle_29 {p : Program} {l : Launch} {e : Env} {s : State} {m : MethodId} {args : Array Value} {below : List Frame} {meth : Method} {c : Code} {G : am_G} (C : am_C p s m args c cX10_settle 6 RX10 G) (hr : meth.sig.returnType = none) (hlocks : meth.locks = false) : ∀ (fu : Nat) (b1 : Int) (b2 : Int) (b3 : Int) (b4 : Int) (b5 : Int) (S : am_S) (SZ : am_S), sf_X10_settle_29 fu b1 b2 b3 b4 b5 S = some SZ → am_V p l e (am_rm 1 24) s m args below meth c (MQ below (am_Q G none SZ) args s 0 0 (am_A G)) G (am_A G) s.heap 6 0 0 29 [(0, am_R 74), (1, am_I b1), (2, am_I b2), (3, am_I b3), (4, am_I b4), (5, am_I b5)] [] S := by
  intro fu
  induction fu with
  | zero => intro b1 b2 b3 b4 b5 S SZ hs; cases hs
  | succ fu ih =>
    intro b1 b2 b3 b4 b5 S SZ hs
    unfold sf_X10_settle_29 at hs
    refine av_iload (pc := 29) (j := 5) C dX10_settle_29 rfl ?_
    refine av_if_lt (pc := 31) (tgt := 72) C dX10_settle_31 (by decide) (fun hc => ?_) (fun hc => ?_)
    · rw [if_pos hc] at hs
      obtain rfl := am_inj1 hs
      exact av_vret C hr hlocks dX10_settle_72
    · rw [if_neg hc] at hs
      refine av_aload_n (pc := 34) (j := 0) C dX10_settle_34 rfl rfl ?_
      refine av_iload (pc := 35) (j := 5) C dX10_settle_35 rfl ?_
      refine av_iload_n (pc := 37) (j := 2) C dX10_settle_37 rfl rfl ?_
      refine av_iload_n (pc := 38) (j := 3) C dX10_settle_38 rfl rfl ?_
      refine av_iload (pc := 39) (j := 4) C dX10_settle_39 rfl ?_
      obtain ⟨S7, hc8, hs⟩ := am_b1_of hs
      refine av_eq (st2 := [am_I b4, am_I b3, am_I b2, am_I b5, am_R 74]) rfl rfl rfl rfl (av_callV (pc := 41) (as := [am_I b5, am_I b2, am_I b3, am_I b4]) (rest := []) C (ct_X10_carry l G b5 b2 b3 b4 S S7 hc8) ym_X10_carry si_X10_183 im_X10_carry se_X10_carry sk_74 rfl ⟨Nat.le_of_ble_eq_true rfl, Nat.le_of_ble_eq_true rfl⟩ rfl rfl (Nat.le_of_ble_eq_true rfl) dX10_settle_41 ⟨Nat.le_refl _, Nat.le_refl _⟩ (fun hrv => av_eq (st2 := []) rfl rfl rfl rfl ?_))
      refine av_aload_n (pc := 44) (j := 0) C dX10_settle_44 rfl rfl ?_
      refine av_getR (pc := 45) (k := 12) (r := 86) C fl_X10_44 sk_74 rfl dX10_settle_45 ?_
      refine av_iload (pc := 48) (j := 5) C dX10_settle_48 rfl ?_
      refine av_aload_n (pc := 50) (j := 0) C dX10_settle_50 rfl rfl ?_
      refine av_dup (pc := 51) C dX10_settle_51 rfl ?_
      refine av_getI (pc := 52) (k := 19) (n := 4755) C fl_X10_156 sk_74 rfl rfl dX10_settle_52 ?_
      refine av_iconst (pc := 55) C dX10_settle_55 rfl ?_
      refine av_iadd (pc := 56) C dX10_settle_56 ?_
      refine av_dup_x1 (pc := 57) C dX10_settle_57 rfl rfl ?_
      obtain ⟨S9, eS9, hs⟩ := am_let_of hs
      refine av_putI (pc := 58) (k := 19) (n := 4755) C fp_X10_156 sk_74 rfl rfl dX10_settle_58 ?_
      refine av_eq rfl rfl rfl eS9 ?_
      obtain ⟨hb, hs⟩ := am_gd_of hs
      obtain ⟨S10, eS10, hs⟩ := am_let_of hs
      refine av_iast (pc := 61) C sk_86 hb dX10_settle_61 ?_
      refine av_eq rfl rfl rfl eS10 ?_
      refine av_aload_n (pc := 62) (j := 0) C dX10_settle_62 rfl rfl ?_
      refine av_iload_n (pc := 63) (j := 1) C dX10_settle_63 rfl rfl ?_
      obtain ⟨x12, S11, hc13, hs⟩ := am_b2_of hs
      refine av_eq (st2 := [am_I b1, am_R 74]) rfl rfl rfl rfl (av_callV (pc := 64) (as := [am_I b1]) (rest := []) C (ct_X10_firstOn l G b1 S10 x12 S11 hc13) ym_X10_firstOn si_X10_179 im_X10_firstOn se_X10_firstOn sk_74 rfl ⟨Nat.le_of_ble_eq_true rfl, Nat.le_of_ble_eq_true rfl⟩ rfl rfl (Nat.le_of_ble_eq_true rfl) dX10_settle_64 ⟨Nat.le_refl _, Nat.le_refl _⟩ (fun hrv => av_eq (st2 := [am_I x12]) rfl rfl rfl rfl ?_))
      refine av_istore (pc := 67) (i := 5) (lv2 := [(5, am_I x12), (0, am_R 74), (1, am_I b1), (2, am_I b2), (3, am_I b3), (4, am_I b4)]) C dX10_settle_67 (by decide) rfl ?_
      refine av_goto (pc := 69) (tgt := 29) C dX10_settle_69 (by decide) ?_
      refine av_lvsub (lv2 := [(0, am_R 74), (1, am_I b1), (2, am_I b2), (3, am_I b3), (4, am_I b4), (5, am_I x12)]) [1, 2, 3, 4, 5, 0] rfl ?_
      exact ih b1 b2 b3 b4 x12 S11 SZ hs
set_option maxHeartbeats 4000000 in
set_option maxRecDepth 100000 in
theorem ct_X10_settle (l : Launch) (G : am_G) (a1 : Int) (a2 : Int) (a3 : Int) (a4 : Int) (S : am_S) (SZ : am_S) (hs : sf_X10_settle a1 a2 a3 a4 S = some SZ) : am_met l yX10_settle cX10_settle 6 none 1 24 G [am_R 74, am_I a1, am_I a2, am_I a3, am_I a4] S none SZ := by
  refine am_enter ym_X10_settle (Nat.le_of_ble_eq_true rfl) ?_
  intro p e s m args below meth c C hr hlocks
  refine av_eq (lv2 := [(0, am_R 74), (1, am_I a1), (2, am_I a2), (3, am_I a3), (4, am_I a4)]) rfl rfl rfl rfl ?_
  unfold sf_X10_settle at hs
  refine av_aload_n (pc := 0) (j := 0) C dX10_settle_0 rfl rfl ?_
  refine av_getR (pc := 1) (k := 0) (r := 75) C fl_X10_7 sk_74 rfl dX10_settle_1 ?_
  refine av_iload_n (pc := 4) (j := 1) C dX10_settle_4 rfl rfl ?_
  refine av_iload_n (pc := 5) (j := 2) C dX10_settle_5 rfl rfl ?_
  obtain ⟨hb, hs⟩ := am_gd_of hs
  obtain ⟨S1, eS1, hs⟩ := am_let_of hs
  refine av_iast (pc := 6) C sk_75 hb dX10_settle_6 ?_
  refine av_eq rfl rfl rfl eS1 ?_
  refine av_aload_n (pc := 7) (j := 0) C dX10_settle_7 rfl rfl ?_
  refine av_getR (pc := 8) (k := 1) (r := 76) C fl_X10_13 sk_74 rfl dX10_settle_8 ?_
  refine av_iload_n (pc := 11) (j := 1) C dX10_settle_11 rfl rfl ?_
  refine av_iload_n (pc := 12) (j := 3) C dX10_settle_12 rfl rfl ?_
  obtain ⟨hb, hs⟩ := am_gd_of hs
  obtain ⟨S2, eS2, hs⟩ := am_let_of hs
  refine av_iast (pc := 13) C sk_76 hb dX10_settle_13 ?_
  refine av_eq rfl rfl rfl eS2 ?_
  refine av_aload_n (pc := 14) (j := 0) C dX10_settle_14 rfl rfl ?_
  refine av_getR (pc := 15) (k := 2) (r := 77) C fl_X10_16 sk_74 rfl dX10_settle_15 ?_
  refine av_iload_n (pc := 18) (j := 1) C dX10_settle_18 rfl rfl ?_
  refine av_iload (pc := 19) (j := 4) C dX10_settle_19 rfl ?_
  obtain ⟨hb, hs⟩ := am_gd_of hs
  obtain ⟨S3, eS3, hs⟩ := am_let_of hs
  refine av_iast (pc := 21) C sk_77 hb dX10_settle_21 ?_
  refine av_eq rfl rfl rfl eS3 ?_
  refine av_aload_n (pc := 22) (j := 0) C dX10_settle_22 rfl rfl ?_
  refine av_iload_n (pc := 23) (j := 1) C dX10_settle_23 rfl rfl ?_
  obtain ⟨x5, S4, hc6, hs⟩ := am_b2_of hs
  refine av_eq (st2 := [am_I a1, am_R 74]) rfl rfl rfl rfl (av_callV (pc := 24) (as := [am_I a1]) (rest := []) C (ct_X10_firstOn l G a1 S3 x5 S4 hc6) ym_X10_firstOn si_X10_179 im_X10_firstOn se_X10_firstOn sk_74 rfl ⟨Nat.le_of_ble_eq_true rfl, Nat.le_of_ble_eq_true rfl⟩ rfl rfl (Nat.le_of_ble_eq_true rfl) dX10_settle_24 ⟨Nat.le_refl _, Nat.le_refl _⟩ (fun hrv => av_eq (st2 := [am_I x5]) rfl rfl rfl rfl ?_))
  refine av_istore (pc := 27) (i := 5) (lv2 := [(5, am_I x5), (0, am_R 74), (1, am_I a1), (2, am_I a2), (3, am_I a3), (4, am_I a4)]) C dX10_settle_27 (by decide) rfl ?_
  refine av_lvsub (lv2 := [(0, am_R 74), (1, am_I a1), (2, am_I a2), (3, am_I a3), (4, am_I a4), (5, am_I x5)]) [1, 2, 3, 4, 5, 0] rfl ?_
  exact wk_X10_settle_29 C hr hlocks 1000 a1 a2 a3 a4 x5 S4 SZ hs
set_option maxHeartbeats 4000000 in
set_option maxRecDepth 100000 in
theorem ct_X10_takes (l : Launch) (G : am_G) (a1 : Int) (a2 : Int) (S : am_S) (x : Int) (SZ : am_S) (hs : sf_X10_takes a1 a2 S = some (x, SZ)) : am_met l yX10_takes cX10_takes 4 (some .boolean) 0 0 G [am_R 74, am_I a1, am_I a2] S (some (am_I x)) SZ := by
  refine am_enter ym_X10_takes (Nat.le_of_ble_eq_true rfl) ?_
  intro p e s m args below meth c C hr hlocks
  refine av_eq (lv2 := [(0, am_R 74), (1, am_I a1), (2, am_I a2)]) rfl rfl rfl rfl ?_
  unfold sf_X10_takes at hs
  refine av_aload_n (pc := 0) (j := 0) C dX10_takes_0 rfl rfl ?_
  refine av_getR (pc := 1) (k := 3) (r := 78) C fl_X10_19 sk_74 rfl dX10_takes_1 ?_
  refine av_iload_n (pc := 4) (j := 1) C dX10_takes_4 rfl rfl ?_
  obtain ⟨hb, hs⟩ := am_gd_of hs
  refine av_iald (pc := 5) C sk_78 hb dX10_takes_5 ?_
  refine av_iload_n (pc := 6) (j := 2) C dX10_takes_6 rfl rfl ?_
  refine av_icmp_ne (pc := 7) (tgt := 23) C dX10_takes_7 (by decide) (fun hc => ?_) (fun hc => ?_)
  · rw [if_neg hc] at hs
    refine av_iconst (pc := 23) C dX10_takes_23 rfl ?_
    refine av_istore_n (pc := 24) (i := 3) (lv2 := [(3, am_I 0), (0, am_R 74), (1, am_I a1), (2, am_I a2)]) C dX10_takes_24 rfl (by decide) rfl ?_
    refine av_iload_n (pc := 25) (j := 0) C dX10_takes_25 rfl rfl ?_
    refine av_if_eq (pc := 26) (tgt := 36) C dX10_takes_26 (by decide) (fun hc => ?_) (fun hc => absurd (by decide) hc)
    refine av_iload_n (pc := 36) (j := 0) C dX10_takes_36 rfl rfl ?_
    obtain ⟨rfl, rfl⟩ := am_inj2 hs
    exact av_zret C (by decide) hr hlocks dX10_takes_37
  · rw [if_pos (Decidable.not_not.mp hc)] at hs
    refine av_aload_n (pc := 10) (j := 0) C dX10_takes_10 rfl rfl ?_
    refine av_getR (pc := 11) (k := 6) (r := 81) C fl_X10_28 sk_74 rfl dX10_takes_11 ?_
    refine av_iload_n (pc := 14) (j := 1) C dX10_takes_14 rfl rfl ?_
    obtain ⟨hb, hs⟩ := am_gd_of hs
    refine av_zald (pc := 15) C sk_81 hb dX10_takes_15 ?_
    refine av_if_ne (pc := 16) (tgt := 23) C dX10_takes_16 (by decide) (fun hc => ?_) (fun hc => ?_)
    · rw [if_neg hc] at hs
      refine av_iconst (pc := 23) C dX10_takes_23 rfl ?_
      refine av_istore_n (pc := 24) (i := 3) (lv2 := [(3, am_I 0), (0, am_R 74), (1, am_I a1), (2, am_I a2)]) C dX10_takes_24 rfl (by decide) rfl ?_
      refine av_iload_n (pc := 25) (j := 0) C dX10_takes_25 rfl rfl ?_
      refine av_if_eq (pc := 26) (tgt := 36) C dX10_takes_26 (by decide) (fun hc => ?_) (fun hc => absurd (by decide) hc)
      refine av_iload_n (pc := 36) (j := 0) C dX10_takes_36 rfl rfl ?_
      obtain ⟨rfl, rfl⟩ := am_inj2 hs
      exact av_zret C (by decide) hr hlocks dX10_takes_37
    · rw [if_pos (Decidable.not_not.mp hc)] at hs
      refine av_iconst (pc := 19) C dX10_takes_19 rfl ?_
      refine av_goto (pc := 20) (tgt := 24) C dX10_takes_20 (by decide) ?_
      refine av_istore_n (pc := 24) (i := 3) (lv2 := [(3, am_I 1), (0, am_R 74), (1, am_I a1), (2, am_I a2)]) C dX10_takes_24 rfl (by decide) rfl ?_
      refine av_iload_n (pc := 25) (j := 0) C dX10_takes_25 rfl rfl ?_
      refine av_if_eq (pc := 26) (tgt := 36) C dX10_takes_26 (by decide) (fun hc => absurd hc (by decide)) (fun hc => ?_)
      refine av_aload_n (pc := 29) (j := 1) C dX10_takes_29 rfl rfl ?_
      refine av_getR (pc := 30) (k := 6) (r := 81) C fl_X10_28 sk_74 rfl dX10_takes_30 ?_
      refine av_iload_n (pc := 33) (j := 2) C dX10_takes_33 rfl rfl ?_
      refine av_iconst (pc := 34) C dX10_takes_34 rfl ?_
      obtain ⟨hb, hs⟩ := am_gd_of hs
      obtain ⟨S1, eS1, hs⟩ := am_let_of hs
      refine av_zast (pc := 35) C sk_81 hb (by decide) dX10_takes_35 ?_
      refine av_eq rfl rfl rfl eS1 ?_
      refine av_iload_n (pc := 36) (j := 0) C dX10_takes_36 rfl rfl ?_
      obtain ⟨rfl, rfl⟩ := am_inj2 hs
      exact av_zret C (by decide) hr hlocks dX10_takes_37
set_option maxHeartbeats 4000000 in
set_option maxRecDepth 100000 in
theorem wk_X10_resolveBy_51 {p : Program} {l : Launch} {e : Env} {s : State} {m : MethodId} {args : Array Value} {below : List Frame} {meth : Method} {c : Code} {G : am_G} (C : am_C p s m args c cX10_resolveBy 7 RX10 G) (hr : meth.sig.returnType = none) (hlocks : meth.locks = false) (b1 : Int) (b2 : Int) (b3 : Int) (S : am_S) (SZ : am_S) (hs : sf_X10_resolveBy_51 b1 b2 b3 S = some SZ) : am_V p l e (am_rm 2 49) s m args below meth c (MQ below (am_Q G none SZ) args s 0 0 (am_A G)) G (am_A G) s.heap 7 0 0 51 [(0, am_R 74), (1, am_I b1), (2, am_I b2), (3, am_I b3)] [] S := by
  unfold sf_X10_resolveBy_51 at hs
  refine av_aload_n (pc := 51) (j := 0) C dX10_resolveBy_51 rfl rfl ?_
  refine av_iconst (pc := 52) C dX10_resolveBy_52 rfl ?_
  refine av_iconst (pc := 53) C dX10_resolveBy_53 rfl ?_
  refine av_iload_n (pc := 54) (j := 1) C dX10_resolveBy_54 rfl rfl ?_
  refine av_iconst (pc := 55) C dX10_resolveBy_55 rfl ?_
  refine av_iconst (pc := 56) C dX10_resolveBy_56 rfl ?_
  obtain ⟨x9, S8, hc10, hs⟩ := am_b2_of hs
  refine av_eq (st2 := [am_I 0, am_I 0, am_I b1, am_I (-1), am_I 5, am_R 74]) rfl rfl rfl rfl (av_callV (pc := 57) (as := [am_I 5, am_I (-1), am_I b1, am_I 0, am_I 0]) (rest := []) C (ct_X10_enter l G 5 (-1) b1 0 0 S x9 S8 hc10) ym_X10_enter si_X10_194 im_X10_enter se_X10_enter sk_74 rfl ⟨Nat.le_of_ble_eq_true rfl, Nat.le_of_ble_eq_true rfl⟩ rfl rfl (Nat.le_of_ble_eq_true rfl) dX10_resolveBy_57 ⟨Nat.le_refl _, Nat.le_refl _⟩ (fun hrv => av_eq (st2 := [am_I x9]) rfl rfl rfl rfl ?_))
  refine av_istore (pc := 60) (i := 6) (lv2 := [(6, am_I x9), (0, am_R 74), (1, am_I b1), (2, am_I b2), (3, am_I b3)]) C dX10_resolveBy_60 (by decide) rfl ?_
  refine av_aload_n (pc := 62) (j := 1) C dX10_resolveBy_62 rfl rfl ?_
  refine av_iload (pc := 63) (j := 0) C dX10_resolveBy_63 rfl ?_
  refine av_iconst (pc := 65) C dX10_resolveBy_65 rfl ?_
  refine av_iload_n (pc := 66) (j := 3) C dX10_resolveBy_66 rfl rfl ?_
  refine av_iload_n (pc := 67) (j := 4) C dX10_resolveBy_67 rfl rfl ?_
  obtain ⟨S11, hc12, hs⟩ := am_b1_of hs
  refine av_eq (st2 := [am_I b3, am_I b2, am_I 0, am_I x9, am_R 74]) rfl rfl rfl rfl (av_callV (pc := 68) (as := [am_I x9, am_I 0, am_I b2, am_I b3]) (rest := []) C (ct_X10_carry l G x9 0 b2 b3 S8 S11 hc12) ym_X10_carry si_X10_183 im_X10_carry se_X10_carry sk_74 rfl ⟨Nat.le_of_ble_eq_true rfl, Nat.le_of_ble_eq_true rfl⟩ rfl rfl (Nat.le_of_ble_eq_true rfl) dX10_resolveBy_68 ⟨Nat.le_refl _, Nat.le_refl _⟩ (fun hrv => av_eq (st2 := []) rfl rfl rfl rfl ?_))
  obtain rfl := am_inj1 hs
  exact av_vret C hr hlocks dX10_resolveBy_71
set_option maxHeartbeats 4000000 in
set_option maxRecDepth 100000 in
theorem ct_X10_resolveBy (l : Launch) (G : am_G) (a1 : Int) (a2 : Int) (a3 : Int) (a4 : Int) (S : am_S) (SZ : am_S) (hs : sf_X10_resolveBy a1 a2 a3 a4 S = some SZ) : am_met l yX10_resolveBy cX10_resolveBy 7 none 2 49 G [am_R 74, am_I a1, am_I a2, am_I a3, am_I a4] S none SZ := by
  refine am_enter ym_X10_resolveBy (Nat.le_of_ble_eq_true rfl) ?_
  intro p e s m args below meth c C hr hlocks
  refine av_eq (lv2 := [(0, am_R 74), (1, am_I a1), (2, am_I a2), (3, am_I a3), (4, am_I a4)]) rfl rfl rfl rfl ?_
  unfold sf_X10_resolveBy at hs
  refine av_aload_n (pc := 0) (j := 0) C dX10_resolveBy_0 rfl rfl ?_
  refine av_iload_n (pc := 1) (j := 1) C dX10_resolveBy_1 rfl rfl ?_
  refine av_iload (pc := 2) (j := 4) C dX10_resolveBy_2 rfl ?_
  obtain ⟨x2, S1, hc3, hs⟩ := am_b2_of hs
  refine av_eq (st2 := [am_I a4, am_I a1, am_R 74]) rfl rfl rfl rfl (av_callV (pc := 4) (as := [am_I a1, am_I a4]) (rest := []) C (ct_X10_takes l G a1 a4 S x2 S1 hc3) ym_X10_takes si_X10_187 im_X10_takes se_X10_takes sk_74 rfl ⟨Nat.le_of_ble_eq_true rfl, Nat.le_of_ble_eq_true rfl⟩ rfl rfl (Nat.le_of_ble_eq_true rfl) dX10_resolveBy_4 ⟨Nat.le_refl _, Nat.le_refl _⟩ (fun hrv => av_eq (st2 := [am_I x2]) rfl rfl rfl rfl ?_))
  refine av_istore (pc := 7) (i := 5) (lv2 := [(5, am_I x2), (0, am_R 74), (1, am_I a1), (2, am_I a2), (3, am_I a3), (4, am_I a4)]) C dX10_resolveBy_7 (by decide) rfl ?_
  refine av_iload (pc := 9) (j := 0) C dX10_resolveBy_9 rfl ?_
  refine av_if_ne (pc := 11) (tgt := 15) C dX10_resolveBy_11 (by decide) (fun hc => ?_) (fun hc => ?_)
  · rw [if_neg hc] at hs
    refine av_iload_n (pc := 15) (j := 3) C dX10_resolveBy_15 rfl rfl ?_
    refine av_if_ne (pc := 16) (tgt := 30) C dX10_resolveBy_16 (by decide) (fun hc => ?_) (fun hc => ?_)
    · rw [if_neg hc] at hs
      refine av_iload_n (pc := 30) (j := 3) C dX10_resolveBy_30 rfl rfl ?_
      refine av_iconst (pc := 31) C dX10_resolveBy_31 rfl ?_
      refine av_icmp_ne (pc := 32) (tgt := 51) C dX10_resolveBy_32 (by decide) (fun hc => ?_) (fun hc => ?_)
      · rw [if_neg hc] at hs
        refine av_lvsub (lv2 := [(0, am_R 74), (1, am_I a1), (2, am_I a2), (3, am_I a3)]) [1, 2, 3, 4] rfl ?_
        exact wk_X10_resolveBy_51 C hr hlocks a1 a2 a3 S1 SZ hs
      · rw [if_pos (Decidable.not_not.mp hc)] at hs
        refine av_iload_n (pc := 35) (j := 4) C dX10_resolveBy_35 rfl rfl ?_
        refine av_iload_n (pc := 36) (j := 2) C dX10_resolveBy_36 rfl rfl ?_
        refine av_icmp_ne (pc := 37) (tgt := 51) C dX10_resolveBy_37 (by decide) (fun hc => ?_) (fun hc => ?_)
        · rw [if_neg hc] at hs
          refine av_lvsub (lv2 := [(0, am_R 74), (1, am_I a1), (2, am_I a2), (3, am_I a3)]) [1, 2, 3, 4] rfl ?_
          exact wk_X10_resolveBy_51 C hr hlocks a1 a2 a3 S1 SZ hs
        · rw [if_pos (Decidable.not_not.mp hc)] at hs
          refine av_aload_n (pc := 40) (j := 1) C dX10_resolveBy_40 rfl rfl ?_
          refine av_iload_n (pc := 41) (j := 2) C dX10_resolveBy_41 rfl rfl ?_
          refine av_iconst (pc := 42) C dX10_resolveBy_42 rfl ?_
          refine av_iconst (pc := 43) C dX10_resolveBy_43 rfl ?_
          refine av_iconst (pc := 44) C dX10_resolveBy_44 rfl ?_
          obtain ⟨S4, hc5, hs⟩ := am_b1_of hs
          refine av_eq (st2 := [am_I (-1), am_I 0, am_I 2, am_I a1, am_R 74]) rfl rfl rfl rfl (av_callV (pc := 45) (as := [am_I a1, am_I 2, am_I 0, am_I (-1)]) (rest := []) C (ct_X10_settle l G a1 2 0 (-1) S1 S4 hc5) ym_X10_settle si_X10_191 im_X10_settle se_X10_settle sk_74 rfl ⟨Nat.le_of_ble_eq_true rfl, Nat.le_of_ble_eq_true rfl⟩ rfl rfl (Nat.le_of_ble_eq_true rfl) dX10_resolveBy_45 ⟨Nat.le_refl _, Nat.le_refl _⟩ (fun hrv => av_eq (st2 := []) rfl rfl rfl rfl ?_))
          refine av_goto (pc := 48) (tgt := 71) C dX10_resolveBy_48 (by decide) ?_
          obtain rfl := am_inj1 hs
          exact av_vret C hr hlocks dX10_resolveBy_71
    · rw [if_pos (Decidable.not_not.mp hc)] at hs
      refine av_aload_n (pc := 19) (j := 1) C dX10_resolveBy_19 rfl rfl ?_
      refine av_iload_n (pc := 20) (j := 2) C dX10_resolveBy_20 rfl rfl ?_
      refine av_iconst (pc := 21) C dX10_resolveBy_21 rfl ?_
      refine av_iload_n (pc := 22) (j := 3) C dX10_resolveBy_22 rfl rfl ?_
      refine av_iload_n (pc := 23) (j := 4) C dX10_resolveBy_23 rfl rfl ?_
      obtain ⟨S6, hc7, hs⟩ := am_b1_of hs
      refine av_eq (st2 := [am_I a3, am_I a2, am_I 1, am_I a1, am_R 74]) rfl rfl rfl rfl (av_callV (pc := 24) (as := [am_I a1, am_I 1, am_I a2, am_I a3]) (rest := []) C (ct_X10_settle l G a1 1 a2 a3 S1 S6 hc7) ym_X10_settle si_X10_191 im_X10_settle se_X10_settle sk_74 rfl ⟨Nat.le_of_ble_eq_true rfl, Nat.le_of_ble_eq_true rfl⟩ rfl rfl (Nat.le_of_ble_eq_true rfl) dX10_resolveBy_24 ⟨Nat.le_refl _, Nat.le_refl _⟩ (fun hrv => av_eq (st2 := []) rfl rfl rfl rfl ?_))
      refine av_goto (pc := 27) (tgt := 71) C dX10_resolveBy_27 (by decide) ?_
      obtain rfl := am_inj1 hs
      exact av_vret C hr hlocks dX10_resolveBy_71
  · rw [if_pos (Decidable.not_not.mp hc)] at hs
    obtain rfl := am_inj1 hs
    exact av_vret C hr hlocks dX10_resolveBy_14
set_option maxHeartbeats 4000000 in
set_option maxRecDepth 100000 in
theorem ct_X10_rejectBy (l : Launch) (G : am_G) (a1 : Int) (a2 : Int) (a3 : Int) (a4 : Int) (S : am_S) (SZ : am_S) (hs : sf_X10_rejectBy a1 a2 a3 a4 S = some SZ) : am_met l yX10_rejectBy cX10_rejectBy 6 none 2 49 G [am_R 74, am_I a1, am_I a2, am_I a3, am_I a4] S none SZ := by
  refine am_enter ym_X10_rejectBy (Nat.le_of_ble_eq_true rfl) ?_
  intro p e s m args below meth c C hr hlocks
  refine av_eq (lv2 := [(0, am_R 74), (1, am_I a1), (2, am_I a2), (3, am_I a3), (4, am_I a4)]) rfl rfl rfl rfl ?_
  unfold sf_X10_rejectBy at hs
  refine av_aload_n (pc := 0) (j := 0) C dX10_rejectBy_0 rfl rfl ?_
  refine av_iload_n (pc := 1) (j := 1) C dX10_rejectBy_1 rfl rfl ?_
  refine av_iload (pc := 2) (j := 4) C dX10_rejectBy_2 rfl ?_
  obtain ⟨x2, S1, hc3, hs⟩ := am_b2_of hs
  refine av_eq (st2 := [am_I a4, am_I a1, am_R 74]) rfl rfl rfl rfl (av_callV (pc := 4) (as := [am_I a1, am_I a4]) (rest := []) C (ct_X10_takes l G a1 a4 S x2 S1 hc3) ym_X10_takes si_X10_187 im_X10_takes se_X10_takes sk_74 rfl ⟨Nat.le_of_ble_eq_true rfl, Nat.le_of_ble_eq_true rfl⟩ rfl rfl (Nat.le_of_ble_eq_true rfl) dX10_rejectBy_4 ⟨Nat.le_refl _, Nat.le_refl _⟩ (fun hrv => av_eq (st2 := [am_I x2]) rfl rfl rfl rfl ?_))
  refine av_istore (pc := 7) (i := 5) (lv2 := [(5, am_I x2), (0, am_R 74), (1, am_I a1), (2, am_I a2), (3, am_I a3), (4, am_I a4)]) C dX10_rejectBy_7 (by decide) rfl ?_
  refine av_iload (pc := 9) (j := 0) C dX10_rejectBy_9 rfl ?_
  refine av_if_eq (pc := 11) (tgt := 22) C dX10_rejectBy_11 (by decide) (fun hc => ?_) (fun hc => ?_)
  · rw [if_pos hc] at hs
    obtain rfl := am_inj1 hs
    exact av_vret C hr hlocks dX10_rejectBy_22
  · rw [if_neg hc] at hs
    refine av_aload_n (pc := 14) (j := 1) C dX10_rejectBy_14 rfl rfl ?_
    refine av_iload_n (pc := 15) (j := 2) C dX10_rejectBy_15 rfl rfl ?_
    refine av_iconst (pc := 16) C dX10_rejectBy_16 rfl ?_
    refine av_iload_n (pc := 17) (j := 3) C dX10_rejectBy_17 rfl rfl ?_
    refine av_iload_n (pc := 18) (j := 4) C dX10_rejectBy_18 rfl rfl ?_
    obtain ⟨S4, hc5, hs⟩ := am_b1_of hs
    refine av_eq (st2 := [am_I a3, am_I a2, am_I 2, am_I a1, am_R 74]) rfl rfl rfl rfl (av_callV (pc := 19) (as := [am_I a1, am_I 2, am_I a2, am_I a3]) (rest := []) C (ct_X10_settle l G a1 2 a2 a3 S1 S4 hc5) ym_X10_settle si_X10_191 im_X10_settle se_X10_settle sk_74 rfl ⟨Nat.le_of_ble_eq_true rfl, Nat.le_of_ble_eq_true rfl⟩ rfl rfl (Nat.le_of_ble_eq_true rfl) dX10_rejectBy_19 ⟨Nat.le_refl _, Nat.le_refl _⟩ (fun hrv => av_eq (st2 := []) rfl rfl rfl rfl ?_))
    obtain rfl := am_inj1 hs
    exact av_vret C hr hlocks dX10_rejectBy_22
set_option maxHeartbeats 4000000 in
set_option maxRecDepth 100000 in
theorem ct_X10_endBy (l : Launch) (G : am_G) (a1 : Int) (a2 : Int) (a3 : Int) (a4 : Int) (a5 : Int) (S : am_S) (SZ : am_S) (hs : sf_X10_endBy a1 a2 a3 a4 a5 S = some SZ) : am_met l yX10_endBy cX10_endBy 6 none 3 75 G [am_R 74, am_I a1, am_I a2, am_I a3, am_I a4, am_I a5] S none SZ := by
  refine am_enter ym_X10_endBy (Nat.le_of_ble_eq_true rfl) ?_
  intro p e s m args below meth c C hr hlocks
  refine av_eq (lv2 := [(0, am_R 74), (1, am_I a1), (2, am_I a2), (3, am_I a3), (4, am_I a4), (5, am_I a5)]) rfl rfl rfl rfl ?_
  unfold sf_X10_endBy at hs
  refine av_iload_n (pc := 0) (j := 2) C dX10_endBy_0 rfl rfl ?_
  refine av_if_eq (pc := 1) (tgt := 17) C dX10_endBy_1 (by decide) (fun hc => ?_) (fun hc => ?_)
  · rw [if_pos hc] at hs
    refine av_aload_n (pc := 17) (j := 0) C dX10_endBy_17 rfl rfl ?_
    refine av_iload_n (pc := 18) (j := 1) C dX10_endBy_18 rfl rfl ?_
    refine av_iload_n (pc := 19) (j := 3) C dX10_endBy_19 rfl rfl ?_
    refine av_iload (pc := 20) (j := 4) C dX10_endBy_20 rfl ?_
    refine av_iload (pc := 22) (j := 5) C dX10_endBy_22 rfl ?_
    obtain ⟨S1, hc2, hs⟩ := am_b1_of hs
    refine av_eq (st2 := [am_I a5, am_I a4, am_I a3, am_I a1, am_R 74]) rfl rfl rfl rfl (av_callV (pc := 24) (as := [am_I a1, am_I a3, am_I a4, am_I a5]) (rest := []) C (ct_X10_resolveBy l G a1 a3 a4 a5 S S1 hc2) ym_X10_resolveBy si_X10_201 im_X10_resolveBy se_X10_resolveBy sk_74 rfl ⟨Nat.le_of_ble_eq_true rfl, Nat.le_of_ble_eq_true rfl⟩ rfl rfl (Nat.le_of_ble_eq_true rfl) dX10_endBy_24 ⟨Nat.le_refl _, Nat.le_refl _⟩ (fun hrv => av_eq (st2 := []) rfl rfl rfl rfl ?_))
    obtain rfl := am_inj1 hs
    exact av_vret C hr hlocks dX10_endBy_27
  · rw [if_neg hc] at hs
    refine av_aload_n (pc := 4) (j := 0) C dX10_endBy_4 rfl rfl ?_
    refine av_iload_n (pc := 5) (j := 1) C dX10_endBy_5 rfl rfl ?_
    refine av_iload_n (pc := 6) (j := 3) C dX10_endBy_6 rfl rfl ?_
    refine av_iload (pc := 7) (j := 4) C dX10_endBy_7 rfl ?_
    refine av_iload (pc := 9) (j := 5) C dX10_endBy_9 rfl ?_
    obtain ⟨S3, hc4, hs⟩ := am_b1_of hs
    refine av_eq (st2 := [am_I a5, am_I a4, am_I a3, am_I a1, am_R 74]) rfl rfl rfl rfl (av_callV (pc := 11) (as := [am_I a1, am_I a3, am_I a4, am_I a5]) (rest := []) C (ct_X10_rejectBy l G a1 a3 a4 a5 S S3 hc4) ym_X10_rejectBy si_X10_198 im_X10_rejectBy se_X10_rejectBy sk_74 rfl ⟨Nat.le_of_ble_eq_true rfl, Nat.le_of_ble_eq_true rfl⟩ rfl rfl (Nat.le_of_ble_eq_true rfl) dX10_endBy_11 ⟨Nat.le_refl _, Nat.le_refl _⟩ (fun hrv => av_eq (st2 := []) rfl rfl rfl rfl ?_))
    refine av_goto (pc := 14) (tgt := 27) C dX10_endBy_14 (by decide) ?_
    obtain rfl := am_inj1 hs
    exact av_vret C hr hlocks dX10_endBy_27
set_option maxHeartbeats 4000000 in
set_option maxRecDepth 100000 in
theorem ct_X10_waitFor (l : Launch) (G : am_G) (a1 : Int) (a2 : Int) (a3 : Int) (a4 : Int) (a5 : Int) (S : am_S) (SZ : am_S) (hs : sf_X10_waitFor a1 a2 a3 a4 a5 S = some SZ) : am_met l yX10_waitFor cX10_waitFor 7 none 1 26 G [am_R 74, am_I a1, am_I a2, am_I a3, am_I a4, am_I a5] S none SZ := by
  refine am_enter ym_X10_waitFor (Nat.le_of_ble_eq_true rfl) ?_
  intro p e s m args below meth c C hr hlocks
  refine av_eq (lv2 := [(0, am_R 74), (1, am_I a1), (2, am_I a2), (3, am_I a3), (4, am_I a4), (5, am_I a5)]) rfl rfl rfl rfl ?_
  unfold sf_X10_waitFor at hs
  refine av_aload_n (pc := 0) (j := 0) C dX10_waitFor_0 rfl rfl ?_
  refine av_getR (pc := 1) (k := 7) (r := 82) C fl_X10_32 sk_74 rfl dX10_waitFor_1 ?_
  refine av_iload_n (pc := 4) (j := 1) C dX10_waitFor_4 rfl rfl ?_
  refine av_iconst (pc := 5) C dX10_waitFor_5 rfl ?_
  obtain ⟨hb, hs⟩ := am_gd_of hs
  obtain ⟨S1, eS1, hs⟩ := am_let_of hs
  refine av_zast (pc := 6) C sk_82 hb (by decide) dX10_waitFor_6 ?_
  refine av_eq rfl rfl rfl eS1 ?_
  refine av_aload_n (pc := 7) (j := 0) C dX10_waitFor_7 rfl rfl ?_
  refine av_iload_n (pc := 8) (j := 2) C dX10_waitFor_8 rfl rfl ?_
  refine av_iload_n (pc := 9) (j := 1) C dX10_waitFor_9 rfl rfl ?_
  refine av_iload_n (pc := 10) (j := 3) C dX10_waitFor_10 rfl rfl ?_
  refine av_iload (pc := 11) (j := 4) C dX10_waitFor_11 rfl ?_
  refine av_iload (pc := 13) (j := 5) C dX10_waitFor_13 rfl ?_
  obtain ⟨x3, S2, hc4, hs⟩ := am_b2_of hs
  refine av_eq (st2 := [am_I a5, am_I a4, am_I a3, am_I a1, am_I a2, am_R 74]) rfl rfl rfl rfl (av_callV (pc := 15) (as := [am_I a2, am_I a1, am_I a3, am_I a4, am_I a5]) (rest := []) C (ct_X10_enter l G a2 a1 a3 a4 a5 S1 x3 S2 hc4) ym_X10_enter si_X10_194 im_X10_enter se_X10_enter sk_74 rfl ⟨Nat.le_of_ble_eq_true rfl, Nat.le_of_ble_eq_true rfl⟩ rfl rfl (Nat.le_of_ble_eq_true rfl) dX10_waitFor_15 ⟨Nat.le_refl _, Nat.le_refl _⟩ (fun hrv => av_eq (st2 := [am_I x3]) rfl rfl rfl rfl ?_))
  refine av_istore (pc := 18) (i := 6) (lv2 := [(6, am_I x3), (0, am_R 74), (1, am_I a1), (2, am_I a2), (3, am_I a3), (4, am_I a4), (5, am_I a5)]) C dX10_waitFor_18 (by decide) rfl ?_
  refine av_aload_n (pc := 20) (j := 1) C dX10_waitFor_20 rfl rfl ?_
  refine av_getR (pc := 21) (k := 0) (r := 75) C fl_X10_7 sk_74 rfl dX10_waitFor_21 ?_
  refine av_iload_n (pc := 24) (j := 2) C dX10_waitFor_24 rfl rfl ?_
  obtain ⟨hb, hs⟩ := am_gd_of hs
  refine av_iald (pc := 25) C sk_75 hb dX10_waitFor_25 ?_
  refine av_if_eq (pc := 26) (tgt := 53) C dX10_waitFor_26 (by decide) (fun hc => ?_) (fun hc => ?_)
  · rw [if_pos hc] at hs
    obtain rfl := am_inj1 hs
    exact av_vret C hr hlocks dX10_waitFor_53
  · rw [if_neg hc] at hs
    refine av_aload_n (pc := 29) (j := 1) C dX10_waitFor_29 rfl rfl ?_
    refine av_iload (pc := 30) (j := 0) C dX10_waitFor_30 rfl ?_
    refine av_aload_n (pc := 32) (j := 1) C dX10_waitFor_32 rfl rfl ?_
    refine av_getR (pc := 33) (k := 0) (r := 75) C fl_X10_7 sk_74 rfl dX10_waitFor_33 ?_
    refine av_iload_n (pc := 36) (j := 2) C dX10_waitFor_36 rfl rfl ?_
    obtain ⟨hb, hs⟩ := am_gd_of hs
    refine av_iald (pc := 37) C sk_75 hb dX10_waitFor_37 ?_
    refine av_aload_n (pc := 38) (j := 1) C dX10_waitFor_38 rfl rfl ?_
    refine av_getR (pc := 39) (k := 1) (r := 76) C fl_X10_13 sk_74 rfl dX10_waitFor_39 ?_
    refine av_iload_n (pc := 42) (j := 2) C dX10_waitFor_42 rfl rfl ?_
    obtain ⟨hb, hs⟩ := am_gd_of hs
    refine av_iald (pc := 43) C sk_76 hb dX10_waitFor_43 ?_
    refine av_aload_n (pc := 44) (j := 1) C dX10_waitFor_44 rfl rfl ?_
    refine av_getR (pc := 45) (k := 2) (r := 77) C fl_X10_16 sk_74 rfl dX10_waitFor_45 ?_
    refine av_iload_n (pc := 48) (j := 2) C dX10_waitFor_48 rfl rfl ?_
    obtain ⟨hb, hs⟩ := am_gd_of hs
    refine av_iald (pc := 49) C sk_77 hb dX10_waitFor_49 ?_
    obtain ⟨S5, hc6, hs⟩ := am_b1_of hs
    refine av_eq (st2 := [am_I (S2.2 77 (Int.toNat a1)), am_I (S2.2 76 (Int.toNat a1)), am_I (S2.2 75 (Int.toNat a1)), am_I x3, am_R 74]) rfl rfl rfl rfl (av_callV (pc := 50) (as := [am_I x3, am_I (S2.2 75 (Int.toNat a1)), am_I (S2.2 76 (Int.toNat a1)), am_I (S2.2 77 (Int.toNat a1))]) (rest := []) C (ct_X10_carry l G x3 (S2.2 75 (Int.toNat a1)) (S2.2 76 (Int.toNat a1)) (S2.2 77 (Int.toNat a1)) S2 S5 hc6) ym_X10_carry si_X10_183 im_X10_carry se_X10_carry sk_74 rfl ⟨Nat.le_of_ble_eq_true rfl, Nat.le_of_ble_eq_true rfl⟩ rfl rfl (Nat.le_of_ble_eq_true rfl) dX10_waitFor_50 ⟨Nat.le_refl _, Nat.le_refl _⟩ (fun hrv => av_eq (st2 := []) rfl rfl rfl rfl ?_))
    obtain rfl := am_inj1 hs
    exact av_vret C hr hlocks dX10_waitFor_53
set_option maxHeartbeats 4000000 in
set_option maxRecDepth 100000 in
theorem ct_X10_resolve (l : Launch) (G : am_G) (a1 : Int) (a2 : Int) (a3 : Int) (S : am_S) (x : Int) (SZ : am_S) (hs : sf_X10_resolve a1 a2 a3 S = some (x, SZ)) : am_met l yX10_resolve cX10_resolve 4 (some .boolean) 3 75 G [am_R 74, am_I a1, am_I a2, am_I a3] S (some (am_I x)) SZ := by
  refine am_enter ym_X10_resolve (Nat.le_of_ble_eq_true rfl) ?_
  intro p e s m args below meth c C hr hlocks
  refine av_eq (lv2 := [(0, am_R 74), (1, am_I a1), (2, am_I a2), (3, am_I a3)]) rfl rfl rfl rfl ?_
  unfold sf_X10_resolve at hs
  refine av_aload_n (pc := 0) (j := 0) C dX10_resolve_0 rfl rfl ?_
  refine av_iload_n (pc := 1) (j := 1) C dX10_resolve_1 rfl rfl ?_
  obtain ⟨x2, S1, hc3, hs⟩ := am_b2_of hs
  refine av_eq (st2 := [am_I a1, am_R 74]) rfl rfl rfl rfl (av_callV (pc := 2) (as := [am_I a1]) (rest := []) C (ct_X10_isPromise l G a1 S x2 S1 hc3) ym_X10_isPromise si_X10_175 im_X10_isPromise se_X10_isPromise sk_74 rfl ⟨Nat.le_of_ble_eq_true rfl, Nat.le_of_ble_eq_true rfl⟩ rfl rfl (Nat.le_of_ble_eq_true rfl) dX10_resolve_2 ⟨Nat.le_refl _, Nat.le_refl _⟩ (fun hrv => av_eq (st2 := [am_I x2]) rfl rfl rfl rfl ?_))
  refine av_if_eq (pc := 5) (tgt := 17) C dX10_resolve_5 (by decide) (fun hc => ?_) (fun hc => ?_)
  · rw [if_pos hc] at hs
    refine av_iconst (pc := 17) C dX10_resolve_17 rfl ?_
    obtain ⟨rfl, rfl⟩ := am_inj2 hs
    exact av_zret C (by decide) hr hlocks dX10_resolve_18
  · rw [if_neg hc] at hs
    refine av_aload_n (pc := 8) (j := 0) C dX10_resolve_8 rfl rfl ?_
    refine av_iload_n (pc := 9) (j := 2) C dX10_resolve_9 rfl rfl ?_
    refine av_iload_n (pc := 10) (j := 3) C dX10_resolve_10 rfl rfl ?_
    obtain ⟨x5, S4, hc6, hs⟩ := am_b2_of hs
    refine av_eq (st2 := [am_I a3, am_I a2, am_R 74]) rfl rfl rfl rfl (av_callV (pc := 11) (as := [am_I a2, am_I a3]) (rest := []) C (ct_X10_isValue l G a2 a3 S1 x5 S4 hc6) ym_X10_isValue si_X10_204 im_X10_isValue se_X10_isValue sk_74 rfl ⟨Nat.le_of_ble_eq_true rfl, Nat.le_of_ble_eq_true rfl⟩ rfl rfl (Nat.le_of_ble_eq_true rfl) dX10_resolve_11 ⟨Nat.le_refl _, Nat.le_refl _⟩ (fun hrv => av_eq (st2 := [am_I x5]) rfl rfl rfl rfl ?_))
    refine av_if_ne (pc := 14) (tgt := 19) C dX10_resolve_14 (by decide) (fun hc => ?_) (fun hc => ?_)
    · rw [if_neg hc] at hs
      refine av_aload_n (pc := 19) (j := 0) C dX10_resolve_19 rfl rfl ?_
      refine av_iload_n (pc := 20) (j := 1) C dX10_resolve_20 rfl rfl ?_
      refine av_iload_n (pc := 21) (j := 2) C dX10_resolve_21 rfl rfl ?_
      refine av_iload_n (pc := 22) (j := 3) C dX10_resolve_22 rfl rfl ?_
      refine av_iconst (pc := 23) C dX10_resolve_23 rfl ?_
      obtain ⟨S7, hc8, hs⟩ := am_b1_of hs
      refine av_eq (st2 := [am_I 0, am_I a3, am_I a2, am_I a1, am_R 74]) rfl rfl rfl rfl (av_callV (pc := 24) (as := [am_I a1, am_I a2, am_I a3, am_I 0]) (rest := []) C (ct_X10_resolveBy l G a1 a2 a3 0 S4 S7 hc8) ym_X10_resolveBy si_X10_201 im_X10_resolveBy se_X10_resolveBy sk_74 rfl ⟨Nat.le_of_ble_eq_true rfl, Nat.le_of_ble_eq_true rfl⟩ rfl rfl (Nat.le_of_ble_eq_true rfl) dX10_resolve_24 ⟨Nat.le_refl _, Nat.le_refl _⟩ (fun hrv => av_eq (st2 := []) rfl rfl rfl rfl ?_))
      refine av_iconst (pc := 27) C dX10_resolve_27 rfl ?_
      obtain ⟨rfl, rfl⟩ := am_inj2 hs
      exact av_zret C (by decide) hr hlocks dX10_resolve_28
    · rw [if_pos (Decidable.not_not.mp hc)] at hs
      refine av_iconst (pc := 17) C dX10_resolve_17 rfl ?_
      obtain ⟨rfl, rfl⟩ := am_inj2 hs
      exact av_zret C (by decide) hr hlocks dX10_resolve_18
set_option maxHeartbeats 4000000 in
set_option maxRecDepth 100000 in
theorem ct_X10_reject (l : Launch) (G : am_G) (a1 : Int) (a2 : Int) (a3 : Int) (S : am_S) (x : Int) (SZ : am_S) (hs : sf_X10_reject a1 a2 a3 S = some (x, SZ)) : am_met l yX10_reject cX10_reject 4 (some .boolean) 3 74 G [am_R 74, am_I a1, am_I a2, am_I a3] S (some (am_I x)) SZ := by
  refine am_enter ym_X10_reject (Nat.le_of_ble_eq_true rfl) ?_
  intro p e s m args below meth c C hr hlocks
  refine av_eq (lv2 := [(0, am_R 74), (1, am_I a1), (2, am_I a2), (3, am_I a3)]) rfl rfl rfl rfl ?_
  unfold sf_X10_reject at hs
  refine av_aload_n (pc := 0) (j := 0) C dX10_reject_0 rfl rfl ?_
  refine av_iload_n (pc := 1) (j := 1) C dX10_reject_1 rfl rfl ?_
  obtain ⟨x2, S1, hc3, hs⟩ := am_b2_of hs
  refine av_eq (st2 := [am_I a1, am_R 74]) rfl rfl rfl rfl (av_callV (pc := 2) (as := [am_I a1]) (rest := []) C (ct_X10_isPromise l G a1 S x2 S1 hc3) ym_X10_isPromise si_X10_175 im_X10_isPromise se_X10_isPromise sk_74 rfl ⟨Nat.le_of_ble_eq_true rfl, Nat.le_of_ble_eq_true rfl⟩ rfl rfl (Nat.le_of_ble_eq_true rfl) dX10_reject_2 ⟨Nat.le_refl _, Nat.le_refl _⟩ (fun hrv => av_eq (st2 := [am_I x2]) rfl rfl rfl rfl ?_))
  refine av_if_eq (pc := 5) (tgt := 17) C dX10_reject_5 (by decide) (fun hc => ?_) (fun hc => ?_)
  · rw [if_pos hc] at hs
    refine av_iconst (pc := 17) C dX10_reject_17 rfl ?_
    obtain ⟨rfl, rfl⟩ := am_inj2 hs
    exact av_zret C (by decide) hr hlocks dX10_reject_18
  · rw [if_neg hc] at hs
    refine av_aload_n (pc := 8) (j := 0) C dX10_reject_8 rfl rfl ?_
    refine av_iload_n (pc := 9) (j := 2) C dX10_reject_9 rfl rfl ?_
    refine av_iload_n (pc := 10) (j := 3) C dX10_reject_10 rfl rfl ?_
    obtain ⟨x5, S4, hc6, hs⟩ := am_b2_of hs
    refine av_eq (st2 := [am_I a3, am_I a2, am_R 74]) rfl rfl rfl rfl (av_callV (pc := 11) (as := [am_I a2, am_I a3]) (rest := []) C (ct_X10_isValue l G a2 a3 S1 x5 S4 hc6) ym_X10_isValue si_X10_204 im_X10_isValue se_X10_isValue sk_74 rfl ⟨Nat.le_of_ble_eq_true rfl, Nat.le_of_ble_eq_true rfl⟩ rfl rfl (Nat.le_of_ble_eq_true rfl) dX10_reject_11 ⟨Nat.le_refl _, Nat.le_refl _⟩ (fun hrv => av_eq (st2 := [am_I x5]) rfl rfl rfl rfl ?_))
    refine av_if_ne (pc := 14) (tgt := 19) C dX10_reject_14 (by decide) (fun hc => ?_) (fun hc => ?_)
    · rw [if_neg hc] at hs
      refine av_aload_n (pc := 19) (j := 0) C dX10_reject_19 rfl rfl ?_
      refine av_iload_n (pc := 20) (j := 1) C dX10_reject_20 rfl rfl ?_
      refine av_iload_n (pc := 21) (j := 2) C dX10_reject_21 rfl rfl ?_
      refine av_iload_n (pc := 22) (j := 3) C dX10_reject_22 rfl rfl ?_
      refine av_iconst (pc := 23) C dX10_reject_23 rfl ?_
      obtain ⟨S7, hc8, hs⟩ := am_b1_of hs
      refine av_eq (st2 := [am_I 0, am_I a3, am_I a2, am_I a1, am_R 74]) rfl rfl rfl rfl (av_callV (pc := 24) (as := [am_I a1, am_I a2, am_I a3, am_I 0]) (rest := []) C (ct_X10_rejectBy l G a1 a2 a3 0 S4 S7 hc8) ym_X10_rejectBy si_X10_198 im_X10_rejectBy se_X10_rejectBy sk_74 rfl ⟨Nat.le_of_ble_eq_true rfl, Nat.le_of_ble_eq_true rfl⟩ rfl rfl (Nat.le_of_ble_eq_true rfl) dX10_reject_24 ⟨Nat.le_refl _, Nat.le_refl _⟩ (fun hrv => av_eq (st2 := []) rfl rfl rfl rfl ?_))
      refine av_iconst (pc := 27) C dX10_reject_27 rfl ?_
      obtain ⟨rfl, rfl⟩ := am_inj2 hs
      exact av_zret C (by decide) hr hlocks dX10_reject_28
    · rw [if_pos (Decidable.not_not.mp hc)] at hs
      refine av_iconst (pc := 17) C dX10_reject_17 rfl ?_
      obtain ⟨rfl, rfl⟩ := am_inj2 hs
      exact av_zret C (by decide) hr hlocks dX10_reject_18
set_option maxHeartbeats 4000000 in
set_option maxRecDepth 100000 in
theorem ct_X10_then (l : Launch) (G : am_G) (a1 : Int) (a2 : Int) (a3 : Int) (S : am_S) (x : Int) (SZ : am_S) (hs : sf_X10_then a1 a2 a3 S = some (x, SZ)) : am_met l yX10_then cX10_then 5 (some .int) 2 52 G [am_R 74, am_I a1, am_I a2, am_I a3] S (some (am_I x)) SZ := by
  refine am_enter ym_X10_then (Nat.le_of_ble_eq_true rfl) ?_
  intro p e s m args below meth c C hr hlocks
  refine av_eq (lv2 := [(0, am_R 74), (1, am_I a1), (2, am_I a2), (3, am_I a3)]) rfl rfl rfl rfl ?_
  unfold sf_X10_then at hs
  refine av_aload_n (pc := 0) (j := 0) C dX10_then_0 rfl rfl ?_
  refine av_iload_n (pc := 1) (j := 1) C dX10_then_1 rfl rfl ?_
  obtain ⟨x2, S1, hc3, hs⟩ := am_b2_of hs
  refine av_eq (st2 := [am_I a1, am_R 74]) rfl rfl rfl rfl (av_callV (pc := 2) (as := [am_I a1]) (rest := []) C (ct_X10_isPromise l G a1 S x2 S1 hc3) ym_X10_isPromise si_X10_175 im_X10_isPromise se_X10_isPromise sk_74 rfl ⟨Nat.le_of_ble_eq_true rfl, Nat.le_of_ble_eq_true rfl⟩ rfl rfl (Nat.le_of_ble_eq_true rfl) dX10_then_2 ⟨Nat.le_refl _, Nat.le_refl _⟩ (fun hrv => av_eq (st2 := [am_I x2]) rfl rfl rfl rfl ?_))
  refine av_if_eq (pc := 5) (tgt := 28) C dX10_then_5 (by decide) (fun hc => ?_) (fun hc => ?_)
  · rw [if_pos hc] at hs
    refine av_iconst (pc := 28) C dX10_then_28 rfl ?_
    obtain ⟨rfl, rfl⟩ := am_inj2 hs
    exact av_iret C hr hlocks dX10_then_29
  · rw [if_neg hc] at hs
    refine av_iload_n (pc := 8) (j := 2) C dX10_then_8 rfl rfl ?_
    refine av_iconst (pc := 9) C dX10_then_9 rfl ?_
    refine av_bipush (pc := 10) C dX10_then_10 rfl ?_
    obtain ⟨x5, S4, hc6, hs⟩ := am_b2_of hs
    refine av_eq (st2 := [am_I 9, am_I (-1), am_I a2]) rfl rfl rfl rfl (av_callS (pc := 12) (as := [am_I a2, am_I (-1), am_I 9]) (rest := []) C (ct_X10_in l G a2 (-1) 9 S1 x5 S4 hc6) ym_X10_in si_X10_171 st_X10_in ⟨Nat.le_of_ble_eq_true rfl, Nat.le_of_ble_eq_true rfl⟩ rfl rfl (Nat.le_of_ble_eq_true rfl) dX10_then_12 ⟨Nat.le_refl _, Nat.le_refl _⟩ (fun hrv => av_eq (st2 := [am_I x5]) rfl rfl rfl rfl ?_))
    refine av_if_eq (pc := 15) (tgt := 28) C dX10_then_15 (by decide) (fun hc => ?_) (fun hc => ?_)
    · rw [if_pos hc] at hs
      refine av_iconst (pc := 28) C dX10_then_28 rfl ?_
      obtain ⟨rfl, rfl⟩ := am_inj2 hs
      exact av_iret C hr hlocks dX10_then_29
    · rw [if_neg hc] at hs
      refine av_iload_n (pc := 18) (j := 3) C dX10_then_18 rfl rfl ?_
      refine av_iconst (pc := 19) C dX10_then_19 rfl ?_
      refine av_bipush (pc := 20) C dX10_then_20 rfl ?_
      obtain ⟨x8, S7, hc9, hs⟩ := am_b2_of hs
      refine av_eq (st2 := [am_I 9, am_I (-1), am_I a3]) rfl rfl rfl rfl (av_callS (pc := 22) (as := [am_I a3, am_I (-1), am_I 9]) (rest := []) C (ct_X10_in l G a3 (-1) 9 S4 x8 S7 hc9) ym_X10_in si_X10_171 st_X10_in ⟨Nat.le_of_ble_eq_true rfl, Nat.le_of_ble_eq_true rfl⟩ rfl rfl (Nat.le_of_ble_eq_true rfl) dX10_then_22 ⟨Nat.le_refl _, Nat.le_refl _⟩ (fun hrv => av_eq (st2 := [am_I x8]) rfl rfl rfl rfl ?_))
      refine av_if_ne (pc := 25) (tgt := 30) C dX10_then_25 (by decide) (fun hc => ?_) (fun hc => ?_)
      · rw [if_neg hc] at hs
        refine av_aload_n (pc := 30) (j := 0) C dX10_then_30 rfl rfl ?_
        obtain ⟨x11, S10, hc12, hs⟩ := am_b2_of hs
        refine av_eq (st2 := [am_R 74]) rfl rfl rfl rfl (av_callV (pc := 31) (as := []) (rest := []) C (ct_X10_promise l G  S7 x11 S10 hc12) ym_X10_promise si_X10_207 im_X10_promise se_X10_promise sk_74 rfl ⟨Nat.le_of_ble_eq_true rfl, Nat.le_of_ble_eq_true rfl⟩ rfl rfl (Nat.le_of_ble_eq_true rfl) dX10_then_31 ⟨Nat.le_refl _, Nat.le_refl _⟩ (fun hrv => av_eq (st2 := [am_I x11]) rfl rfl rfl rfl ?_))
        refine av_istore (pc := 34) (i := 4) (lv2 := [(4, am_I x11), (0, am_R 74), (1, am_I a1), (2, am_I a2), (3, am_I a3)]) C dX10_then_34 (by decide) rfl ?_
        refine av_iload (pc := 36) (j := 0) C dX10_then_36 rfl ?_
        refine av_if_lt (pc := 38) (tgt := 51) C dX10_then_38 (by decide) (fun hc => ?_) (fun hc => ?_)
        · rw [if_pos hc] at hs
          refine av_iload (pc := 51) (j := 0) C dX10_then_51 rfl ?_
          obtain ⟨rfl, rfl⟩ := am_inj2 hs
          exact av_iret C hr hlocks dX10_then_53
        · rw [if_neg hc] at hs
          refine av_aload_n (pc := 41) (j := 1) C dX10_then_41 rfl rfl ?_
          refine av_iload_n (pc := 42) (j := 2) C dX10_then_42 rfl rfl ?_
          refine av_iconst (pc := 43) C dX10_then_43 rfl ?_
          refine av_iload_n (pc := 44) (j := 3) C dX10_then_44 rfl rfl ?_
          refine av_iload_n (pc := 45) (j := 4) C dX10_then_45 rfl rfl ?_
          refine av_iload (pc := 46) (j := 0) C dX10_then_46 rfl ?_
          obtain ⟨S13, hc14, hs⟩ := am_b1_of hs
          refine av_eq (st2 := [am_I x11, am_I a3, am_I a2, am_I 1, am_I a1, am_R 74]) rfl rfl rfl rfl (av_callV (pc := 48) (as := [am_I a1, am_I 1, am_I a2, am_I a3, am_I x11]) (rest := []) C (ct_X10_waitFor l G a1 1 a2 a3 x11 S10 S13 hc14) ym_X10_waitFor si_X10_211 im_X10_waitFor se_X10_waitFor sk_74 rfl ⟨Nat.le_of_ble_eq_true rfl, Nat.le_of_ble_eq_true rfl⟩ rfl rfl (Nat.le_of_ble_eq_true rfl) dX10_then_48 ⟨Nat.le_refl _, Nat.le_refl _⟩ (fun hrv => av_eq (st2 := []) rfl rfl rfl rfl ?_))
          refine av_iload (pc := 51) (j := 0) C dX10_then_51 rfl ?_
          obtain ⟨rfl, rfl⟩ := am_inj2 hs
          exact av_iret C hr hlocks dX10_then_53
      · rw [if_pos (Decidable.not_not.mp hc)] at hs
        refine av_iconst (pc := 28) C dX10_then_28 rfl ?_
        obtain ⟨rfl, rfl⟩ := am_inj2 hs
        exact av_iret C hr hlocks dX10_then_29
set_option maxHeartbeats 4000000 in
set_option maxRecDepth 100000 in
theorem ct_X10_thenable (l : Launch) (G : am_G) (a1 : Int) (a2 : Int) (a3 : Int) (a4 : Int) (a5 : Int) (a6 : Int) (S : am_S) (x : Int) (SZ : am_S) (hs : sf_X10_thenable a1 a2 a3 a4 a5 a6 S = some (x, SZ)) : am_met l yX10_thenable cX10_thenable 7 (some .boolean) 3 65 G [am_R 74, am_I a1, am_I a2, am_I a3, am_I a4, am_I a5, am_I a6] S (some (am_I x)) SZ := by
  refine am_enter ym_X10_thenable (Nat.le_of_ble_eq_true rfl) ?_
  intro p e s m args below meth c C hr hlocks
  refine av_eq (lv2 := [(0, am_R 74), (1, am_I a1), (2, am_I a2), (3, am_I a3), (4, am_I a4), (5, am_I a5), (6, am_I a6)]) rfl rfl rfl rfl ?_
  unfold sf_X10_thenable at hs
  refine av_iload_n (pc := 0) (j := 1) C dX10_thenable_0 rfl rfl ?_
  refine av_iconst (pc := 1) C dX10_thenable_1 rfl ?_
  refine av_iconst (pc := 2) C dX10_thenable_2 rfl ?_
  obtain ⟨x2, S1, hc3, hs⟩ := am_b2_of hs
  refine av_eq (st2 := [am_I 3, am_I 0, am_I a1]) rfl rfl rfl rfl (av_callS (pc := 3) (as := [am_I a1, am_I 0, am_I 3]) (rest := []) C (ct_X10_in l G a1 0 3 S x2 S1 hc3) ym_X10_in si_X10_171 st_X10_in ⟨Nat.le_of_ble_eq_true rfl, Nat.le_of_ble_eq_true rfl⟩ rfl rfl (Nat.le_of_ble_eq_true rfl) dX10_thenable_3 ⟨Nat.le_refl _, Nat.le_refl _⟩ (fun hrv => av_eq (st2 := [am_I x2]) rfl rfl rfl rfl ?_))
  refine av_if_eq (pc := 6) (tgt := 39) C dX10_thenable_6 (by decide) (fun hc => ?_) (fun hc => ?_)
  · rw [if_pos hc] at hs
    refine av_iconst (pc := 39) C dX10_thenable_39 rfl ?_
    obtain ⟨rfl, rfl⟩ := am_inj2 hs
    exact av_zret C (by decide) hr hlocks dX10_thenable_40
  · rw [if_neg hc] at hs
    refine av_iload_n (pc := 9) (j := 2) C dX10_thenable_9 rfl rfl ?_
    refine av_iconst (pc := 10) C dX10_thenable_10 rfl ?_
    refine av_iconst (pc := 11) C dX10_thenable_11 rfl ?_
    obtain ⟨x5, S4, hc6, hs⟩ := am_b2_of hs
    refine av_eq (st2 := [am_I 3, am_I 0, am_I a2]) rfl rfl rfl rfl (av_callS (pc := 12) (as := [am_I a2, am_I 0, am_I 3]) (rest := []) C (ct_X10_in l G a2 0 3 S1 x5 S4 hc6) ym_X10_in si_X10_171 st_X10_in ⟨Nat.le_of_ble_eq_true rfl, Nat.le_of_ble_eq_true rfl⟩ rfl rfl (Nat.le_of_ble_eq_true rfl) dX10_thenable_12 ⟨Nat.le_refl _, Nat.le_refl _⟩ (fun hrv => av_eq (st2 := [am_I x5]) rfl rfl rfl rfl ?_))
    refine av_if_eq (pc := 15) (tgt := 39) C dX10_thenable_15 (by decide) (fun hc => ?_) (fun hc => ?_)
    · rw [if_pos hc] at hs
      refine av_iconst (pc := 39) C dX10_thenable_39 rfl ?_
      obtain ⟨rfl, rfl⟩ := am_inj2 hs
      exact av_zret C (by decide) hr hlocks dX10_thenable_40
    · rw [if_neg hc] at hs
      refine av_aload_n (pc := 18) (j := 0) C dX10_thenable_18 rfl rfl ?_
      refine av_iload_n (pc := 19) (j := 3) C dX10_thenable_19 rfl rfl ?_
      refine av_iload (pc := 20) (j := 4) C dX10_thenable_20 rfl ?_
      obtain ⟨x8, S7, hc9, hs⟩ := am_b2_of hs
      refine av_eq (st2 := [am_I a4, am_I a3, am_R 74]) rfl rfl rfl rfl (av_callV (pc := 22) (as := [am_I a3, am_I a4]) (rest := []) C (ct_X10_isValue l G a3 a4 S4 x8 S7 hc9) ym_X10_isValue si_X10_204 im_X10_isValue se_X10_isValue sk_74 rfl ⟨Nat.le_of_ble_eq_true rfl, Nat.le_of_ble_eq_true rfl⟩ rfl rfl (Nat.le_of_ble_eq_true rfl) dX10_thenable_22 ⟨Nat.le_refl _, Nat.le_refl _⟩ (fun hrv => av_eq (st2 := [am_I x8]) rfl rfl rfl rfl ?_))
      refine av_if_eq (pc := 25) (tgt := 39) C dX10_thenable_25 (by decide) (fun hc => ?_) (fun hc => ?_)
      · rw [if_pos hc] at hs
        refine av_iconst (pc := 39) C dX10_thenable_39 rfl ?_
        obtain ⟨rfl, rfl⟩ := am_inj2 hs
        exact av_zret C (by decide) hr hlocks dX10_thenable_40
      · rw [if_neg hc] at hs
        refine av_aload_n (pc := 28) (j := 0) C dX10_thenable_28 rfl rfl ?_
        refine av_iload (pc := 29) (j := 5) C dX10_thenable_29 rfl ?_
        refine av_iload (pc := 31) (j := 6) C dX10_thenable_31 rfl ?_
        obtain ⟨x11, S10, hc12, hs⟩ := am_b2_of hs
        refine av_eq (st2 := [am_I a6, am_I a5, am_R 74]) rfl rfl rfl rfl (av_callV (pc := 33) (as := [am_I a5, am_I a6]) (rest := []) C (ct_X10_isValue l G a5 a6 S7 x11 S10 hc12) ym_X10_isValue si_X10_204 im_X10_isValue se_X10_isValue sk_74 rfl ⟨Nat.le_of_ble_eq_true rfl, Nat.le_of_ble_eq_true rfl⟩ rfl rfl (Nat.le_of_ble_eq_true rfl) dX10_thenable_33 ⟨Nat.le_refl _, Nat.le_refl _⟩ (fun hrv => av_eq (st2 := [am_I x11]) rfl rfl rfl rfl ?_))
        refine av_if_ne (pc := 36) (tgt := 41) C dX10_thenable_36 (by decide) (fun hc => ?_) (fun hc => ?_)
        · rw [if_neg hc] at hs
          refine av_aload_n (pc := 41) (j := 0) C dX10_thenable_41 rfl rfl ?_
          refine av_getR (pc := 42) (k := 20) (r := 93) C fl_X10_65 sk_74 rfl dX10_thenable_42 ?_
          refine av_iload_n (pc := 45) (j := 1) C dX10_thenable_45 rfl rfl ?_
          refine av_iload_n (pc := 46) (j := 2) C dX10_thenable_46 rfl rfl ?_
          obtain ⟨hb, hs⟩ := am_gd_of hs
          obtain ⟨S13, eS13, hs⟩ := am_let_of hs
          refine av_iast (pc := 47) C sk_93 hb dX10_thenable_47 ?_
          refine av_eq rfl rfl rfl eS13 ?_
          refine av_aload_n (pc := 48) (j := 0) C dX10_thenable_48 rfl rfl ?_
          refine av_getR (pc := 49) (k := 21) (r := 94) C fl_X10_68 sk_74 rfl dX10_thenable_49 ?_
          refine av_iload_n (pc := 52) (j := 1) C dX10_thenable_52 rfl rfl ?_
          refine av_iload_n (pc := 53) (j := 3) C dX10_thenable_53 rfl rfl ?_
          obtain ⟨hb, hs⟩ := am_gd_of hs
          obtain ⟨S14, eS14, hs⟩ := am_let_of hs
          refine av_iast (pc := 54) C sk_94 hb dX10_thenable_54 ?_
          refine av_eq rfl rfl rfl eS14 ?_
          refine av_aload_n (pc := 55) (j := 0) C dX10_thenable_55 rfl rfl ?_
          refine av_getR (pc := 56) (k := 22) (r := 95) C fl_X10_71 sk_74 rfl dX10_thenable_56 ?_
          refine av_iload_n (pc := 59) (j := 1) C dX10_thenable_59 rfl rfl ?_
          refine av_iload (pc := 60) (j := 4) C dX10_thenable_60 rfl ?_
          obtain ⟨hb, hs⟩ := am_gd_of hs
          obtain ⟨S15, eS15, hs⟩ := am_let_of hs
          refine av_iast (pc := 62) C sk_95 hb dX10_thenable_62 ?_
          refine av_eq rfl rfl rfl eS15 ?_
          refine av_aload_n (pc := 63) (j := 0) C dX10_thenable_63 rfl rfl ?_
          refine av_getR (pc := 64) (k := 23) (r := 96) C fl_X10_74 sk_74 rfl dX10_thenable_64 ?_
          refine av_iload_n (pc := 67) (j := 1) C dX10_thenable_67 rfl rfl ?_
          refine av_iload (pc := 68) (j := 5) C dX10_thenable_68 rfl ?_
          obtain ⟨hb, hs⟩ := am_gd_of hs
          obtain ⟨S16, eS16, hs⟩ := am_let_of hs
          refine av_iast (pc := 70) C sk_96 hb dX10_thenable_70 ?_
          refine av_eq rfl rfl rfl eS16 ?_
          refine av_aload_n (pc := 71) (j := 0) C dX10_thenable_71 rfl rfl ?_
          refine av_getR (pc := 72) (k := 24) (r := 97) C fl_X10_77 sk_74 rfl dX10_thenable_72 ?_
          refine av_iload_n (pc := 75) (j := 1) C dX10_thenable_75 rfl rfl ?_
          refine av_iload (pc := 76) (j := 6) C dX10_thenable_76 rfl ?_
          obtain ⟨hb, hs⟩ := am_gd_of hs
          obtain ⟨S17, eS17, hs⟩ := am_let_of hs
          refine av_iast (pc := 78) C sk_97 hb dX10_thenable_78 ?_
          refine av_eq rfl rfl rfl eS17 ?_
          refine av_iconst (pc := 79) C dX10_thenable_79 rfl ?_
          obtain ⟨rfl, rfl⟩ := am_inj2 hs
          exact av_zret C (by decide) hr hlocks dX10_thenable_80
        · rw [if_pos (Decidable.not_not.mp hc)] at hs
          refine av_iconst (pc := 39) C dX10_thenable_39 rfl ?_
          obtain ⟨rfl, rfl⟩ := am_inj2 hs
          exact av_zret C (by decide) hr hlocks dX10_thenable_40
set_option maxHeartbeats 4000000 in
set_option maxRecDepth 100000 in
theorem wk_X10_step_142 {p : Program} {l : Launch} {e : Env} {s : State} {m : MethodId} {args : Array Value} {below : List Frame} {meth : Method} {c : Code} {G : am_G} (C : am_C p s m args c cX10_step 7 RX10 G) (hr : meth.sig.returnType = (some .int)) (hlocks : meth.locks = false) (b1 : Int) (b2 : Int) (b3 : Int) (b4 : Int) (S : am_S) (x : Int) (SZ : am_S) (hs : sf_X10_step_142 b1 b2 b3 b4 S = some (x, SZ)) : am_V p l e (am_rm 1 22) s m args below meth c (MQ below (am_Q G (some (am_I x)) SZ) args s 0 0 (am_A G)) G (am_A G) s.heap 7 0 0 142 [(0, am_R 74), (1, am_I b1), (2, am_I b2), (3, am_I b3), (4, am_I b4)] [] S := by
  unfold sf_X10_step_142 at hs
  refine av_aload_n (pc := 142) (j := 0) C dX10_step_142 rfl rfl ?_
  refine av_getR (pc := 143) (k := 25) (r := 98) C fl_X10_80 sk_74 rfl dX10_step_143 ?_
  refine av_iload_n (pc := 146) (j := 1) C dX10_step_146 rfl rfl ?_
  obtain ⟨hb, hs⟩ := am_gd_of hs
  refine av_iald (pc := 147) C sk_98 hb dX10_step_147 ?_
  refine av_bipush (pc := 148) C dX10_step_148 rfl ?_
  refine av_icmp_ne (pc := 150) (tgt := 156) C dX10_step_150 (by decide) (fun hc => ?_) (fun hc => ?_)
  · rw [if_neg hc] at hs
    refine av_bipush (pc := 156) C dX10_step_156 rfl ?_
    refine av_iload_n (pc := 158) (j := 1) C dX10_step_158 rfl rfl ?_
    refine av_imul (pc := 159) C dX10_step_159 ?_
    refine av_aload_n (pc := 160) (j := 0) C dX10_step_160 rfl rfl ?_
    refine av_getR (pc := 161) (k := 25) (r := 98) C fl_X10_80 sk_74 rfl dX10_step_161 ?_
    refine av_iload_n (pc := 164) (j := 1) C dX10_step_164 rfl rfl ?_
    obtain ⟨hb, hs⟩ := am_gd_of hs
    refine av_iald (pc := 165) C sk_98 hb dX10_step_165 ?_
    refine av_iadd (pc := 166) C dX10_step_166 ?_
    refine av_istore (pc := 167) (i := 6) (lv2 := [(6, am_I (am_w32 ((am_w32 (10 * b1)) + (S.2 98 (Int.toNat b1))))), (0, am_R 74), (1, am_I b1), (2, am_I b2), (3, am_I b3), (4, am_I b4)]) C dX10_step_167 (by decide) rfl ?_
    refine av_aload_n (pc := 169) (j := 1) C dX10_step_169 rfl rfl ?_
    refine av_getR (pc := 170) (k := 26) (r := 99) C fl_X10_83 sk_74 rfl dX10_step_170 ?_
    refine av_iload (pc := 173) (j := 0) C dX10_step_173 rfl ?_
    refine av_iload_n (pc := 175) (j := 3) C dX10_step_175 rfl rfl ?_
    obtain ⟨hb, hs⟩ := am_gd_of hs
    obtain ⟨S37, eS37, hs⟩ := am_let_of hs
    refine av_iast (pc := 176) C sk_99 hb dX10_step_176 ?_
    refine av_eq rfl rfl rfl eS37 ?_
    refine av_aload_n (pc := 177) (j := 1) C dX10_step_177 rfl rfl ?_
    refine av_getR (pc := 178) (k := 27) (r := 100) C fl_X10_86 sk_74 rfl dX10_step_178 ?_
    refine av_iload (pc := 181) (j := 0) C dX10_step_181 rfl ?_
    refine av_iload_n (pc := 183) (j := 4) C dX10_step_183 rfl rfl ?_
    obtain ⟨hb, hs⟩ := am_gd_of hs
    obtain ⟨S38, eS38, hs⟩ := am_let_of hs
    refine av_iast (pc := 184) C sk_100 hb dX10_step_184 ?_
    refine av_eq rfl rfl rfl eS38 ?_
    refine av_aload_n (pc := 185) (j := 1) C dX10_step_185 rfl rfl ?_
    refine av_getR (pc := 186) (k := 28) (r := 101) C fl_X10_89 sk_74 rfl dX10_step_186 ?_
    refine av_iload (pc := 189) (j := 0) C dX10_step_189 rfl ?_
    refine av_iload (pc := 191) (j := 5) C dX10_step_191 rfl ?_
    obtain ⟨hb, hs⟩ := am_gd_of hs
    obtain ⟨S39, eS39, hs⟩ := am_let_of hs
    refine av_iast (pc := 193) C sk_101 hb dX10_step_193 ?_
    refine av_eq rfl rfl rfl eS39 ?_
    refine av_aload_n (pc := 194) (j := 1) C dX10_step_194 rfl rfl ?_
    refine av_getR (pc := 195) (k := 25) (r := 98) C fl_X10_80 sk_74 rfl dX10_step_195 ?_
    refine av_iload_n (pc := 198) (j := 2) C dX10_step_198 rfl rfl ?_
    refine av_dup2 (pc := 199) C dX10_step_199 rfl rfl ?_
    obtain ⟨hb, hs⟩ := am_gd_of hs
    refine av_iald (pc := 200) C sk_98 hb dX10_step_200 ?_
    refine av_iconst (pc := 201) C dX10_step_201 rfl ?_
    refine av_iadd (pc := 202) C dX10_step_202 ?_
    refine av_dup_x2 (pc := 203) C dX10_step_203 rfl rfl rfl ?_
    obtain ⟨hb, hs⟩ := am_gd_of hs
    obtain ⟨S40, eS40, hs⟩ := am_let_of hs
    refine av_iast (pc := 204) C sk_98 hb dX10_step_204 ?_
    refine av_eq rfl rfl rfl eS40 ?_
    obtain ⟨rfl, rfl⟩ := am_inj2 hs
    exact av_iret C hr hlocks dX10_step_205
  · rw [if_pos (Decidable.not_not.mp hc)] at hs
    refine av_bipush (pc := 153) C dX10_step_153 rfl ?_
    obtain ⟨rfl, rfl⟩ := am_inj2 hs
    exact av_iret C hr hlocks dX10_step_155
set_option maxHeartbeats 4000000 in
set_option maxRecDepth 100000 in
theorem wk_X10_step_64 {p : Program} {l : Launch} {e : Env} {s : State} {m : MethodId} {args : Array Value} {below : List Frame} {meth : Method} {c : Code} {G : am_G} (C : am_C p s m args c cX10_step 7 RX10 G) (hr : meth.sig.returnType = (some .int)) (hlocks : meth.locks = false) (b1 : Int) (b2 : Int) (b3 : Int) (b4 : Int) (S : am_S) (x : Int) (SZ : am_S) (hs : sf_X10_step_64 b1 b2 b3 b4 S = some (x, SZ)) : am_V p l e (am_rm 1 22) s m args below meth c (MQ below (am_Q G (some (am_I x)) SZ) args s 0 0 (am_A G)) G (am_A G) s.heap 7 0 0 64 [(0, am_R 74), (1, am_I b1), (2, am_I b2), (3, am_I b3), (4, am_I b4)] [] S := by
  unfold sf_X10_step_64 at hs
  refine av_iload_n (pc := 64) (j := 2) C dX10_step_64 rfl rfl ?_
  refine av_bipush (pc := 65) C dX10_step_65 rfl ?_
  refine av_icmp_eq (pc := 67) (tgt := 82) C dX10_step_67 (by decide) (fun hc => ?_) (fun hc => ?_)
  · rw [if_pos hc] at hs
    refine av_bipush (pc := 82) C dX10_step_82 rfl ?_
    refine av_goto (pc := 84) (tgt := 122) C dX10_step_84 (by decide) ?_
    refine av_istore (pc := 122) (i := 5) (lv2 := [(5, am_I 9), (0, am_R 74), (1, am_I b1), (2, am_I b2), (3, am_I b3), (4, am_I b4)]) C dX10_step_122 (by decide) rfl ?_
    refine av_iload (pc := 124) (j := 0) C dX10_step_124 rfl ?_
    refine av_if_le (pc := 126) (tgt := 142) C dX10_step_126 (by decide) (fun hc => absurd hc (by decide)) (fun hc => ?_)
    refine av_iload (pc := 129) (j := 5) C dX10_step_129 rfl ?_
    refine av_iconst (pc := 131) C dX10_step_131 rfl ?_
    refine av_iload (pc := 132) (j := 0) C dX10_step_132 rfl ?_
    obtain ⟨x17, S16, hc18, hs⟩ := am_b2_of hs
    refine av_eq (st2 := [am_I 9, am_I 0, am_I b4]) rfl rfl rfl rfl (av_callS (pc := 134) (as := [am_I b4, am_I 0, am_I 9]) (rest := []) C (ct_X10_in l G b4 0 9 S x17 S16 hc18) ym_X10_in si_X10_171 st_X10_in ⟨Nat.le_of_ble_eq_true rfl, Nat.le_of_ble_eq_true rfl⟩ rfl rfl (Nat.le_of_ble_eq_true rfl) dX10_step_134 ⟨Nat.le_refl _, Nat.le_refl _⟩ (fun hrv => av_eq (st2 := [am_I x17]) rfl rfl rfl rfl ?_))
    refine av_if_ne (pc := 137) (tgt := 142) C dX10_step_137 (by decide) (fun hc => ?_) (fun hc => ?_)
    · rw [if_neg hc] at hs
      refine av_lvsub (lv2 := [(0, am_R 74), (1, am_I b1), (2, am_I b2), (3, am_I b3), (4, am_I b4)]) [1, 2, 3, 4, 5] rfl ?_
      exact wk_X10_step_142 C hr hlocks b1 b2 b3 b4 S16 x SZ hs
    · rw [if_pos (Decidable.not_not.mp hc)] at hs
      refine av_iconst (pc := 140) C dX10_step_140 rfl ?_
      obtain ⟨rfl, rfl⟩ := am_inj2 hs
      exact av_iret C hr hlocks dX10_step_141
  · rw [if_neg hc] at hs
    refine av_iload_n (pc := 70) (j := 2) C dX10_step_70 rfl rfl ?_
    refine av_bipush (pc := 71) C dX10_step_71 rfl ?_
    refine av_icmp_eq (pc := 73) (tgt := 82) C dX10_step_73 (by decide) (fun hc => ?_) (fun hc => ?_)
    · rw [if_pos hc] at hs
      refine av_bipush (pc := 82) C dX10_step_82 rfl ?_
      refine av_goto (pc := 84) (tgt := 122) C dX10_step_84 (by decide) ?_
      refine av_istore (pc := 122) (i := 5) (lv2 := [(5, am_I 9), (0, am_R 74), (1, am_I b1), (2, am_I b2), (3, am_I b3), (4, am_I b4)]) C dX10_step_122 (by decide) rfl ?_
      refine av_iload (pc := 124) (j := 0) C dX10_step_124 rfl ?_
      refine av_if_le (pc := 126) (tgt := 142) C dX10_step_126 (by decide) (fun hc => absurd hc (by decide)) (fun hc => ?_)
      refine av_iload (pc := 129) (j := 5) C dX10_step_129 rfl ?_
      refine av_iconst (pc := 131) C dX10_step_131 rfl ?_
      refine av_iload (pc := 132) (j := 0) C dX10_step_132 rfl ?_
      obtain ⟨x20, S19, hc21, hs⟩ := am_b2_of hs
      refine av_eq (st2 := [am_I 9, am_I 0, am_I b4]) rfl rfl rfl rfl (av_callS (pc := 134) (as := [am_I b4, am_I 0, am_I 9]) (rest := []) C (ct_X10_in l G b4 0 9 S x20 S19 hc21) ym_X10_in si_X10_171 st_X10_in ⟨Nat.le_of_ble_eq_true rfl, Nat.le_of_ble_eq_true rfl⟩ rfl rfl (Nat.le_of_ble_eq_true rfl) dX10_step_134 ⟨Nat.le_refl _, Nat.le_refl _⟩ (fun hrv => av_eq (st2 := [am_I x20]) rfl rfl rfl rfl ?_))
      refine av_if_ne (pc := 137) (tgt := 142) C dX10_step_137 (by decide) (fun hc => ?_) (fun hc => ?_)
      · rw [if_neg hc] at hs
        refine av_lvsub (lv2 := [(0, am_R 74), (1, am_I b1), (2, am_I b2), (3, am_I b3), (4, am_I b4)]) [1, 2, 3, 4, 5] rfl ?_
        exact wk_X10_step_142 C hr hlocks b1 b2 b3 b4 S19 x SZ hs
      · rw [if_pos (Decidable.not_not.mp hc)] at hs
        refine av_iconst (pc := 140) C dX10_step_140 rfl ?_
        obtain ⟨rfl, rfl⟩ := am_inj2 hs
        exact av_iret C hr hlocks dX10_step_141
    · rw [if_neg hc] at hs
      refine av_iload_n (pc := 76) (j := 2) C dX10_step_76 rfl rfl ?_
      refine av_bipush (pc := 77) C dX10_step_77 rfl ?_
      refine av_icmp_ne (pc := 79) (tgt := 87) C dX10_step_79 (by decide) (fun hc => ?_) (fun hc => ?_)
      · rw [if_neg hc] at hs
        refine av_iload_n (pc := 87) (j := 2) C dX10_step_87 rfl rfl ?_
        refine av_bipush (pc := 88) C dX10_step_88 rfl ?_
        refine av_icmp_eq (pc := 90) (tgt := 99) C dX10_step_90 (by decide) (fun hc => ?_) (fun hc => ?_)
        · rw [if_pos hc] at hs
          refine av_bipush (pc := 99) C dX10_step_99 rfl ?_
          refine av_goto (pc := 101) (tgt := 122) C dX10_step_101 (by decide) ?_
          refine av_istore (pc := 122) (i := 5) (lv2 := [(5, am_I 10), (0, am_R 74), (1, am_I b1), (2, am_I b2), (3, am_I b3), (4, am_I b4)]) C dX10_step_122 (by decide) rfl ?_
          refine av_iload (pc := 124) (j := 0) C dX10_step_124 rfl ?_
          refine av_if_le (pc := 126) (tgt := 142) C dX10_step_126 (by decide) (fun hc => absurd hc (by decide)) (fun hc => ?_)
          refine av_iload (pc := 129) (j := 5) C dX10_step_129 rfl ?_
          refine av_iconst (pc := 131) C dX10_step_131 rfl ?_
          refine av_iload (pc := 132) (j := 0) C dX10_step_132 rfl ?_
          obtain ⟨x23, S22, hc24, hs⟩ := am_b2_of hs
          refine av_eq (st2 := [am_I 10, am_I 0, am_I b4]) rfl rfl rfl rfl (av_callS (pc := 134) (as := [am_I b4, am_I 0, am_I 10]) (rest := []) C (ct_X10_in l G b4 0 10 S x23 S22 hc24) ym_X10_in si_X10_171 st_X10_in ⟨Nat.le_of_ble_eq_true rfl, Nat.le_of_ble_eq_true rfl⟩ rfl rfl (Nat.le_of_ble_eq_true rfl) dX10_step_134 ⟨Nat.le_refl _, Nat.le_refl _⟩ (fun hrv => av_eq (st2 := [am_I x23]) rfl rfl rfl rfl ?_))
          refine av_if_ne (pc := 137) (tgt := 142) C dX10_step_137 (by decide) (fun hc => ?_) (fun hc => ?_)
          · rw [if_neg hc] at hs
            refine av_lvsub (lv2 := [(0, am_R 74), (1, am_I b1), (2, am_I b2), (3, am_I b3), (4, am_I b4)]) [1, 2, 3, 4, 5] rfl ?_
            exact wk_X10_step_142 C hr hlocks b1 b2 b3 b4 S22 x SZ hs
          · rw [if_pos (Decidable.not_not.mp hc)] at hs
            refine av_iconst (pc := 140) C dX10_step_140 rfl ?_
            obtain ⟨rfl, rfl⟩ := am_inj2 hs
            exact av_iret C hr hlocks dX10_step_141
        · rw [if_neg hc] at hs
          refine av_iload_n (pc := 93) (j := 2) C dX10_step_93 rfl rfl ?_
          refine av_bipush (pc := 94) C dX10_step_94 rfl ?_
          refine av_icmp_ne (pc := 96) (tgt := 104) C dX10_step_96 (by decide) (fun hc => ?_) (fun hc => ?_)
          · rw [if_neg hc] at hs
            refine av_iload_n (pc := 104) (j := 2) C dX10_step_104 rfl rfl ?_
            refine av_bipush (pc := 105) C dX10_step_105 rfl ?_
            refine av_icmp_eq (pc := 107) (tgt := 116) C dX10_step_107 (by decide) (fun hc => ?_) (fun hc => ?_)
            · rw [if_pos hc] at hs
              refine av_bipush (pc := 116) C dX10_step_116 rfl ?_
              refine av_goto (pc := 118) (tgt := 122) C dX10_step_118 (by decide) ?_
              refine av_istore (pc := 122) (i := 5) (lv2 := [(5, am_I 99), (0, am_R 74), (1, am_I b1), (2, am_I b2), (3, am_I b3), (4, am_I b4)]) C dX10_step_122 (by decide) rfl ?_
              refine av_iload (pc := 124) (j := 0) C dX10_step_124 rfl ?_
              refine av_if_le (pc := 126) (tgt := 142) C dX10_step_126 (by decide) (fun hc => absurd hc (by decide)) (fun hc => ?_)
              refine av_iload (pc := 129) (j := 5) C dX10_step_129 rfl ?_
              refine av_iconst (pc := 131) C dX10_step_131 rfl ?_
              refine av_iload (pc := 132) (j := 0) C dX10_step_132 rfl ?_
              obtain ⟨x26, S25, hc27, hs⟩ := am_b2_of hs
              refine av_eq (st2 := [am_I 99, am_I 0, am_I b4]) rfl rfl rfl rfl (av_callS (pc := 134) (as := [am_I b4, am_I 0, am_I 99]) (rest := []) C (ct_X10_in l G b4 0 99 S x26 S25 hc27) ym_X10_in si_X10_171 st_X10_in ⟨Nat.le_of_ble_eq_true rfl, Nat.le_of_ble_eq_true rfl⟩ rfl rfl (Nat.le_of_ble_eq_true rfl) dX10_step_134 ⟨Nat.le_refl _, Nat.le_refl _⟩ (fun hrv => av_eq (st2 := [am_I x26]) rfl rfl rfl rfl ?_))
              refine av_if_ne (pc := 137) (tgt := 142) C dX10_step_137 (by decide) (fun hc => ?_) (fun hc => ?_)
              · rw [if_neg hc] at hs
                refine av_lvsub (lv2 := [(0, am_R 74), (1, am_I b1), (2, am_I b2), (3, am_I b3), (4, am_I b4)]) [1, 2, 3, 4, 5] rfl ?_
                exact wk_X10_step_142 C hr hlocks b1 b2 b3 b4 S25 x SZ hs
              · rw [if_pos (Decidable.not_not.mp hc)] at hs
                refine av_iconst (pc := 140) C dX10_step_140 rfl ?_
                obtain ⟨rfl, rfl⟩ := am_inj2 hs
                exact av_iret C hr hlocks dX10_step_141
            · rw [if_neg hc] at hs
              refine av_iload_n (pc := 110) (j := 2) C dX10_step_110 rfl rfl ?_
              refine av_bipush (pc := 111) C dX10_step_111 rfl ?_
              refine av_icmp_ne (pc := 113) (tgt := 121) C dX10_step_113 (by decide) (fun hc => ?_) (fun hc => ?_)
              · rw [if_neg hc] at hs
                refine av_iconst (pc := 121) C dX10_step_121 rfl ?_
                refine av_istore (pc := 122) (i := 5) (lv2 := [(5, am_I (-1)), (0, am_R 74), (1, am_I b1), (2, am_I b2), (3, am_I b3), (4, am_I b4)]) C dX10_step_122 (by decide) rfl ?_
                refine av_iload (pc := 124) (j := 0) C dX10_step_124 rfl ?_
                refine av_if_le (pc := 126) (tgt := 142) C dX10_step_126 (by decide) (fun hc => ?_) (fun hc => absurd (by decide) hc)
                refine av_lvsub (lv2 := [(0, am_R 74), (1, am_I b1), (2, am_I b2), (3, am_I b3), (4, am_I b4)]) [1, 2, 3, 4, 5] rfl ?_
                exact wk_X10_step_142 C hr hlocks b1 b2 b3 b4 S x SZ hs
              · rw [if_pos (Decidable.not_not.mp hc)] at hs
                refine av_bipush (pc := 116) C dX10_step_116 rfl ?_
                refine av_goto (pc := 118) (tgt := 122) C dX10_step_118 (by decide) ?_
                refine av_istore (pc := 122) (i := 5) (lv2 := [(5, am_I 99), (0, am_R 74), (1, am_I b1), (2, am_I b2), (3, am_I b3), (4, am_I b4)]) C dX10_step_122 (by decide) rfl ?_
                refine av_iload (pc := 124) (j := 0) C dX10_step_124 rfl ?_
                refine av_if_le (pc := 126) (tgt := 142) C dX10_step_126 (by decide) (fun hc => absurd hc (by decide)) (fun hc => ?_)
                refine av_iload (pc := 129) (j := 5) C dX10_step_129 rfl ?_
                refine av_iconst (pc := 131) C dX10_step_131 rfl ?_
                refine av_iload (pc := 132) (j := 0) C dX10_step_132 rfl ?_
                obtain ⟨x29, S28, hc30, hs⟩ := am_b2_of hs
                refine av_eq (st2 := [am_I 99, am_I 0, am_I b4]) rfl rfl rfl rfl (av_callS (pc := 134) (as := [am_I b4, am_I 0, am_I 99]) (rest := []) C (ct_X10_in l G b4 0 99 S x29 S28 hc30) ym_X10_in si_X10_171 st_X10_in ⟨Nat.le_of_ble_eq_true rfl, Nat.le_of_ble_eq_true rfl⟩ rfl rfl (Nat.le_of_ble_eq_true rfl) dX10_step_134 ⟨Nat.le_refl _, Nat.le_refl _⟩ (fun hrv => av_eq (st2 := [am_I x29]) rfl rfl rfl rfl ?_))
                refine av_if_ne (pc := 137) (tgt := 142) C dX10_step_137 (by decide) (fun hc => ?_) (fun hc => ?_)
                · rw [if_neg hc] at hs
                  refine av_lvsub (lv2 := [(0, am_R 74), (1, am_I b1), (2, am_I b2), (3, am_I b3), (4, am_I b4)]) [1, 2, 3, 4, 5] rfl ?_
                  exact wk_X10_step_142 C hr hlocks b1 b2 b3 b4 S28 x SZ hs
                · rw [if_pos (Decidable.not_not.mp hc)] at hs
                  refine av_iconst (pc := 140) C dX10_step_140 rfl ?_
                  obtain ⟨rfl, rfl⟩ := am_inj2 hs
                  exact av_iret C hr hlocks dX10_step_141
          · rw [if_pos (Decidable.not_not.mp hc)] at hs
            refine av_bipush (pc := 99) C dX10_step_99 rfl ?_
            refine av_goto (pc := 101) (tgt := 122) C dX10_step_101 (by decide) ?_
            refine av_istore (pc := 122) (i := 5) (lv2 := [(5, am_I 10), (0, am_R 74), (1, am_I b1), (2, am_I b2), (3, am_I b3), (4, am_I b4)]) C dX10_step_122 (by decide) rfl ?_
            refine av_iload (pc := 124) (j := 0) C dX10_step_124 rfl ?_
            refine av_if_le (pc := 126) (tgt := 142) C dX10_step_126 (by decide) (fun hc => absurd hc (by decide)) (fun hc => ?_)
            refine av_iload (pc := 129) (j := 5) C dX10_step_129 rfl ?_
            refine av_iconst (pc := 131) C dX10_step_131 rfl ?_
            refine av_iload (pc := 132) (j := 0) C dX10_step_132 rfl ?_
            obtain ⟨x32, S31, hc33, hs⟩ := am_b2_of hs
            refine av_eq (st2 := [am_I 10, am_I 0, am_I b4]) rfl rfl rfl rfl (av_callS (pc := 134) (as := [am_I b4, am_I 0, am_I 10]) (rest := []) C (ct_X10_in l G b4 0 10 S x32 S31 hc33) ym_X10_in si_X10_171 st_X10_in ⟨Nat.le_of_ble_eq_true rfl, Nat.le_of_ble_eq_true rfl⟩ rfl rfl (Nat.le_of_ble_eq_true rfl) dX10_step_134 ⟨Nat.le_refl _, Nat.le_refl _⟩ (fun hrv => av_eq (st2 := [am_I x32]) rfl rfl rfl rfl ?_))
            refine av_if_ne (pc := 137) (tgt := 142) C dX10_step_137 (by decide) (fun hc => ?_) (fun hc => ?_)
            · rw [if_neg hc] at hs
              refine av_lvsub (lv2 := [(0, am_R 74), (1, am_I b1), (2, am_I b2), (3, am_I b3), (4, am_I b4)]) [1, 2, 3, 4, 5] rfl ?_
              exact wk_X10_step_142 C hr hlocks b1 b2 b3 b4 S31 x SZ hs
            · rw [if_pos (Decidable.not_not.mp hc)] at hs
              refine av_iconst (pc := 140) C dX10_step_140 rfl ?_
              obtain ⟨rfl, rfl⟩ := am_inj2 hs
              exact av_iret C hr hlocks dX10_step_141
      · rw [if_pos (Decidable.not_not.mp hc)] at hs
        refine av_bipush (pc := 82) C dX10_step_82 rfl ?_
        refine av_goto (pc := 84) (tgt := 122) C dX10_step_84 (by decide) ?_
        refine av_istore (pc := 122) (i := 5) (lv2 := [(5, am_I 9), (0, am_R 74), (1, am_I b1), (2, am_I b2), (3, am_I b3), (4, am_I b4)]) C dX10_step_122 (by decide) rfl ?_
        refine av_iload (pc := 124) (j := 0) C dX10_step_124 rfl ?_
        refine av_if_le (pc := 126) (tgt := 142) C dX10_step_126 (by decide) (fun hc => absurd hc (by decide)) (fun hc => ?_)
        refine av_iload (pc := 129) (j := 5) C dX10_step_129 rfl ?_
        refine av_iconst (pc := 131) C dX10_step_131 rfl ?_
        refine av_iload (pc := 132) (j := 0) C dX10_step_132 rfl ?_
        obtain ⟨x35, S34, hc36, hs⟩ := am_b2_of hs
        refine av_eq (st2 := [am_I 9, am_I 0, am_I b4]) rfl rfl rfl rfl (av_callS (pc := 134) (as := [am_I b4, am_I 0, am_I 9]) (rest := []) C (ct_X10_in l G b4 0 9 S x35 S34 hc36) ym_X10_in si_X10_171 st_X10_in ⟨Nat.le_of_ble_eq_true rfl, Nat.le_of_ble_eq_true rfl⟩ rfl rfl (Nat.le_of_ble_eq_true rfl) dX10_step_134 ⟨Nat.le_refl _, Nat.le_refl _⟩ (fun hrv => av_eq (st2 := [am_I x35]) rfl rfl rfl rfl ?_))
        refine av_if_ne (pc := 137) (tgt := 142) C dX10_step_137 (by decide) (fun hc => ?_) (fun hc => ?_)
        · rw [if_neg hc] at hs
          refine av_lvsub (lv2 := [(0, am_R 74), (1, am_I b1), (2, am_I b2), (3, am_I b3), (4, am_I b4)]) [1, 2, 3, 4, 5] rfl ?_
          exact wk_X10_step_142 C hr hlocks b1 b2 b3 b4 S34 x SZ hs
        · rw [if_pos (Decidable.not_not.mp hc)] at hs
          refine av_iconst (pc := 140) C dX10_step_140 rfl ?_
          obtain ⟨rfl, rfl⟩ := am_inj2 hs
          exact av_iret C hr hlocks dX10_step_141
set_option maxHeartbeats 4000000 in
set_option maxRecDepth 100000 in
theorem ct_X10_step (l : Launch) (G : am_G) (a1 : Int) (a2 : Int) (a3 : Int) (a4 : Int) (S : am_S) (x : Int) (SZ : am_S) (hs : sf_X10_step a1 a2 a3 a4 S = some (x, SZ)) : am_met l yX10_step cX10_step 7 (some .int) 1 22 G [am_R 74, am_I a1, am_I a2, am_I a3, am_I a4] S (some (am_I x)) SZ := by
  refine am_enter ym_X10_step (Nat.le_of_ble_eq_true rfl) ?_
  intro p e s m args below meth c C hr hlocks
  refine av_eq (lv2 := [(0, am_R 74), (1, am_I a1), (2, am_I a2), (3, am_I a3), (4, am_I a4)]) rfl rfl rfl rfl ?_
  unfold sf_X10_step at hs
  refine av_iload_n (pc := 0) (j := 1) C dX10_step_0 rfl rfl ?_
  refine av_iconst (pc := 1) C dX10_step_1 rfl ?_
  refine av_bipush (pc := 2) C dX10_step_2 rfl ?_
  obtain ⟨x2, S1, hc3, hs⟩ := am_b2_of hs
  refine av_eq (st2 := [am_I 9, am_I 0, am_I a1]) rfl rfl rfl rfl (av_callS (pc := 4) (as := [am_I a1, am_I 0, am_I 9]) (rest := []) C (ct_X10_in l G a1 0 9 S x2 S1 hc3) ym_X10_in si_X10_171 st_X10_in ⟨Nat.le_of_ble_eq_true rfl, Nat.le_of_ble_eq_true rfl⟩ rfl rfl (Nat.le_of_ble_eq_true rfl) dX10_step_4 ⟨Nat.le_refl _, Nat.le_refl _⟩ (fun hrv => av_eq (st2 := [am_I x2]) rfl rfl rfl rfl ?_))
  refine av_if_eq (pc := 7) (tgt := 20) C dX10_step_7 (by decide) (fun hc => ?_) (fun hc => ?_)
  · rw [if_pos hc] at hs
    refine av_iconst (pc := 20) C dX10_step_20 rfl ?_
    obtain ⟨rfl, rfl⟩ := am_inj2 hs
    exact av_iret C hr hlocks dX10_step_21
  · rw [if_neg hc] at hs
    refine av_iload_n (pc := 10) (j := 2) C dX10_step_10 rfl rfl ?_
    refine av_iconst (pc := 11) C dX10_step_11 rfl ?_
    refine av_bipush (pc := 12) C dX10_step_12 rfl ?_
    obtain ⟨x5, S4, hc6, hs⟩ := am_b2_of hs
    refine av_eq (st2 := [am_I 14, am_I 0, am_I a2]) rfl rfl rfl rfl (av_callS (pc := 14) (as := [am_I a2, am_I 0, am_I 14]) (rest := []) C (ct_X10_in l G a2 0 14 S1 x5 S4 hc6) ym_X10_in si_X10_171 st_X10_in ⟨Nat.le_of_ble_eq_true rfl, Nat.le_of_ble_eq_true rfl⟩ rfl rfl (Nat.le_of_ble_eq_true rfl) dX10_step_14 ⟨Nat.le_refl _, Nat.le_refl _⟩ (fun hrv => av_eq (st2 := [am_I x5]) rfl rfl rfl rfl ?_))
    refine av_if_ne (pc := 17) (tgt := 22) C dX10_step_17 (by decide) (fun hc => ?_) (fun hc => ?_)
    · rw [if_neg hc] at hs
      refine av_iload_n (pc := 22) (j := 2) C dX10_step_22 rfl rfl ?_
      refine av_iconst (pc := 23) C dX10_step_23 rfl ?_
      refine av_icmp_ne (pc := 24) (tgt := 64) C dX10_step_24 (by decide) (fun hc => ?_) (fun hc => ?_)
      · rw [if_neg hc] at hs
        exact wk_X10_step_64 C hr hlocks a1 a2 a3 a4 S4 x SZ hs
      · rw [if_pos (Decidable.not_not.mp hc)] at hs
        refine av_iload_n (pc := 27) (j := 3) C dX10_step_27 rfl rfl ?_
        refine av_if_eq (pc := 28) (tgt := 64) C dX10_step_28 (by decide) (fun hc => ?_) (fun hc => ?_)
        · rw [if_pos hc] at hs
          exact wk_X10_step_64 C hr hlocks a1 a2 a3 a4 S4 x SZ hs
        · rw [if_neg hc] at hs
          refine av_iload_n (pc := 31) (j := 3) C dX10_step_31 rfl rfl ?_
          refine av_iconst (pc := 32) C dX10_step_32 rfl ?_
          refine av_icmp_ne (pc := 33) (tgt := 47) C dX10_step_33 (by decide) (fun hc => ?_) (fun hc => ?_)
          · rw [if_neg hc] at hs
            refine av_iload_n (pc := 47) (j := 3) C dX10_step_47 rfl rfl ?_
            refine av_iconst (pc := 48) C dX10_step_48 rfl ?_
            refine av_icmp_ne (pc := 49) (tgt := 62) C dX10_step_49 (by decide) (fun hc => ?_) (fun hc => ?_)
            · rw [if_neg hc] at hs
              refine av_iconst (pc := 62) C dX10_step_62 rfl ?_
              obtain ⟨rfl, rfl⟩ := am_inj2 hs
              exact av_iret C hr hlocks dX10_step_63
            · rw [if_pos (Decidable.not_not.mp hc)] at hs
              refine av_iload (pc := 52) (j := 4) C dX10_step_52 rfl ?_
              refine av_iconst (pc := 54) C dX10_step_54 rfl ?_
              refine av_iconst (pc := 55) C dX10_step_55 rfl ?_
              obtain ⟨x8, S7, hc9, hs⟩ := am_b2_of hs
              refine av_eq (st2 := [am_I 3, am_I 0, am_I a4]) rfl rfl rfl rfl (av_callS (pc := 56) (as := [am_I a4, am_I 0, am_I 3]) (rest := []) C (ct_X10_in l G a4 0 3 S4 x8 S7 hc9) ym_X10_in si_X10_171 st_X10_in ⟨Nat.le_of_ble_eq_true rfl, Nat.le_of_ble_eq_true rfl⟩ rfl rfl (Nat.le_of_ble_eq_true rfl) dX10_step_56 ⟨Nat.le_refl _, Nat.le_refl _⟩ (fun hrv => av_eq (st2 := [am_I x8]) rfl rfl rfl rfl ?_))
              refine av_if_ne (pc := 59) (tgt := 64) C dX10_step_59 (by decide) (fun hc => ?_) (fun hc => ?_)
              · rw [if_neg hc] at hs
                exact wk_X10_step_64 C hr hlocks a1 a2 a3 a4 S7 x SZ hs
              · rw [if_pos (Decidable.not_not.mp hc)] at hs
                refine av_iconst (pc := 62) C dX10_step_62 rfl ?_
                obtain ⟨rfl, rfl⟩ := am_inj2 hs
                exact av_iret C hr hlocks dX10_step_63
          · rw [if_pos (Decidable.not_not.mp hc)] at hs
            refine av_iload (pc := 36) (j := 4) C dX10_step_36 rfl ?_
            refine av_iconst (pc := 38) C dX10_step_38 rfl ?_
            refine av_bipush (pc := 39) C dX10_step_39 rfl ?_
            obtain ⟨x11, S10, hc12, hs⟩ := am_b2_of hs
            refine av_eq (st2 := [am_I 99, am_I 0, am_I a4]) rfl rfl rfl rfl (av_callS (pc := 41) (as := [am_I a4, am_I 0, am_I 99]) (rest := []) C (ct_X10_in l G a4 0 99 S4 x11 S10 hc12) ym_X10_in si_X10_171 st_X10_in ⟨Nat.le_of_ble_eq_true rfl, Nat.le_of_ble_eq_true rfl⟩ rfl rfl (Nat.le_of_ble_eq_true rfl) dX10_step_41 ⟨Nat.le_refl _, Nat.le_refl _⟩ (fun hrv => av_eq (st2 := [am_I x11]) rfl rfl rfl rfl ?_))
            refine av_if_ne (pc := 44) (tgt := 64) C dX10_step_44 (by decide) (fun hc => ?_) (fun hc => ?_)
            · rw [if_neg hc] at hs
              exact wk_X10_step_64 C hr hlocks a1 a2 a3 a4 S10 x SZ hs
            · rw [if_pos (Decidable.not_not.mp hc)] at hs
              refine av_iload_n (pc := 47) (j := 3) C dX10_step_47 rfl rfl ?_
              refine av_iconst (pc := 48) C dX10_step_48 rfl ?_
              refine av_icmp_ne (pc := 49) (tgt := 62) C dX10_step_49 (by decide) (fun hc => ?_) (fun hc => ?_)
              · rw [if_neg hc] at hs
                refine av_iconst (pc := 62) C dX10_step_62 rfl ?_
                obtain ⟨rfl, rfl⟩ := am_inj2 hs
                exact av_iret C hr hlocks dX10_step_63
              · rw [if_pos (Decidable.not_not.mp hc)] at hs
                refine av_iload (pc := 52) (j := 4) C dX10_step_52 rfl ?_
                refine av_iconst (pc := 54) C dX10_step_54 rfl ?_
                refine av_iconst (pc := 55) C dX10_step_55 rfl ?_
                obtain ⟨x14, S13, hc15, hs⟩ := am_b2_of hs
                refine av_eq (st2 := [am_I 3, am_I 0, am_I a4]) rfl rfl rfl rfl (av_callS (pc := 56) (as := [am_I a4, am_I 0, am_I 3]) (rest := []) C (ct_X10_in l G a4 0 3 S10 x14 S13 hc15) ym_X10_in si_X10_171 st_X10_in ⟨Nat.le_of_ble_eq_true rfl, Nat.le_of_ble_eq_true rfl⟩ rfl rfl (Nat.le_of_ble_eq_true rfl) dX10_step_56 ⟨Nat.le_refl _, Nat.le_refl _⟩ (fun hrv => av_eq (st2 := [am_I x14]) rfl rfl rfl rfl ?_))
                refine av_if_ne (pc := 59) (tgt := 64) C dX10_step_59 (by decide) (fun hc => ?_) (fun hc => ?_)
                · rw [if_neg hc] at hs
                  exact wk_X10_step_64 C hr hlocks a1 a2 a3 a4 S13 x SZ hs
                · rw [if_pos (Decidable.not_not.mp hc)] at hs
                  refine av_iconst (pc := 62) C dX10_step_62 rfl ?_
                  obtain ⟨rfl, rfl⟩ := am_inj2 hs
                  exact av_iret C hr hlocks dX10_step_63
    · rw [if_pos (Decidable.not_not.mp hc)] at hs
      refine av_iconst (pc := 20) C dX10_step_20 rfl ?_
      obtain ⟨rfl, rfl⟩ := am_inj2 hs
      exact av_iret C hr hlocks dX10_step_21
