set_option maxHeartbeats 4000000 in
set_option maxRecDepth 100000 in
theorem ct_X5_enter (l : Launch) (G : am_G) (a1 : Int) (a2 : Int) (a3 : Int) (S : am_S) (SZ : am_S) (hs : sf_X5_enter a1 a2 a3 S = some SZ) : am_met l yX5_enter cX5_enter 5 none 1 23 G [am_R 7, am_I a1, am_I a2, am_J a3] S none SZ := by
  refine am_enter ym_X5_enter (Nat.le_of_ble_eq_true rfl) ?_
  intro p e s m args below meth c C hr hlocks
  refine av_eq (lv2 := [(0, am_R 7), (1, am_I a1), (2, am_I a2), (3, am_J a3)]) rfl rfl rfl rfl ?_
  unfold sf_X5_enter at hs
  refine av_aload_n (pc := 0) (j := 0) C dX5_enter_0 rfl rfl ?_
  refine av_getR (pc := 1) (k := 4) (r := 34) C fl_X5_14 sk_7 rfl dX5_enter_1 ?_
  refine av_iload_n (pc := 4) (j := 1) C dX5_enter_4 rfl rfl ?_
  refine av_iload_n (pc := 5) (j := 2) C dX5_enter_5 rfl rfl ?_
  refine av_i2l (pc := 6) C dX5_enter_6 ?_
  obtain ⟨S1, hc2, hs⟩ := am_b1_of hs
  refine av_eq (st2 := [am_J a2, am_I a1, am_R 34]) rfl rfl rfl rfl (av_callV (pc := 7) (as := [am_I a1, am_J a2]) (rest := []) C (ct_X4_put l G 34 67 101 sk_34 sk_67 rfl a1 a2 S S1 hc2) ym_X4_put si_X5_78 im_X4_put se_X4_put sk_34 rfl ⟨Nat.le_of_ble_eq_true rfl, Nat.le_of_ble_eq_true rfl⟩ rfl rfl (Nat.le_of_ble_eq_true rfl) dX5_enter_7 ⟨Nat.le_refl _, Nat.le_refl _⟩ (fun hrv => av_eq (st2 := []) rfl rfl rfl rfl ?_))
  refine av_aload_n (pc := 10) (j := 0) C dX5_enter_10 rfl rfl ?_
  refine av_getR (pc := 11) (k := 5) (r := 35) C fl_X5_20 sk_7 rfl dX5_enter_11 ?_
  refine av_iload_n (pc := 14) (j := 1) C dX5_enter_14 rfl rfl ?_
  refine av_lconst (pc := 15) (x := 0) C dX5_enter_15 rfl rfl ?_
  obtain ⟨S3, hc4, hs⟩ := am_b1_of hs
  refine av_eq (st2 := [am_J 0, am_I a1, am_R 35]) rfl rfl rfl rfl (av_callV (pc := 16) (as := [am_I a1, am_J 0]) (rest := []) C (ct_X4_put l G 35 68 101 sk_35 sk_68 rfl a1 0 S1 S3 hc4) ym_X4_put si_X5_78 im_X4_put se_X4_put sk_35 rfl ⟨Nat.le_of_ble_eq_true rfl, Nat.le_of_ble_eq_true rfl⟩ rfl rfl (Nat.le_of_ble_eq_true rfl) dX5_enter_16 ⟨Nat.le_refl _, Nat.le_refl _⟩ (fun hrv => av_eq (st2 := []) rfl rfl rfl rfl ?_))
  refine av_aload_n (pc := 19) (j := 0) C dX5_enter_19 rfl rfl ?_
  refine av_getR (pc := 20) (k := 6) (r := 36) C fl_X5_23 sk_7 rfl dX5_enter_20 ?_
  refine av_iload_n (pc := 23) (j := 1) C dX5_enter_23 rfl rfl ?_
  refine av_lload_n (pc := 24) (j := 3) C dX5_enter_24 rfl rfl ?_
  obtain ⟨S5, hc6, hs⟩ := am_b1_of hs
  refine av_eq (st2 := [am_J a3, am_I a1, am_R 36]) rfl rfl rfl rfl (av_callV (pc := 25) (as := [am_I a1, am_J a3]) (rest := []) C (ct_X4_put l G 36 69 101 sk_36 sk_69 rfl a1 a3 S3 S5 hc6) ym_X4_put si_X5_78 im_X4_put se_X4_put sk_36 rfl ⟨Nat.le_of_ble_eq_true rfl, Nat.le_of_ble_eq_true rfl⟩ rfl rfl (Nat.le_of_ble_eq_true rfl) dX5_enter_25 ⟨Nat.le_refl _, Nat.le_refl _⟩ (fun hrv => av_eq (st2 := []) rfl rfl rfl rfl ?_))
  refine av_aload_n (pc := 28) (j := 0) C dX5_enter_28 rfl rfl ?_
  refine av_getR (pc := 29) (k := 7) (r := 37) C fl_X5_26 sk_7 rfl dX5_enter_29 ?_
  refine av_iload_n (pc := 32) (j := 1) C dX5_enter_32 rfl rfl ?_
  refine av_aload_n (pc := 33) (j := 0) C dX5_enter_33 rfl rfl ?_
  refine av_getI (pc := 34) (k := 11) (n := 459) C fl_X5_38 sk_7 rfl rfl dX5_enter_34 ?_
  refine av_i2l (pc := 37) C dX5_enter_37 ?_
  obtain ⟨S7, hc8, hs⟩ := am_b1_of hs
  refine av_eq (st2 := [am_J (S5.1 459), am_I a1, am_R 37]) rfl rfl rfl rfl (av_callV (pc := 38) (as := [am_I a1, am_J (S5.1 459)]) (rest := []) C (ct_X4_put l G 37 70 101 sk_37 sk_70 rfl a1 (S5.1 459) S5 S7 hc8) ym_X4_put si_X5_78 im_X4_put se_X4_put sk_37 rfl ⟨Nat.le_of_ble_eq_true rfl, Nat.le_of_ble_eq_true rfl⟩ rfl rfl (Nat.le_of_ble_eq_true rfl) dX5_enter_38 ⟨Nat.le_refl _, Nat.le_refl _⟩ (fun hrv => av_eq (st2 := []) rfl rfl rfl rfl ?_))
  refine av_aload_n (pc := 41) (j := 0) C dX5_enter_41 rfl rfl ?_
  refine av_iload_n (pc := 42) (j := 1) C dX5_enter_42 rfl rfl ?_
  obtain ⟨S9, eS9, hs⟩ := am_let_of hs
  refine av_putI (pc := 43) (k := 11) (n := 459) C fp_X5_38 sk_7 rfl rfl dX5_enter_43 ?_
  refine av_eq rfl rfl rfl eS9 ?_
  obtain rfl := am_inj1 hs
  exact av_vret C hr hlocks dX5_enter_46
set_option maxHeartbeats 4000000 in
set_option maxRecDepth 100000 in
theorem ct_X5_perform (l : Launch) (G : am_G) (a1 : Int) (a2 : Int) (a3 : Int) (S : am_S) (SZ : am_S) (hs : sf_X5_perform a1 a2 a3 S = some SZ) : am_met l yX5_perform cX5_perform 5 none 2 47 G [am_R 7, am_I a1, am_J a2, am_I a3] S none SZ := by
  refine am_enter ym_X5_perform (Nat.le_of_ble_eq_true rfl) ?_
  intro p e s m args below meth c C hr hlocks
  refine av_eq (lv2 := [(0, am_R 7), (1, am_I a1), (2, am_J a2), (4, am_I a3)]) rfl rfl rfl rfl ?_
  unfold sf_X5_perform at hs
  refine av_aload_n (pc := 0) (j := 0) C dX5_perform_0 rfl rfl ?_
  refine av_iload (pc := 1) (j := 3) C dX5_perform_1 rfl ?_
  obtain ⟨S1, eS1, hs⟩ := am_let_of hs
  refine av_putI (pc := 3) (k := 12) (n := 460) C fp_X5_42 sk_7 rfl rfl dX5_perform_3 ?_
  refine av_eq rfl rfl rfl eS1 ?_
  refine av_aload_n (pc := 6) (j := 0) C dX5_perform_6 rfl rfl ?_
  refine av_bipush (pc := 7) C dX5_perform_7 rfl ?_
  refine av_iload_n (pc := 9) (j := 1) C dX5_perform_9 rfl rfl ?_
  refine av_lload_n (pc := 10) (j := 2) C dX5_perform_10 rfl rfl ?_
  obtain ⟨S2, hc3, hs⟩ := am_b1_of hs
  refine av_eq (st2 := [am_J a2, am_I a1, am_I 100, am_R 7]) rfl rfl rfl rfl (av_callV (pc := 11) (as := [am_I 100, am_I a1, am_J a2]) (rest := []) C (ct_X5_enter l G 100 a1 a2 S1 S2 hc3) ym_X5_enter si_X5_98 im_X5_enter se_X5_enter sk_7 rfl ⟨Nat.le_of_ble_eq_true rfl, Nat.le_of_ble_eq_true rfl⟩ rfl rfl (Nat.le_of_ble_eq_true rfl) dX5_perform_11 ⟨Nat.le_refl _, Nat.le_refl _⟩ (fun hrv => av_eq (st2 := []) rfl rfl rfl rfl ?_))
  obtain rfl := am_inj1 hs
  exact av_vret C hr hlocks dX5_perform_14
set_option maxHeartbeats 4000000 in
set_option maxRecDepth 100000 in
theorem wk_X5_handle_24 {p : Program} {l : Launch} {e : Env} {s : State} {m : MethodId} {args : Array Value} {below : List Frame} {meth : Method} {c : Code} {G : am_G} (C : am_C p s m args c cX5_handle 6 RX5 G) (hr : meth.sig.returnType = none) (hlocks : meth.locks = false) (b1 : Int) (b2 : Int) (b3 : Int) (t0 : Int) (S : am_S) (SZ : am_S) (hs : sf_X5_handle_24 b1 b2 b3 t0 S = some SZ) : am_V p l e (am_rm 3 73) s m args below meth c (MQ below (am_Q G none SZ) args s 0 0 (am_A G)) G (am_A G) s.heap 6 0 0 24 [(0, am_R 7), (1, am_I b1), (2, am_I b2), (3, am_J b3)] [am_I t0] S := by
  unfold sf_X5_handle_24 at hs
  refine av_istore (pc := 24) (i := 5) (lv2 := [(5, am_I t0), (0, am_R 7), (1, am_I b1), (2, am_I b2), (3, am_J b3)]) C dX5_handle_24 (by decide) rfl ?_
  refine av_iload (pc := 26) (j := 0) C dX5_handle_26 rfl ?_
  refine av_iconst (pc := 28) C dX5_handle_28 rfl ?_
  refine av_icmp_ne (pc := 29) (tgt := 46) C dX5_handle_29 (by decide) (fun hc => ?_) (fun hc => ?_)
  · rw [if_neg hc] at hs
    refine av_aload_n (pc := 46) (j := 1) C dX5_handle_46 rfl rfl ?_
    refine av_iload (pc := 47) (j := 0) C dX5_handle_47 rfl ?_
    refine av_lload_n (pc := 49) (j := 4) C dX5_handle_49 rfl rfl ?_
    refine av_iload_n (pc := 50) (j := 2) C dX5_handle_50 rfl rfl ?_
    obtain ⟨S7, hc8, hs⟩ := am_b1_of hs
    refine av_eq (st2 := [am_I b1, am_J b3, am_I t0, am_R 7]) rfl rfl rfl rfl (av_callV (pc := 51) (as := [am_I t0, am_J b3, am_I b1]) (rest := []) C (ct_X5_perform l G t0 b3 b1 S S7 hc8) ym_X5_perform si_X5_94 im_X5_perform se_X5_perform sk_7 rfl ⟨Nat.le_of_ble_eq_true rfl, Nat.le_of_ble_eq_true rfl⟩ rfl rfl (Nat.le_of_ble_eq_true rfl) dX5_handle_51 ⟨Nat.le_refl _, Nat.le_refl _⟩ (fun hrv => av_eq (st2 := []) rfl rfl rfl rfl ?_))
    obtain rfl := am_inj1 hs
    exact av_vret C hr hlocks dX5_handle_54
  · rw [if_pos (Decidable.not_not.mp hc)] at hs
    refine av_aload_n (pc := 32) (j := 1) C dX5_handle_32 rfl rfl ?_
    refine av_getR (pc := 33) (k := 1) (r := 1) C fl_X5_52 sk_7 rfl dX5_handle_33 ?_
    refine av_iload_n (pc := 36) (j := 2) C dX5_handle_36 rfl rfl ?_
    refine av_iload_n (pc := 37) (j := 3) C dX5_handle_37 rfl rfl ?_
    refine av_lload_n (pc := 38) (j := 4) C dX5_handle_38 rfl rfl ?_
    refine av_iconst (pc := 39) C dX5_handle_39 rfl ?_
    obtain ⟨S9, hc10, hs⟩ := am_b1_of hs
    refine av_eq (st2 := [am_I 0, am_J b3, am_I b2, am_I b1, am_R 1]) rfl rfl rfl rfl (av_callV (pc := 40) (as := [am_I b1, am_I b2, am_J b3, am_I 0]) (rest := []) C (ct_X3_settleBy l G b1 b2 b3 0 S S9 hc10) ym_X3_settleBy si_X5_90 im_X3_settleBy se_X3_settleBy sk_1 rfl ⟨Nat.le_of_ble_eq_true rfl, Nat.le_of_ble_eq_true rfl⟩ rfl rfl (Nat.le_of_ble_eq_true rfl) dX5_handle_40 ⟨Nat.le_refl _, Nat.le_refl _⟩ (fun hrv => av_eq (st2 := []) rfl rfl rfl rfl ?_))
    refine av_goto (pc := 43) (tgt := 54) C dX5_handle_43 (by decide) ?_
    obtain rfl := am_inj1 hs
    exact av_vret C hr hlocks dX5_handle_54
set_option maxHeartbeats 4000000 in
set_option maxRecDepth 100000 in
theorem ct_X5_handle (l : Launch) (G : am_G) (a1 : Int) (a2 : Int) (a3 : Int) (S : am_S) (SZ : am_S) (hs : sf_X5_handle a1 a2 a3 S = some SZ) : am_met l yX5_handle cX5_handle 6 none 3 73 G [am_R 7, am_I a1, am_I a2, am_J a3] S none SZ := by
  refine am_enter ym_X5_handle (Nat.le_of_ble_eq_true rfl) ?_
  intro p e s m args below meth c C hr hlocks
  refine av_eq (lv2 := [(0, am_R 7), (1, am_I a1), (2, am_I a2), (3, am_J a3)]) rfl rfl rfl rfl ?_
  unfold sf_X5_handle at hs
  refine av_iload_n (pc := 0) (j := 2) C dX5_handle_0 rfl rfl ?_
  refine av_iconst (pc := 1) C dX5_handle_1 rfl ?_
  refine av_icmp_ne (pc := 2) (tgt := 16) C dX5_handle_2 (by decide) (fun hc => ?_) (fun hc => ?_)
  · rw [if_neg hc] at hs
    refine av_aload_n (pc := 16) (j := 0) C dX5_handle_16 rfl rfl ?_
    refine av_getR (pc := 17) (k := 10) (r := 40) C fl_X5_35 sk_7 rfl dX5_handle_17 ?_
    refine av_iload_n (pc := 20) (j := 1) C dX5_handle_20 rfl rfl ?_
    obtain ⟨x2, S1, hc3, hs⟩ := am_b2_of hs
    refine av_eq (st2 := [am_I a1, am_R 40]) rfl rfl rfl rfl (av_callV (pc := 21) (as := [am_I a1]) (rest := []) C (ct_X4_at l G 40 73 100 sk_40 sk_73 rfl a1 S x2 S1 hc3) ym_X4_at si_X5_68 im_X4_at se_X4_at sk_40 rfl ⟨Nat.le_of_ble_eq_true rfl, Nat.le_of_ble_eq_true rfl⟩ rfl rfl (Nat.le_of_ble_eq_true rfl) dX5_handle_21 ⟨Nat.le_refl _, Nat.le_refl _⟩ (fun hrv => av_eq (st2 := [am_I x2]) rfl rfl rfl rfl ?_))
    exact wk_X5_handle_24 C hr hlocks a1 a2 a3 x2 S1 SZ hs
  · rw [if_pos (Decidable.not_not.mp hc)] at hs
    refine av_aload_n (pc := 5) (j := 0) C dX5_handle_5 rfl rfl ?_
    refine av_getR (pc := 6) (k := 9) (r := 39) C fl_X5_32 sk_7 rfl dX5_handle_6 ?_
    refine av_iload_n (pc := 9) (j := 1) C dX5_handle_9 rfl rfl ?_
    obtain ⟨x5, S4, hc6, hs⟩ := am_b2_of hs
    refine av_eq (st2 := [am_I a1, am_R 39]) rfl rfl rfl rfl (av_callV (pc := 10) (as := [am_I a1]) (rest := []) C (ct_X4_at l G 39 72 100 sk_39 sk_72 rfl a1 S x5 S4 hc6) ym_X4_at si_X5_68 im_X4_at se_X4_at sk_39 rfl ⟨Nat.le_of_ble_eq_true rfl, Nat.le_of_ble_eq_true rfl⟩ rfl rfl (Nat.le_of_ble_eq_true rfl) dX5_handle_10 ⟨Nat.le_refl _, Nat.le_refl _⟩ (fun hrv => av_eq (st2 := [am_I x5]) rfl rfl rfl rfl ?_))
    refine av_goto (pc := 13) (tgt := 24) C dX5_handle_13 (by decide) ?_
    exact wk_X5_handle_24 C hr hlocks a1 a2 a3 x5 S4 SZ hs
set_option maxHeartbeats 4000000 in
set_option maxRecDepth 100000 in
theorem ct_X5_begin (l : Launch) (G : am_G) (a1 : Int) (a2 : Int) (S : am_S) (x : Int) (SZ : am_S) (hs : sf_X5_begin a1 a2 S = some (x, SZ)) : am_met l yX5_begin cX5_begin 5 (some .int) 2 47 G [am_R 7, am_I a1, am_J a2] S (some (am_I x)) SZ := by
  refine am_enter ym_X5_begin (Nat.le_of_ble_eq_true rfl) ?_
  intro p e s m args below meth c C hr hlocks
  refine av_eq (lv2 := [(0, am_R 7), (1, am_I a1), (2, am_J a2)]) rfl rfl rfl rfl ?_
  unfold sf_X5_begin at hs
  refine av_aload_n (pc := 0) (j := 0) C dX5_begin_0 rfl rfl ?_
  refine av_getR (pc := 1) (k := 1) (r := 1) C fl_X5_52 sk_7 rfl dX5_begin_1 ?_
  obtain ⟨x2, S1, hc3, hs⟩ := am_b2_of hs
  refine av_eq (st2 := [am_R 1]) rfl rfl rfl rfl (av_callV (pc := 4) (as := []) (rest := []) C (ct_X3_make l G  S x2 S1 hc3) ym_X3_make si_X5_72 im_X3_make se_X3_make sk_1 rfl ⟨Nat.le_of_ble_eq_true rfl, Nat.le_of_ble_eq_true rfl⟩ rfl rfl (Nat.le_of_ble_eq_true rfl) dX5_begin_4 ⟨Nat.le_refl _, Nat.le_refl _⟩ (fun hrv => av_eq (st2 := [am_I x2]) rfl rfl rfl rfl ?_))
  refine av_istore (pc := 7) (i := 4) (lv2 := [(4, am_I x2), (0, am_R 7), (1, am_I a1), (2, am_J a2)]) C dX5_begin_7 (by decide) rfl ?_
  refine av_aload_n (pc := 9) (j := 1) C dX5_begin_9 rfl rfl ?_
  refine av_iload (pc := 10) (j := 0) C dX5_begin_10 rfl ?_
  refine av_iload_n (pc := 12) (j := 2) C dX5_begin_12 rfl rfl ?_
  refine av_lload_n (pc := 13) (j := 3) C dX5_begin_13 rfl rfl ?_
  obtain ⟨S4, hc5, hs⟩ := am_b1_of hs
  refine av_eq (st2 := [am_J a2, am_I a1, am_I x2, am_R 7]) rfl rfl rfl rfl (av_callV (pc := 14) (as := [am_I x2, am_I a1, am_J a2]) (rest := []) C (ct_X5_enter l G x2 a1 a2 S1 S4 hc5) ym_X5_enter si_X5_98 im_X5_enter se_X5_enter sk_7 rfl ⟨Nat.le_of_ble_eq_true rfl, Nat.le_of_ble_eq_true rfl⟩ rfl rfl (Nat.le_of_ble_eq_true rfl) dX5_begin_14 ⟨Nat.le_refl _, Nat.le_refl _⟩ (fun hrv => av_eq (st2 := []) rfl rfl rfl rfl ?_))
  refine av_iload (pc := 17) (j := 0) C dX5_begin_17 rfl ?_
  obtain ⟨rfl, rfl⟩ := am_inj2 hs
  exact av_iret C hr hlocks dX5_begin_19
set_option maxHeartbeats 4000000 in
set_option maxRecDepth 100000 in
theorem ct_X5_end (l : Launch) (G : am_G) (a1 : Int) (a2 : Int) (S : am_S) (SZ : am_S) (hs : sf_X5_end a1 a2 S = some SZ) : am_met l yX5_end cX5_end 3 none 3 73 G [am_R 7, am_I a1, am_I a2] S none SZ := by
  refine am_enter ym_X5_end (Nat.le_of_ble_eq_true rfl) ?_
  intro p e s m args below meth c C hr hlocks
  refine av_eq (lv2 := [(0, am_R 7), (1, am_I a1), (2, am_I a2)]) rfl rfl rfl rfl ?_
  unfold sf_X5_end at hs
  refine av_aload_n (pc := 0) (j := 0) C dX5_end_0 rfl rfl ?_
  refine av_getR (pc := 1) (k := 1) (r := 1) C fl_X5_52 sk_7 rfl dX5_end_1 ?_
  refine av_iload_n (pc := 4) (j := 1) C dX5_end_4 rfl rfl ?_
  refine av_bipush (pc := 5) C dX5_end_5 rfl ?_
  refine av_icmp_ne (pc := 7) (tgt := 17) C dX5_end_7 (by decide) (fun hc => ?_) (fun hc => ?_)
  · rw [if_neg hc] at hs
    refine av_iload_n (pc := 17) (j := 1) C dX5_end_17 rfl rfl ?_
    refine av_iload_n (pc := 18) (j := 2) C dX5_end_18 rfl rfl ?_
    refine av_aload_n (pc := 19) (j := 0) C dX5_end_19 rfl rfl ?_
    refine av_getR (pc := 20) (k := 6) (r := 36) C fl_X5_23 sk_7 rfl dX5_end_20 ?_
    refine av_iload_n (pc := 23) (j := 1) C dX5_end_23 rfl rfl ?_
    obtain ⟨x2, S1, hc3, hs⟩ := am_b2_of hs
    refine av_eq (st2 := [am_I a1, am_R 36, am_I a2, am_I a1, am_R 1]) rfl rfl rfl rfl (av_callV (pc := 24) (as := [am_I a1]) (rest := [am_I a2, am_I a1, am_R 1]) C (ct_X4_valueAt l G 36 69 101 sk_36 sk_69 rfl a1 S x2 S1 hc3) ym_X4_valueAt si_X5_139 im_X4_valueAt se_X4_valueAt sk_36 rfl ⟨Nat.le_of_ble_eq_true rfl, Nat.le_of_ble_eq_true rfl⟩ rfl rfl (Nat.le_of_ble_eq_true rfl) dX5_end_24 ⟨Nat.le_refl _, Nat.le_refl _⟩ (fun hrv => av_eq (st2 := [am_J x2, am_I a2, am_I a1, am_R 1]) rfl rfl rfl rfl ?_))
    refine av_iconst (pc := 27) C dX5_end_27 rfl ?_
    obtain ⟨S4, hc5, hs⟩ := am_b1_of hs
    refine av_eq (st2 := [am_I 0, am_J x2, am_I a2, am_I a1, am_R 1]) rfl rfl rfl rfl (av_callV (pc := 28) (as := [am_I a1, am_I a2, am_J x2, am_I 0]) (rest := []) C (ct_X3_settleBy l G a1 a2 x2 0 S1 S4 hc5) ym_X3_settleBy si_X5_90 im_X3_settleBy se_X3_settleBy sk_1 rfl ⟨Nat.le_of_ble_eq_true rfl, Nat.le_of_ble_eq_true rfl⟩ rfl rfl (Nat.le_of_ble_eq_true rfl) dX5_end_28 ⟨Nat.le_refl _, Nat.le_refl _⟩ (fun hrv => av_eq (st2 := []) rfl rfl rfl rfl ?_))
    refine av_aload_n (pc := 31) (j := 0) C dX5_end_31 rfl rfl ?_
    refine av_aload_n (pc := 32) (j := 0) C dX5_end_32 rfl rfl ?_
    refine av_getR (pc := 33) (k := 7) (r := 37) C fl_X5_26 sk_7 rfl dX5_end_33 ?_
    refine av_iload_n (pc := 36) (j := 1) C dX5_end_36 rfl rfl ?_
    obtain ⟨x7, S6, hc8, hs⟩ := am_b2_of hs
    refine av_eq (st2 := [am_I a1, am_R 37, am_R 7]) rfl rfl rfl rfl (av_callV (pc := 37) (as := [am_I a1]) (rest := [am_R 7]) C (ct_X4_at l G 37 70 101 sk_37 sk_70 rfl a1 S4 x7 S6 hc8) ym_X4_at si_X5_68 im_X4_at se_X4_at sk_37 rfl ⟨Nat.le_of_ble_eq_true rfl, Nat.le_of_ble_eq_true rfl⟩ rfl rfl (Nat.le_of_ble_eq_true rfl) dX5_end_37 ⟨Nat.le_refl _, Nat.le_refl _⟩ (fun hrv => av_eq (st2 := [am_I x7, am_R 7]) rfl rfl rfl rfl ?_))
    obtain ⟨S9, eS9, hs⟩ := am_let_of hs
    refine av_putI (pc := 40) (k := 11) (n := 459) C fp_X5_38 sk_7 rfl rfl dX5_end_40 ?_
    refine av_eq rfl rfl rfl eS9 ?_
    obtain rfl := am_inj1 hs
    exact av_vret C hr hlocks dX5_end_43
  · rw [if_pos (Decidable.not_not.mp hc)] at hs
    refine av_aload_n (pc := 10) (j := 0) C dX5_end_10 rfl rfl ?_
    refine av_getI (pc := 11) (k := 12) (n := 460) C fl_X5_42 sk_7 rfl rfl dX5_end_11 ?_
    refine av_goto (pc := 14) (tgt := 18) C dX5_end_14 (by decide) ?_
    refine av_iload_n (pc := 18) (j := 2) C dX5_end_18 rfl rfl ?_
    refine av_aload_n (pc := 19) (j := 0) C dX5_end_19 rfl rfl ?_
    refine av_getR (pc := 20) (k := 6) (r := 36) C fl_X5_23 sk_7 rfl dX5_end_20 ?_
    refine av_iload_n (pc := 23) (j := 1) C dX5_end_23 rfl rfl ?_
    obtain ⟨x11, S10, hc12, hs⟩ := am_b2_of hs
    refine av_eq (st2 := [am_I a1, am_R 36, am_I a2, am_I (S.1 460), am_R 1]) rfl rfl rfl rfl (av_callV (pc := 24) (as := [am_I a1]) (rest := [am_I a2, am_I (S.1 460), am_R 1]) C (ct_X4_valueAt l G 36 69 101 sk_36 sk_69 rfl a1 S x11 S10 hc12) ym_X4_valueAt si_X5_139 im_X4_valueAt se_X4_valueAt sk_36 rfl ⟨Nat.le_of_ble_eq_true rfl, Nat.le_of_ble_eq_true rfl⟩ rfl rfl (Nat.le_of_ble_eq_true rfl) dX5_end_24 ⟨Nat.le_refl _, Nat.le_refl _⟩ (fun hrv => av_eq (st2 := [am_J x11, am_I a2, am_I (S.1 460), am_R 1]) rfl rfl rfl rfl ?_))
    refine av_iconst (pc := 27) C dX5_end_27 rfl ?_
    obtain ⟨S13, hc14, hs⟩ := am_b1_of hs
    refine av_eq (st2 := [am_I 0, am_J x11, am_I a2, am_I (S.1 460), am_R 1]) rfl rfl rfl rfl (av_callV (pc := 28) (as := [am_I (S.1 460), am_I a2, am_J x11, am_I 0]) (rest := []) C (ct_X3_settleBy l G (S.1 460) a2 x11 0 S10 S13 hc14) ym_X3_settleBy si_X5_90 im_X3_settleBy se_X3_settleBy sk_1 rfl ⟨Nat.le_of_ble_eq_true rfl, Nat.le_of_ble_eq_true rfl⟩ rfl rfl (Nat.le_of_ble_eq_true rfl) dX5_end_28 ⟨Nat.le_refl _, Nat.le_refl _⟩ (fun hrv => av_eq (st2 := []) rfl rfl rfl rfl ?_))
    refine av_aload_n (pc := 31) (j := 0) C dX5_end_31 rfl rfl ?_
    refine av_aload_n (pc := 32) (j := 0) C dX5_end_32 rfl rfl ?_
    refine av_getR (pc := 33) (k := 7) (r := 37) C fl_X5_26 sk_7 rfl dX5_end_33 ?_
    refine av_iload_n (pc := 36) (j := 1) C dX5_end_36 rfl rfl ?_
    obtain ⟨x16, S15, hc17, hs⟩ := am_b2_of hs
    refine av_eq (st2 := [am_I a1, am_R 37, am_R 7]) rfl rfl rfl rfl (av_callV (pc := 37) (as := [am_I a1]) (rest := [am_R 7]) C (ct_X4_at l G 37 70 101 sk_37 sk_70 rfl a1 S13 x16 S15 hc17) ym_X4_at si_X5_68 im_X4_at se_X4_at sk_37 rfl ⟨Nat.le_of_ble_eq_true rfl, Nat.le_of_ble_eq_true rfl⟩ rfl rfl (Nat.le_of_ble_eq_true rfl) dX5_end_37 ⟨Nat.le_refl _, Nat.le_refl _⟩ (fun hrv => av_eq (st2 := [am_I x16, am_R 7]) rfl rfl rfl rfl ?_))
    obtain ⟨S18, eS18, hs⟩ := am_let_of hs
    refine av_putI (pc := 40) (k := 11) (n := 459) C fp_X5_38 sk_7 rfl rfl dX5_end_40 ?_
    refine av_eq rfl rfl rfl eS18 ?_
    obtain rfl := am_inj1 hs
    exact av_vret C hr hlocks dX5_end_43
set_option maxHeartbeats 4000000 in
set_option maxRecDepth 100000 in
theorem ct_X5_leaveTry (l : Launch) (G : am_G) (a1 : Int) (a2 : Int) (S : am_S) (x : Int) (SZ : am_S) (hs : sf_X5_leaveTry a1 a2 S = some (x, SZ)) : am_met l yX5_leaveTry cX5_leaveTry 4 (some .boolean) 3 69 G [am_R 7, am_I a1, am_I a2] S (some (am_I x)) SZ := by
  refine am_enter ym_X5_leaveTry (Nat.le_of_ble_eq_true rfl) ?_
  intro p e s m args below meth c C hr hlocks
  refine av_eq (lv2 := [(0, am_R 7), (1, am_I a1), (2, am_I a2)]) rfl rfl rfl rfl ?_
  unfold sf_X5_leaveTry at hs
  refine av_aload_n (pc := 0) (j := 0) C dX5_leaveTry_0 rfl rfl ?_
  refine av_getR (pc := 1) (k := 0) (r := 3) C fl_X5_48 sk_7 rfl dX5_leaveTry_1 ?_
  refine av_aload_n (pc := 4) (j := 0) C dX5_leaveTry_4 rfl rfl ?_
  refine av_getR (pc := 5) (k := 4) (r := 34) C fl_X5_14 sk_7 rfl dX5_leaveTry_5 ?_
  refine av_iload_n (pc := 8) (j := 1) C dX5_leaveTry_8 rfl rfl ?_
  obtain ⟨x2, S1, hc3, hs⟩ := am_b2_of hs
  refine av_eq (st2 := [am_I a1, am_R 34, am_R 3]) rfl rfl rfl rfl (av_callV (pc := 9) (as := [am_I a1]) (rest := [am_R 3]) C (ct_X4_at l G 34 67 101 sk_34 sk_67 rfl a1 S x2 S1 hc3) ym_X4_at si_X5_68 im_X4_at se_X4_at sk_34 rfl ⟨Nat.le_of_ble_eq_true rfl, Nat.le_of_ble_eq_true rfl⟩ rfl rfl (Nat.le_of_ble_eq_true rfl) dX5_leaveTry_9 ⟨Nat.le_refl _, Nat.le_refl _⟩ (fun hrv => av_eq (st2 := [am_I x2, am_R 3]) rfl rfl rfl rfl ?_))
  refine av_iload_n (pc := 12) (j := 2) C dX5_leaveTry_12 rfl rfl ?_
  obtain ⟨x5, S4, hc6, hs⟩ := am_b2_of hs
  refine av_eq (st2 := [am_I a2, am_I x2, am_R 3]) rfl rfl rfl rfl (av_callV (pc := 13) (as := [am_I x2, am_I a2]) (rest := []) C (ct_X0_behindTry l G x2 a2 S1 x5 S4 hc6) ym_X0_behindTry si_X5_186 im_X0_behindTry se_X0_behindTry sk_3 rfl ⟨Nat.le_of_ble_eq_true rfl, Nat.le_of_ble_eq_true rfl⟩ rfl rfl (Nat.le_of_ble_eq_true rfl) dX5_leaveTry_13 ⟨Nat.le_refl _, Nat.le_refl _⟩ (fun hrv => av_eq (st2 := [am_I x5]) rfl rfl rfl rfl ?_))
  refine av_istore_n (pc := 16) (i := 3) (lv2 := [(3, am_I x5), (0, am_R 7), (1, am_I a1), (2, am_I a2)]) C dX5_leaveTry_16 rfl (by decide) rfl ?_
  refine av_iload_n (pc := 17) (j := 0) C dX5_leaveTry_17 rfl rfl ?_
  refine av_iconst (pc := 18) C dX5_leaveTry_18 rfl ?_
  refine av_icmp_ne (pc := 19) (tgt := 24) C dX5_leaveTry_19 (by decide) (fun hc => ?_) (fun hc => ?_)
  · rw [if_neg hc] at hs
    refine av_aload_n (pc := 24) (j := 1) C dX5_leaveTry_24 rfl rfl ?_
    refine av_getR (pc := 25) (k := 5) (r := 35) C fl_X5_20 sk_7 rfl dX5_leaveTry_25 ?_
    refine av_iload_n (pc := 28) (j := 2) C dX5_leaveTry_28 rfl rfl ?_
    refine av_iload_n (pc := 29) (j := 0) C dX5_leaveTry_29 rfl rfl ?_
    refine av_i2l (pc := 30) C dX5_leaveTry_30 ?_
    obtain ⟨S7, hc8, hs⟩ := am_b1_of hs
    refine av_eq (st2 := [am_J x5, am_I a1, am_R 35]) rfl rfl rfl rfl (av_callV (pc := 31) (as := [am_I a1, am_J x5]) (rest := []) C (ct_X4_put l G 35 68 101 sk_35 sk_68 rfl a1 x5 S4 S7 hc8) ym_X4_put si_X5_78 im_X4_put se_X4_put sk_35 rfl ⟨Nat.le_of_ble_eq_true rfl, Nat.le_of_ble_eq_true rfl⟩ rfl rfl (Nat.le_of_ble_eq_true rfl) dX5_leaveTry_31 ⟨Nat.le_refl _, Nat.le_refl _⟩ (fun hrv => av_eq (st2 := []) rfl rfl rfl rfl ?_))
    refine av_iconst (pc := 34) C dX5_leaveTry_34 rfl ?_
    obtain ⟨rfl, rfl⟩ := am_inj2 hs
    exact av_zret C (by decide) hr hlocks dX5_leaveTry_35
  · rw [if_pos (Decidable.not_not.mp hc)] at hs
    refine av_iconst (pc := 22) C dX5_leaveTry_22 rfl ?_
    obtain ⟨rfl, rfl⟩ := am_inj2 hs
    exact av_zret C (by decide) hr hlocks dX5_leaveTry_23
set_option maxHeartbeats 4000000 in
set_option maxRecDepth 100000 in
theorem ct_X5_resume (l : Launch) (G : am_G) (a1 : Int) (a2 : Int) (a3 : Int) (S : am_S) (SZ : am_S) (hs : sf_X5_resume a1 a2 a3 S = some SZ) : am_met l yX5_resume cX5_resume 5 none 4 95 G [am_R 7, am_I a1, am_I a2, am_J a3] S none SZ := by
  refine am_enter ym_X5_resume (Nat.le_of_ble_eq_true rfl) ?_
  intro p e s m args below meth c C hr hlocks
  refine av_eq (lv2 := [(0, am_R 7), (1, am_I a1), (2, am_I a2), (3, am_J a3)]) rfl rfl rfl rfl ?_
  unfold sf_X5_resume at hs
  refine av_aload_n (pc := 0) (j := 0) C dX5_resume_0 rfl rfl ?_
  refine av_getR (pc := 1) (k := 8) (r := 38) C fl_X5_29 sk_7 rfl dX5_resume_1 ?_
  refine av_iload_n (pc := 4) (j := 1) C dX5_resume_4 rfl rfl ?_
  refine av_lconst (pc := 5) (x := 0) C dX5_resume_5 rfl rfl ?_
  obtain ⟨S1, hc2, hs⟩ := am_b1_of hs
  refine av_eq (st2 := [am_J 0, am_I a1, am_R 38]) rfl rfl rfl rfl (av_callV (pc := 6) (as := [am_I a1, am_J 0]) (rest := []) C (ct_X4_put l G 38 71 100 sk_38 sk_71 rfl a1 0 S S1 hc2) ym_X4_put si_X5_78 im_X4_put se_X4_put sk_38 rfl ⟨Nat.le_of_ble_eq_true rfl, Nat.le_of_ble_eq_true rfl⟩ rfl rfl (Nat.le_of_ble_eq_true rfl) dX5_resume_6 ⟨Nat.le_refl _, Nat.le_refl _⟩ (fun hrv => av_eq (st2 := []) rfl rfl rfl rfl ?_))
  refine av_aload_n (pc := 9) (j := 0) C dX5_resume_9 rfl rfl ?_
  refine av_getR (pc := 10) (k := 7) (r := 37) C fl_X5_26 sk_7 rfl dX5_resume_10 ?_
  refine av_iload_n (pc := 13) (j := 1) C dX5_resume_13 rfl rfl ?_
  refine av_ldc2 (pc := 14) C co_X5_102 (by unfold am_r64; omega) dX5_resume_14 ?_
  obtain ⟨S3, hc4, hs⟩ := am_b1_of hs
  refine av_eq (st2 := [am_J (-1), am_I a1, am_R 37]) rfl rfl rfl rfl (av_callV (pc := 17) (as := [am_I a1, am_J (-1)]) (rest := []) C (ct_X4_put l G 37 70 101 sk_37 sk_70 rfl a1 (-1) S1 S3 hc4) ym_X4_put si_X5_78 im_X4_put se_X4_put sk_37 rfl ⟨Nat.le_of_ble_eq_true rfl, Nat.le_of_ble_eq_true rfl⟩ rfl rfl (Nat.le_of_ble_eq_true rfl) dX5_resume_17 ⟨Nat.le_refl _, Nat.le_refl _⟩ (fun hrv => av_eq (st2 := []) rfl rfl rfl rfl ?_))
  refine av_aload_n (pc := 20) (j := 0) C dX5_resume_20 rfl rfl ?_
  refine av_iload_n (pc := 21) (j := 1) C dX5_resume_21 rfl rfl ?_
  obtain ⟨S5, eS5, hs⟩ := am_let_of hs
  refine av_putI (pc := 22) (k := 11) (n := 459) C fp_X5_38 sk_7 rfl rfl dX5_resume_22 ?_
  refine av_eq rfl rfl rfl eS5 ?_
  refine av_aload_n (pc := 25) (j := 0) C dX5_resume_25 rfl rfl ?_
  refine av_getR (pc := 26) (k := 6) (r := 36) C fl_X5_23 sk_7 rfl dX5_resume_26 ?_
  refine av_iload_n (pc := 29) (j := 1) C dX5_resume_29 rfl rfl ?_
  refine av_lload_n (pc := 30) (j := 3) C dX5_resume_30 rfl rfl ?_
  obtain ⟨S6, hc7, hs⟩ := am_b1_of hs
  refine av_eq (st2 := [am_J a3, am_I a1, am_R 36]) rfl rfl rfl rfl (av_callV (pc := 31) (as := [am_I a1, am_J a3]) (rest := []) C (ct_X4_put l G 36 69 101 sk_36 sk_69 rfl a1 a3 S5 S6 hc7) ym_X4_put si_X5_78 im_X4_put se_X4_put sk_36 rfl ⟨Nat.le_of_ble_eq_true rfl, Nat.le_of_ble_eq_true rfl⟩ rfl rfl (Nat.le_of_ble_eq_true rfl) dX5_resume_31 ⟨Nat.le_refl _, Nat.le_refl _⟩ (fun hrv => av_eq (st2 := []) rfl rfl rfl rfl ?_))
  refine av_iload_n (pc := 34) (j := 2) C dX5_resume_34 rfl rfl ?_
  refine av_iconst (pc := 35) C dX5_resume_35 rfl ?_
  refine av_icmp_ne (pc := 36) (tgt := 63) C dX5_resume_36 (by decide) (fun hc => ?_) (fun hc => ?_)
  · rw [if_neg hc] at hs
    obtain rfl := am_inj1 hs
    exact av_vret C hr hlocks dX5_resume_63
  · rw [if_pos (Decidable.not_not.mp hc)] at hs
    refine av_aload_n (pc := 39) (j := 0) C dX5_resume_39 rfl rfl ?_
    refine av_iload_n (pc := 40) (j := 1) C dX5_resume_40 rfl rfl ?_
    refine av_aload_n (pc := 41) (j := 0) C dX5_resume_41 rfl rfl ?_
    refine av_getR (pc := 42) (k := 5) (r := 35) C fl_X5_20 sk_7 rfl dX5_resume_42 ?_
    refine av_iload_n (pc := 45) (j := 1) C dX5_resume_45 rfl rfl ?_
    obtain ⟨x9, S8, hc10, hs⟩ := am_b2_of hs
    refine av_eq (st2 := [am_I a1, am_R 35, am_I a1, am_R 7]) rfl rfl rfl rfl (av_callV (pc := 46) (as := [am_I a1]) (rest := [am_I a1, am_R 7]) C (ct_X4_at l G 35 68 101 sk_35 sk_68 rfl a1 S6 x9 S8 hc10) ym_X4_at si_X5_68 im_X4_at se_X4_at sk_35 rfl ⟨Nat.le_of_ble_eq_true rfl, Nat.le_of_ble_eq_true rfl⟩ rfl rfl (Nat.le_of_ble_eq_true rfl) dX5_resume_46 ⟨Nat.le_refl _, Nat.le_refl _⟩ (fun hrv => av_eq (st2 := [am_I x9, am_I a1, am_R 7]) rfl rfl rfl rfl ?_))
    refine av_iconst (pc := 49) C dX5_resume_49 rfl ?_
    refine av_isub (pc := 50) C dX5_resume_50 ?_
    obtain ⟨x12, S11, hc13, hs⟩ := am_b2_of hs
    refine av_eq (st2 := [am_I (am_w32 (x9 - 1)), am_I a1, am_R 7]) rfl rfl rfl rfl (av_callV (pc := 51) (as := [am_I a1, am_I (am_w32 (x9 - 1))]) (rest := []) C (ct_X5_leaveTry l G a1 (am_w32 (x9 - 1)) S8 x12 S11 hc13) ym_X5_leaveTry si_X5_104 im_X5_leaveTry se_X5_leaveTry sk_7 rfl ⟨Nat.le_of_ble_eq_true rfl, Nat.le_of_ble_eq_true rfl⟩ rfl rfl (Nat.le_of_ble_eq_true rfl) dX5_resume_51 ⟨Nat.le_refl _, Nat.le_refl _⟩ (fun hrv => av_eq (st2 := [am_I x12]) rfl rfl rfl rfl ?_))
    refine av_if_ne (pc := 54) (tgt := 63) C dX5_resume_54 (by decide) (fun hc => ?_) (fun hc => ?_)
    · rw [if_neg hc] at hs
      obtain rfl := am_inj1 hs
      exact av_vret C hr hlocks dX5_resume_63
    · rw [if_pos (Decidable.not_not.mp hc)] at hs
      refine av_aload_n (pc := 57) (j := 0) C dX5_resume_57 rfl rfl ?_
      refine av_iload_n (pc := 58) (j := 1) C dX5_resume_58 rfl rfl ?_
      refine av_iconst (pc := 59) C dX5_resume_59 rfl ?_
      obtain ⟨S14, hc15, hs⟩ := am_b1_of hs
      refine av_eq (st2 := [am_I 2, am_I a1, am_R 7]) rfl rfl rfl rfl (av_callV (pc := 60) (as := [am_I a1, am_I 2]) (rest := []) C (ct_X5_end l G a1 2 S11 S14 hc15) ym_X5_end si_X5_108 im_X5_end se_X5_end sk_7 rfl ⟨Nat.le_of_ble_eq_true rfl, Nat.le_of_ble_eq_true rfl⟩ rfl rfl (Nat.le_of_ble_eq_true rfl) dX5_resume_60 ⟨Nat.le_refl _, Nat.le_refl _⟩ (fun hrv => av_eq (st2 := []) rfl rfl rfl rfl ?_))
      obtain rfl := am_inj1 hs
      exact av_vret C hr hlocks dX5_resume_63
set_option maxHeartbeats 4000000 in
set_option maxRecDepth 100000 in
theorem ct_X6_isFull (l : Launch) (G : am_G) (S : am_S) (x : Int) (SZ : am_S) (hs : sf_X6_isFull  S = some (x, SZ)) : am_met l yX6_isFull cX6_isFull 1 (some .boolean) 0 0 G [am_R 4] S (some (am_I x)) SZ := by
  refine am_enter ym_X6_isFull (Nat.le_of_ble_eq_true rfl) ?_
  intro p e s m args below meth c C hr hlocks
  refine av_eq (lv2 := [(0, am_R 4)]) rfl rfl rfl rfl ?_
  unfold sf_X6_isFull at hs
  refine av_aload_n (pc := 0) (j := 0) C dX6_isFull_0 rfl rfl ?_
  refine av_getI (pc := 1) (k := 3) (n := 259) C fl_X6_26 sk_4 rfl rfl dX6_isFull_1 ?_
  refine av_bipush (pc := 4) C dX6_isFull_4 rfl ?_
  refine av_icmp_lt (pc := 6) (tgt := 13) C dX6_isFull_6 (by decide) (fun hc => ?_) (fun hc => ?_)
  · rw [if_pos hc] at hs
    refine av_iconst (pc := 13) C dX6_isFull_13 rfl ?_
    obtain ⟨rfl, rfl⟩ := am_inj2 hs
    exact av_zret C (by decide) hr hlocks dX6_isFull_14
  · rw [if_neg hc] at hs
    refine av_iconst (pc := 9) C dX6_isFull_9 rfl ?_
    refine av_goto (pc := 10) (tgt := 14) C dX6_isFull_10 (by decide) ?_
    obtain ⟨rfl, rfl⟩ := am_inj2 hs
    exact av_zret C (by decide) hr hlocks dX6_isFull_14
set_option maxHeartbeats 4000000 in
set_option maxRecDepth 100000 in
theorem wk_X5_faultOf_33 {p : Program} {l : Launch} {e : Env} {s : State} {m : MethodId} {args : Array Value} {below : List Frame} {meth : Method} {c : Code} {G : am_G} (C : am_C p s m args c cX5_faultOf 7 RX5 G) (hr : meth.sig.returnType = (some .int)) (hlocks : meth.locks = false) (b1 : Int) (b2 : Int) (b3 : Int) (t0 : Int) (S : am_S) (x : Int) (SZ : am_S) (hs : sf_X5_faultOf_33 b1 b2 b3 t0 S = some (x, SZ)) : am_V p l e (am_rm 2 42) s m args below meth c (MQ below (am_Q G (some (am_I x)) SZ) args s 0 0 (am_A G)) G (am_A G) s.heap 7 0 0 33 [(0, am_R 7), (1, am_I b1), (2, am_I b2), (3, am_J b3)] [am_I t0] S := by
  unfold sf_X5_faultOf_33 at hs
  refine av_istore (pc := 33) (i := 5) (lv2 := [(5, am_I t0), (0, am_R 7), (1, am_I b1), (2, am_I b2), (3, am_J b3)]) C dX5_faultOf_33 (by decide) rfl ?_
  refine av_lload_n (pc := 35) (j := 4) C dX5_faultOf_35 rfl rfl ?_
  obtain ⟨x8, S7, hc9, hs⟩ := am_b2_of hs
  refine av_eq (st2 := [am_J b3]) rfl rfl rfl rfl (av_callS (pc := 36) (as := [am_J b3]) (rest := []) C (ct_X8_numberOf l G b3 S x8 S7 hc9) ym_X8_numberOf si_X5_133 st_X8_numberOf ⟨Nat.le_of_ble_eq_true rfl, Nat.le_of_ble_eq_true rfl⟩ rfl rfl (Nat.le_of_ble_eq_true rfl) dX5_faultOf_36 ⟨Nat.le_refl _, Nat.le_refl _⟩ (fun hrv => av_eq (st2 := [am_I x8]) rfl rfl rfl rfl ?_))
  refine av_istore (pc := 39) (i := 6) (lv2 := [(6, am_I x8), (5, am_I t0), (0, am_R 7), (1, am_I b1), (2, am_I b2), (3, am_J b3)]) C dX5_faultOf_39 (by decide) rfl ?_
  refine av_iload_n (pc := 41) (j := 4) C dX5_faultOf_41 rfl rfl ?_
  have hdef10 : (hs : (some (0, S7)) = some (x, SZ)) → am_V p l e (am_rm 2 42) s m args below meth c (MQ below (am_Q G (some (am_I x)) SZ) args s 0 0 (am_A G)) G (am_A G) s.heap 7 0 0 236 [(6, am_I x8), (5, am_I t0), (0, am_R 7), (1, am_I b1), (2, am_I b2), (3, am_J b3)] [] S7 := by
    intro hs
    refine av_iconst (pc := 236) C dX5_faultOf_236 rfl ?_
    obtain ⟨rfl, rfl⟩ := am_inj2 hs
    exact av_iret C hr hlocks dX5_faultOf_237
  by_cases hk0 : b2 = 2
  · rw [if_pos hk0] at hs
    refine av_swi (pc := 42) (k := 0) (tgt := 100) C dX5_faultOf_42 (by rw [hk0]; rfl) (by decide) rfl (by decide) ?_
    refine av_lload_n (pc := 100) (j := 5) C dX5_faultOf_100 rfl rfl ?_
    obtain ⟨x12, S11, hc13, hs⟩ := am_b2_of hs
    refine av_eq (st2 := [am_J b3]) rfl rfl rfl rfl (av_callS (pc := 101) (as := [am_J b3]) (rest := []) C (ct_X8_sortOf l G b3 S7 x12 S11 hc13) ym_X8_sortOf si_X5_174 st_X8_sortOf ⟨Nat.le_of_ble_eq_true rfl, Nat.le_of_ble_eq_true rfl⟩ rfl rfl (Nat.le_of_ble_eq_true rfl) dX5_faultOf_101 ⟨Nat.le_refl _, Nat.le_refl _⟩ (fun hrv => av_eq (st2 := [am_I x12]) rfl rfl rfl rfl ?_))
    refine av_iconst (pc := 104) C dX5_faultOf_104 rfl ?_
    refine av_icmp_ne (pc := 105) (tgt := 125) C dX5_faultOf_105 (by decide) (fun hc => ?_) (fun hc => ?_)
    · rw [if_neg hc] at hs
      refine av_iconst (pc := 125) C dX5_faultOf_125 rfl ?_
      obtain ⟨rfl, rfl⟩ := am_inj2 hs
      exact av_iret C hr hlocks dX5_faultOf_126
    · rw [if_pos (Decidable.not_not.mp hc)] at hs
      refine av_aload_n (pc := 108) (j := 2) C dX5_faultOf_108 rfl rfl ?_
      refine av_getR (pc := 109) (k := 1) (r := 1) C fl_X5_52 sk_7 rfl dX5_faultOf_109 ?_
      refine av_iload (pc := 112) (j := 0) C dX5_faultOf_112 rfl ?_
      obtain ⟨x15, S14, hc16, hs⟩ := am_b2_of hs
      refine av_eq (st2 := [am_I x8, am_R 1]) rfl rfl rfl rfl (av_callV (pc := 114) (as := [am_I x8]) (rest := []) C (ct_X3_has l G x8 S11 x15 S14 hc16) ym_X3_has si_X5_177 im_X3_has se_X3_has sk_1 rfl ⟨Nat.le_of_ble_eq_true rfl, Nat.le_of_ble_eq_true rfl⟩ rfl rfl (Nat.le_of_ble_eq_true rfl) dX5_faultOf_114 ⟨Nat.le_refl _, Nat.le_refl _⟩ (fun hrv => av_eq (st2 := [am_I x15]) rfl rfl rfl rfl ?_))
      refine av_if_ne (pc := 117) (tgt := 125) C dX5_faultOf_117 (by decide) (fun hc => ?_) (fun hc => ?_)
      · rw [if_neg hc] at hs
        refine av_iconst (pc := 125) C dX5_faultOf_125 rfl ?_
        obtain ⟨rfl, rfl⟩ := am_inj2 hs
        exact av_iret C hr hlocks dX5_faultOf_126
      · rw [if_pos (Decidable.not_not.mp hc)] at hs
        refine av_bipush (pc := 120) C dX5_faultOf_120 rfl ?_
        refine av_goto (pc := 122) (tgt := 126) C dX5_faultOf_122 (by decide) ?_
        obtain ⟨rfl, rfl⟩ := am_inj2 hs
        exact av_iret C hr hlocks dX5_faultOf_126
  · rw [if_neg hk0] at hs
    by_cases hk1 : b2 = 3
    · refine av_swi (pc := 42) (k := 1) (tgt := 236) C dX5_faultOf_42 (by rw [hk1]; rfl) (by decide) rfl (by decide) ?_
      rw [if_neg (show ¬ b2 = 5 by omega)] at hs
      rw [if_neg (show ¬ b2 = 8 by omega)] at hs
      rw [if_neg (show ¬ b2 = 9 by omega)] at hs
      rw [if_neg (show ¬ b2 = 10 by omega)] at hs
      rw [if_neg (show ¬ b2 = 11 by omega)] at hs
      rw [if_neg (show ¬ b2 = 12 by omega)] at hs
      exact hdef10 hs
    · skip
      by_cases hk2 : b2 = 4
      · refine av_swi (pc := 42) (k := 2) (tgt := 236) C dX5_faultOf_42 (by rw [hk2]; rfl) (by decide) rfl (by decide) ?_
        rw [if_neg (show ¬ b2 = 5 by omega)] at hs
        rw [if_neg (show ¬ b2 = 8 by omega)] at hs
        rw [if_neg (show ¬ b2 = 9 by omega)] at hs
        rw [if_neg (show ¬ b2 = 10 by omega)] at hs
        rw [if_neg (show ¬ b2 = 11 by omega)] at hs
        rw [if_neg (show ¬ b2 = 12 by omega)] at hs
        exact hdef10 hs
      · skip
        by_cases hk3 : b2 = 5
        · rw [if_pos hk3] at hs
          refine av_swi (pc := 42) (k := 3) (tgt := 146) C dX5_faultOf_42 (by rw [hk3]; rfl) (by decide) rfl (by decide) ?_
          refine av_iload_n (pc := 146) (j := 3) C dX5_faultOf_146 rfl rfl ?_
          refine av_bipush (pc := 147) C dX5_faultOf_147 rfl ?_
          refine av_icmp_ne (pc := 149) (tgt := 155) C dX5_faultOf_149 (by decide) (fun hc => ?_) (fun hc => ?_)
          · rw [if_neg hc] at hs
            refine av_iload (pc := 155) (j := 1) C dX5_faultOf_155 rfl ?_
            refine av_if_ne (pc := 157) (tgt := 175) C dX5_faultOf_157 (by decide) (fun hc => ?_) (fun hc => ?_)
            · rw [if_neg hc] at hs
              refine av_iconst (pc := 175) C dX5_faultOf_175 rfl ?_
              obtain ⟨rfl, rfl⟩ := am_inj2 hs
              exact av_iret C hr hlocks dX5_faultOf_176
            · rw [if_pos (Decidable.not_not.mp hc)] at hs
              refine av_aload_n (pc := 160) (j := 2) C dX5_faultOf_160 rfl rfl ?_
              refine av_getR (pc := 161) (k := 1) (r := 1) C fl_X5_52 sk_7 rfl dX5_faultOf_161 ?_
              obtain ⟨x18, S17, hc19, hs⟩ := am_b2_of hs
              refine av_eq (st2 := [am_R 1]) rfl rfl rfl rfl (av_callV (pc := 164) (as := []) (rest := []) C (ct_X3_isFull l G  S7 x18 S17 hc19) ym_X3_isFull si_X5_181 im_X3_isFull se_X3_isFull sk_1 rfl ⟨Nat.le_of_ble_eq_true rfl, Nat.le_of_ble_eq_true rfl⟩ rfl rfl (Nat.le_of_ble_eq_true rfl) dX5_faultOf_164 ⟨Nat.le_refl _, Nat.le_refl _⟩ (fun hrv => av_eq (st2 := [am_I x18]) rfl rfl rfl rfl ?_))
              refine av_if_eq (pc := 167) (tgt := 175) C dX5_faultOf_167 (by decide) (fun hc => ?_) (fun hc => ?_)
              · rw [if_pos hc] at hs
                refine av_iconst (pc := 175) C dX5_faultOf_175 rfl ?_
                obtain ⟨rfl, rfl⟩ := am_inj2 hs
                exact av_iret C hr hlocks dX5_faultOf_176
              · rw [if_neg hc] at hs
                refine av_bipush (pc := 170) C dX5_faultOf_170 rfl ?_
                refine av_goto (pc := 172) (tgt := 176) C dX5_faultOf_172 (by decide) ?_
                obtain ⟨rfl, rfl⟩ := am_inj2 hs
                exact av_iret C hr hlocks dX5_faultOf_176
          · rw [if_pos (Decidable.not_not.mp hc)] at hs
            refine av_bipush (pc := 152) C dX5_faultOf_152 rfl ?_
            obtain ⟨rfl, rfl⟩ := am_inj2 hs
            exact av_iret C hr hlocks dX5_faultOf_154
        · rw [if_neg hk3] at hs
          by_cases hk4 : b2 = 6
          · refine av_swi (pc := 42) (k := 4) (tgt := 236) C dX5_faultOf_42 (by rw [hk4]; rfl) (by decide) rfl (by decide) ?_
            rw [if_neg (show ¬ b2 = 8 by omega)] at hs
            rw [if_neg (show ¬ b2 = 9 by omega)] at hs
            rw [if_neg (show ¬ b2 = 10 by omega)] at hs
            rw [if_neg (show ¬ b2 = 11 by omega)] at hs
            rw [if_neg (show ¬ b2 = 12 by omega)] at hs
            exact hdef10 hs
          · skip
            by_cases hk5 : b2 = 7
            · refine av_swi (pc := 42) (k := 5) (tgt := 236) C dX5_faultOf_42 (by rw [hk5]; rfl) (by decide) rfl (by decide) ?_
              rw [if_neg (show ¬ b2 = 8 by omega)] at hs
              rw [if_neg (show ¬ b2 = 9 by omega)] at hs
              rw [if_neg (show ¬ b2 = 10 by omega)] at hs
              rw [if_neg (show ¬ b2 = 11 by omega)] at hs
              rw [if_neg (show ¬ b2 = 12 by omega)] at hs
              exact hdef10 hs
            · skip
              by_cases hk6 : b2 = 8
              · rw [if_pos hk6] at hs
                refine av_swi (pc := 42) (k := 6) (tgt := 202) C dX5_faultOf_42 (by rw [hk6]; rfl) (by decide) rfl (by decide) ?_
                refine av_aload_n (pc := 202) (j := 2) C dX5_faultOf_202 rfl rfl ?_
                refine av_getR (pc := 203) (k := 1) (r := 1) C fl_X5_52 sk_7 rfl dX5_faultOf_203 ?_
                obtain ⟨x21, S20, hc22, hs⟩ := am_b2_of hs
                refine av_eq (st2 := [am_R 1]) rfl rfl rfl rfl (av_callV (pc := 206) (as := []) (rest := []) C (ct_X3_isFull l G  S7 x21 S20 hc22) ym_X3_isFull si_X5_181 im_X3_isFull se_X3_isFull sk_1 rfl ⟨Nat.le_of_ble_eq_true rfl, Nat.le_of_ble_eq_true rfl⟩ rfl rfl (Nat.le_of_ble_eq_true rfl) dX5_faultOf_206 ⟨Nat.le_refl _, Nat.le_refl _⟩ (fun hrv => av_eq (st2 := [am_I x21]) rfl rfl rfl rfl ?_))
                refine av_if_eq (pc := 209) (tgt := 217) C dX5_faultOf_209 (by decide) (fun hc => ?_) (fun hc => ?_)
                · rw [if_pos hc] at hs
                  refine av_iconst (pc := 217) C dX5_faultOf_217 rfl ?_
                  obtain ⟨rfl, rfl⟩ := am_inj2 hs
                  exact av_iret C hr hlocks dX5_faultOf_218
                · rw [if_neg hc] at hs
                  refine av_bipush (pc := 212) C dX5_faultOf_212 rfl ?_
                  refine av_goto (pc := 214) (tgt := 218) C dX5_faultOf_214 (by decide) ?_
                  obtain ⟨rfl, rfl⟩ := am_inj2 hs
                  exact av_iret C hr hlocks dX5_faultOf_218
              · rw [if_neg hk6] at hs
                by_cases hk7 : b2 = 9
                · rw [if_pos hk7] at hs
                  refine av_swi (pc := 42) (k := 7) (tgt := 127) C dX5_faultOf_42 (by rw [hk7]; rfl) (by decide) rfl (by decide) ?_
                  refine av_aload_n (pc := 127) (j := 2) C dX5_faultOf_127 rfl rfl ?_
                  refine av_getR (pc := 128) (k := 1) (r := 1) C fl_X5_52 sk_7 rfl dX5_faultOf_128 ?_
                  refine av_iload (pc := 131) (j := 0) C dX5_faultOf_131 rfl ?_
                  obtain ⟨x24, S23, hc25, hs⟩ := am_b2_of hs
                  refine av_eq (st2 := [am_I x8, am_R 1]) rfl rfl rfl rfl (av_callV (pc := 133) (as := [am_I x8]) (rest := []) C (ct_X3_has l G x8 S7 x24 S23 hc25) ym_X3_has si_X5_177 im_X3_has se_X3_has sk_1 rfl ⟨Nat.le_of_ble_eq_true rfl, Nat.le_of_ble_eq_true rfl⟩ rfl rfl (Nat.le_of_ble_eq_true rfl) dX5_faultOf_133 ⟨Nat.le_refl _, Nat.le_refl _⟩ (fun hrv => av_eq (st2 := [am_I x24]) rfl rfl rfl rfl ?_))
                  refine av_if_eq (pc := 136) (tgt := 143) C dX5_faultOf_136 (by decide) (fun hc => ?_) (fun hc => ?_)
                  · rw [if_pos hc] at hs
                    refine av_bipush (pc := 143) C dX5_faultOf_143 rfl ?_
                    obtain ⟨rfl, rfl⟩ := am_inj2 hs
                    exact av_iret C hr hlocks dX5_faultOf_145
                  · rw [if_neg hc] at hs
                    refine av_iconst (pc := 139) C dX5_faultOf_139 rfl ?_
                    refine av_goto (pc := 140) (tgt := 145) C dX5_faultOf_140 (by decide) ?_
                    obtain ⟨rfl, rfl⟩ := am_inj2 hs
                    exact av_iret C hr hlocks dX5_faultOf_145
                · rw [if_neg hk7] at hs
                  by_cases hk8 : b2 = 10
                  · rw [if_pos hk8] at hs
                    refine av_swi (pc := 42) (k := 8) (tgt := 127) C dX5_faultOf_42 (by rw [hk8]; rfl) (by decide) rfl (by decide) ?_
                    refine av_aload_n (pc := 127) (j := 2) C dX5_faultOf_127 rfl rfl ?_
                    refine av_getR (pc := 128) (k := 1) (r := 1) C fl_X5_52 sk_7 rfl dX5_faultOf_128 ?_
                    refine av_iload (pc := 131) (j := 0) C dX5_faultOf_131 rfl ?_
                    obtain ⟨x27, S26, hc28, hs⟩ := am_b2_of hs
                    refine av_eq (st2 := [am_I x8, am_R 1]) rfl rfl rfl rfl (av_callV (pc := 133) (as := [am_I x8]) (rest := []) C (ct_X3_has l G x8 S7 x27 S26 hc28) ym_X3_has si_X5_177 im_X3_has se_X3_has sk_1 rfl ⟨Nat.le_of_ble_eq_true rfl, Nat.le_of_ble_eq_true rfl⟩ rfl rfl (Nat.le_of_ble_eq_true rfl) dX5_faultOf_133 ⟨Nat.le_refl _, Nat.le_refl _⟩ (fun hrv => av_eq (st2 := [am_I x27]) rfl rfl rfl rfl ?_))
                    refine av_if_eq (pc := 136) (tgt := 143) C dX5_faultOf_136 (by decide) (fun hc => ?_) (fun hc => ?_)
                    · rw [if_pos hc] at hs
                      refine av_bipush (pc := 143) C dX5_faultOf_143 rfl ?_
                      obtain ⟨rfl, rfl⟩ := am_inj2 hs
                      exact av_iret C hr hlocks dX5_faultOf_145
                    · rw [if_neg hc] at hs
                      refine av_iconst (pc := 139) C dX5_faultOf_139 rfl ?_
                      refine av_goto (pc := 140) (tgt := 145) C dX5_faultOf_140 (by decide) ?_
                      obtain ⟨rfl, rfl⟩ := am_inj2 hs
                      exact av_iret C hr hlocks dX5_faultOf_145
                  · rw [if_neg hk8] at hs
                    by_cases hk9 : b2 = 11
                    · rw [if_pos hk9] at hs
                      refine av_swi (pc := 42) (k := 9) (tgt := 177) C dX5_faultOf_42 (by rw [hk9]; rfl) (by decide) rfl (by decide) ?_
                      refine av_iload (pc := 177) (j := 1) C dX5_faultOf_177 rfl ?_
                      refine av_if_ne (pc := 179) (tgt := 185) C dX5_faultOf_179 (by decide) (fun hc => ?_) (fun hc => ?_)
                      · rw [if_neg hc] at hs
                        refine av_aload_n (pc := 185) (j := 2) C dX5_faultOf_185 rfl rfl ?_
                        refine av_getR (pc := 186) (k := 1) (r := 1) C fl_X5_52 sk_7 rfl dX5_faultOf_186 ?_
                        obtain ⟨x30, S29, hc31, hs⟩ := am_b2_of hs
                        refine av_eq (st2 := [am_R 1]) rfl rfl rfl rfl (av_callV (pc := 189) (as := []) (rest := []) C (ct_X3_isFull l G  S7 x30 S29 hc31) ym_X3_isFull si_X5_181 im_X3_isFull se_X3_isFull sk_1 rfl ⟨Nat.le_of_ble_eq_true rfl, Nat.le_of_ble_eq_true rfl⟩ rfl rfl (Nat.le_of_ble_eq_true rfl) dX5_faultOf_189 ⟨Nat.le_refl _, Nat.le_refl _⟩ (fun hrv => av_eq (st2 := [am_I x30]) rfl rfl rfl rfl ?_))
                        refine av_if_eq (pc := 192) (tgt := 200) C dX5_faultOf_192 (by decide) (fun hc => ?_) (fun hc => ?_)
                        · rw [if_pos hc] at hs
                          refine av_iconst (pc := 200) C dX5_faultOf_200 rfl ?_
                          obtain ⟨rfl, rfl⟩ := am_inj2 hs
                          exact av_iret C hr hlocks dX5_faultOf_201
                        · rw [if_neg hc] at hs
                          refine av_bipush (pc := 195) C dX5_faultOf_195 rfl ?_
                          refine av_goto (pc := 197) (tgt := 201) C dX5_faultOf_197 (by decide) ?_
                          obtain ⟨rfl, rfl⟩ := am_inj2 hs
                          exact av_iret C hr hlocks dX5_faultOf_201
                      · rw [if_pos (Decidable.not_not.mp hc)] at hs
                        refine av_bipush (pc := 182) C dX5_faultOf_182 rfl ?_
                        obtain ⟨rfl, rfl⟩ := am_inj2 hs
                        exact av_iret C hr hlocks dX5_faultOf_184
                    · rw [if_neg hk9] at hs
                      by_cases hk10 : b2 = 12
                      · rw [if_pos hk10] at hs
                        refine av_swi (pc := 42) (k := 10) (tgt := 219) C dX5_faultOf_42 (by rw [hk10]; rfl) (by decide) rfl (by decide) ?_
                        refine av_aload_n (pc := 219) (j := 2) C dX5_faultOf_219 rfl rfl ?_
                        refine av_getR (pc := 220) (k := 2) (r := 4) C fl_X5_56 sk_7 rfl dX5_faultOf_220 ?_
                        obtain ⟨x33, S32, hc34, hs⟩ := am_b2_of hs
                        refine av_eq (st2 := [am_R 4]) rfl rfl rfl rfl (av_callV (pc := 223) (as := []) (rest := []) C (ct_X6_isFull l G  S7 x33 S32 hc34) ym_X6_isFull si_X5_185 im_X6_isFull se_X6_isFull sk_4 rfl ⟨Nat.le_of_ble_eq_true rfl, Nat.le_of_ble_eq_true rfl⟩ rfl rfl (Nat.le_of_ble_eq_true rfl) dX5_faultOf_223 ⟨Nat.le_refl _, Nat.le_refl _⟩ (fun hrv => av_eq (st2 := [am_I x33]) rfl rfl rfl rfl ?_))
                        refine av_if_eq (pc := 226) (tgt := 234) C dX5_faultOf_226 (by decide) (fun hc => ?_) (fun hc => ?_)
                        · rw [if_pos hc] at hs
                          refine av_iconst (pc := 234) C dX5_faultOf_234 rfl ?_
                          obtain ⟨rfl, rfl⟩ := am_inj2 hs
                          exact av_iret C hr hlocks dX5_faultOf_235
                        · rw [if_neg hc] at hs
                          refine av_bipush (pc := 229) C dX5_faultOf_229 rfl ?_
                          refine av_goto (pc := 231) (tgt := 235) C dX5_faultOf_231 (by decide) ?_
                          obtain ⟨rfl, rfl⟩ := am_inj2 hs
                          exact av_iret C hr hlocks dX5_faultOf_235
                      · rw [if_neg hk10] at hs
                        refine av_swo (pc := 42) (tgt := 236) C dX5_faultOf_42 (by omega) (by decide) ?_
                        exact hdef10 hs
set_option maxHeartbeats 4000000 in
set_option maxRecDepth 100000 in
theorem ct_X5_faultOf (l : Launch) (G : am_G) (a1 : Int) (a2 : Int) (a3 : Int) (S : am_S) (x : Int) (SZ : am_S) (hs : sf_X5_faultOf a1 a2 a3 S = some (x, SZ)) : am_met l yX5_faultOf cX5_faultOf 7 (some .int) 2 42 G [am_R 7, am_I a1, am_I a2, am_J a3] S (some (am_I x)) SZ := by
  refine am_enter ym_X5_faultOf (Nat.le_of_ble_eq_true rfl) ?_
  intro p e s m args below meth c C hr hlocks
  refine av_eq (lv2 := [(0, am_R 7), (1, am_I a1), (2, am_I a2), (3, am_J a3)]) rfl rfl rfl rfl ?_
  unfold sf_X5_faultOf at hs
  refine av_aload_n (pc := 0) (j := 0) C dX5_faultOf_0 rfl rfl ?_
  refine av_getI (pc := 1) (k := 13) (n := 461) C fl_X5_45 sk_7 rfl rfl dX5_faultOf_1 ?_
  refine av_sipush (pc := 4) C dX5_faultOf_4 rfl ?_
  refine av_icmp_le (pc := 7) (tgt := 13) C dX5_faultOf_7 (by decide) (fun hc => ?_) (fun hc => ?_)
  · rw [if_pos hc] at hs
    refine av_aload_n (pc := 13) (j := 0) C dX5_faultOf_13 rfl rfl ?_
    refine av_getR (pc := 14) (k := 6) (r := 36) C fl_X5_23 sk_7 rfl dX5_faultOf_14 ?_
    refine av_iload_n (pc := 17) (j := 1) C dX5_faultOf_17 rfl rfl ?_
    obtain ⟨x2, S1, hc3, hs⟩ := am_b2_of hs
    refine av_eq (st2 := [am_I a1, am_R 36]) rfl rfl rfl rfl (av_callV (pc := 18) (as := [am_I a1]) (rest := []) C (ct_X4_valueAt l G 36 69 101 sk_36 sk_69 rfl a1 S x2 S1 hc3) ym_X4_valueAt si_X5_139 im_X4_valueAt se_X4_valueAt sk_36 rfl ⟨Nat.le_of_ble_eq_true rfl, Nat.le_of_ble_eq_true rfl⟩ rfl rfl (Nat.le_of_ble_eq_true rfl) dX5_faultOf_18 ⟨Nat.le_refl _, Nat.le_refl _⟩ (fun hrv => av_eq (st2 := [am_J x2]) rfl rfl rfl rfl ?_))
    obtain ⟨x5, S4, hc6, hs⟩ := am_b2_of hs
    refine av_eq (st2 := [am_J x2]) rfl rfl rfl rfl (av_callS (pc := 21) (as := [am_J x2]) (rest := []) C (ct_X8_sortOf l G x2 S1 x5 S4 hc6) ym_X8_sortOf si_X5_174 st_X8_sortOf ⟨Nat.le_of_ble_eq_true rfl, Nat.le_of_ble_eq_true rfl⟩ rfl rfl (Nat.le_of_ble_eq_true rfl) dX5_faultOf_21 ⟨Nat.le_refl _, Nat.le_refl _⟩ (fun hrv => av_eq (st2 := [am_I x5]) rfl rfl rfl rfl ?_))
    refine av_iconst (pc := 24) C dX5_faultOf_24 rfl ?_
    refine av_icmp_ne (pc := 25) (tgt := 32) C dX5_faultOf_25 (by decide) (fun hc => ?_) (fun hc => ?_)
    · rw [if_neg hc] at hs
      refine av_iconst (pc := 32) C dX5_faultOf_32 rfl ?_
      exact wk_X5_faultOf_33 C hr hlocks a1 a2 a3 0 S4 x SZ hs
    · rw [if_pos (Decidable.not_not.mp hc)] at hs
      refine av_iconst (pc := 28) C dX5_faultOf_28 rfl ?_
      refine av_goto (pc := 29) (tgt := 33) C dX5_faultOf_29 (by decide) ?_
      exact wk_X5_faultOf_33 C hr hlocks a1 a2 a3 1 S4 x SZ hs
  · rw [if_neg hc] at hs
    refine av_bipush (pc := 10) C dX5_faultOf_10 rfl ?_
    obtain ⟨rfl, rfl⟩ := am_inj2 hs
    exact av_iret C hr hlocks dX5_faultOf_12
set_option maxHeartbeats 4000000 in
set_option maxRecDepth 100000 in
theorem ct_X5_jumpIfAbove (l : Launch) (G : am_G) (a1 : Int) (a2 : Int) (S : am_S) (SZ : am_S) (hs : sf_X5_jumpIfAbove a1 a2 S = some SZ) : am_met l yX5_jumpIfAbove cX5_jumpIfAbove 4 none 1 23 G [am_R 7, am_I a1, am_I a2] S none SZ := by
  refine am_enter ym_X5_jumpIfAbove (Nat.le_of_ble_eq_true rfl) ?_
  intro p e s m args below meth c C hr hlocks
  refine av_eq (lv2 := [(0, am_R 7), (1, am_I a1), (2, am_I a2)]) rfl rfl rfl rfl ?_
  unfold sf_X5_jumpIfAbove at hs
  refine av_aload_n (pc := 0) (j := 0) C dX5_jumpIfAbove_0 rfl rfl ?_
  refine av_getR (pc := 1) (k := 6) (r := 36) C fl_X5_23 sk_7 rfl dX5_jumpIfAbove_1 ?_
  refine av_iload_n (pc := 4) (j := 1) C dX5_jumpIfAbove_4 rfl rfl ?_
  obtain ⟨x2, S1, hc3, hs⟩ := am_b2_of hs
  refine av_eq (st2 := [am_I a1, am_R 36]) rfl rfl rfl rfl (av_callV (pc := 5) (as := [am_I a1]) (rest := []) C (ct_X4_valueAt l G 36 69 101 sk_36 sk_69 rfl a1 S x2 S1 hc3) ym_X4_valueAt si_X5_139 im_X4_valueAt se_X4_valueAt sk_36 rfl ⟨Nat.le_of_ble_eq_true rfl, Nat.le_of_ble_eq_true rfl⟩ rfl rfl (Nat.le_of_ble_eq_true rfl) dX5_jumpIfAbove_5 ⟨Nat.le_refl _, Nat.le_refl _⟩ (fun hrv => av_eq (st2 := [am_J x2]) rfl rfl rfl rfl ?_))
  obtain ⟨x5, S4, hc6, hs⟩ := am_b2_of hs
  refine av_eq (st2 := [am_J x2]) rfl rfl rfl rfl (av_callS (pc := 8) (as := [am_J x2]) (rest := []) C (ct_X8_numberOf l G x2 S1 x5 S4 hc6) ym_X8_numberOf si_X5_133 st_X8_numberOf ⟨Nat.le_of_ble_eq_true rfl, Nat.le_of_ble_eq_true rfl⟩ rfl rfl (Nat.le_of_ble_eq_true rfl) dX5_jumpIfAbove_8 ⟨Nat.le_refl _, Nat.le_refl _⟩ (fun hrv => av_eq (st2 := [am_I x5]) rfl rfl rfl rfl ?_))
  refine av_istore_n (pc := 11) (i := 3) (lv2 := [(3, am_I x5), (0, am_R 7), (1, am_I a1), (2, am_I a2)]) C dX5_jumpIfAbove_11 rfl (by decide) rfl ?_
  refine av_aload_n (pc := 12) (j := 1) C dX5_jumpIfAbove_12 rfl rfl ?_
  refine av_getR (pc := 13) (k := 6) (r := 36) C fl_X5_23 sk_7 rfl dX5_jumpIfAbove_13 ?_
  refine av_iload_n (pc := 16) (j := 2) C dX5_jumpIfAbove_16 rfl rfl ?_
  obtain ⟨x8, S7, hc9, hs⟩ := am_b2_of hs
  refine av_eq (st2 := [am_I a1, am_R 36]) rfl rfl rfl rfl (av_callV (pc := 17) (as := [am_I a1]) (rest := []) C (ct_X4_valueAt l G 36 69 101 sk_36 sk_69 rfl a1 S4 x8 S7 hc9) ym_X4_valueAt si_X5_139 im_X4_valueAt se_X4_valueAt sk_36 rfl ⟨Nat.le_of_ble_eq_true rfl, Nat.le_of_ble_eq_true rfl⟩ rfl rfl (Nat.le_of_ble_eq_true rfl) dX5_jumpIfAbove_17 ⟨Nat.le_refl _, Nat.le_refl _⟩ (fun hrv => av_eq (st2 := [am_J x8]) rfl rfl rfl rfl ?_))
  obtain ⟨x11, S10, hc12, hs⟩ := am_b2_of hs
  refine av_eq (st2 := [am_J x8]) rfl rfl rfl rfl (av_callS (pc := 20) (as := [am_J x8]) (rest := []) C (ct_X8_sortOf l G x8 S7 x11 S10 hc12) ym_X8_sortOf si_X5_174 st_X8_sortOf ⟨Nat.le_of_ble_eq_true rfl, Nat.le_of_ble_eq_true rfl⟩ rfl rfl (Nat.le_of_ble_eq_true rfl) dX5_jumpIfAbove_20 ⟨Nat.le_refl _, Nat.le_refl _⟩ (fun hrv => av_eq (st2 := [am_I x11]) rfl rfl rfl rfl ?_))
  refine av_if_ne (pc := 23) (tgt := 55) C dX5_jumpIfAbove_23 (by decide) (fun hc => ?_) (fun hc => ?_)
  · rw [if_neg hc] at hs
    obtain rfl := am_inj1 hs
    exact av_vret C hr hlocks dX5_jumpIfAbove_55
  · rw [if_pos (Decidable.not_not.mp hc)] at hs
    refine av_iload_n (pc := 26) (j := 0) C dX5_jumpIfAbove_26 rfl rfl ?_
    refine av_if_le (pc := 27) (tgt := 55) C dX5_jumpIfAbove_27 (by decide) (fun hc => ?_) (fun hc => ?_)
    · rw [if_pos hc] at hs
      obtain rfl := am_inj1 hs
      exact av_vret C hr hlocks dX5_jumpIfAbove_55
    · rw [if_neg hc] at hs
      refine av_aload_n (pc := 30) (j := 1) C dX5_jumpIfAbove_30 rfl rfl ?_
      refine av_getR (pc := 31) (k := 6) (r := 36) C fl_X5_23 sk_7 rfl dX5_jumpIfAbove_31 ?_
      refine av_iload_n (pc := 34) (j := 2) C dX5_jumpIfAbove_34 rfl rfl ?_
      refine av_iconst (pc := 35) C dX5_jumpIfAbove_35 rfl ?_
      refine av_iload_n (pc := 36) (j := 0) C dX5_jumpIfAbove_36 rfl rfl ?_
      refine av_iconst (pc := 37) C dX5_jumpIfAbove_37 rfl ?_
      refine av_isub (pc := 38) C dX5_jumpIfAbove_38 ?_
      obtain ⟨x14, S13, hc15, hs⟩ := am_b2_of hs
      refine av_eq (st2 := [am_I (am_w32 (x5 - 1)), am_I 0, am_I a1, am_R 36]) rfl rfl rfl rfl (av_callS (pc := 39) (as := [am_I 0, am_I (am_w32 (x5 - 1))]) (rest := [am_I a1, am_R 36]) C (ct_X8_of l G 0 (am_w32 (x5 - 1)) S10 x14 S13 hc15) ym_X8_of si_X5_147 st_X8_of ⟨Nat.le_of_ble_eq_true rfl, Nat.le_of_ble_eq_true rfl⟩ rfl rfl (Nat.le_of_ble_eq_true rfl) dX5_jumpIfAbove_39 ⟨Nat.le_refl _, Nat.le_refl _⟩ (fun hrv => av_eq (st2 := [am_J x14, am_I a1, am_R 36]) rfl rfl rfl rfl ?_))
      obtain ⟨S16, hc17, hs⟩ := am_b1_of hs
      refine av_eq (st2 := [am_J x14, am_I a1, am_R 36]) rfl rfl rfl rfl (av_callV (pc := 42) (as := [am_I a1, am_J x14]) (rest := []) C (ct_X4_put l G 36 69 101 sk_36 sk_69 rfl a1 x14 S13 S16 hc17) ym_X4_put si_X5_78 im_X4_put se_X4_put sk_36 rfl ⟨Nat.le_of_ble_eq_true rfl, Nat.le_of_ble_eq_true rfl⟩ rfl rfl (Nat.le_of_ble_eq_true rfl) dX5_jumpIfAbove_42 ⟨Nat.le_refl _, Nat.le_refl _⟩ (fun hrv => av_eq (st2 := []) rfl rfl rfl rfl ?_))
      refine av_aload_n (pc := 45) (j := 1) C dX5_jumpIfAbove_45 rfl rfl ?_
      refine av_getR (pc := 46) (k := 5) (r := 35) C fl_X5_20 sk_7 rfl dX5_jumpIfAbove_46 ?_
      refine av_iload_n (pc := 49) (j := 2) C dX5_jumpIfAbove_49 rfl rfl ?_
      refine av_iload_n (pc := 50) (j := 3) C dX5_jumpIfAbove_50 rfl rfl ?_
      refine av_i2l (pc := 51) C dX5_jumpIfAbove_51 ?_
      obtain ⟨S18, hc19, hs⟩ := am_b1_of hs
      refine av_eq (st2 := [am_J a2, am_I a1, am_R 35]) rfl rfl rfl rfl (av_callV (pc := 52) (as := [am_I a1, am_J a2]) (rest := []) C (ct_X4_put l G 35 68 101 sk_35 sk_68 rfl a1 a2 S16 S18 hc19) ym_X4_put si_X5_78 im_X4_put se_X4_put sk_35 rfl ⟨Nat.le_of_ble_eq_true rfl, Nat.le_of_ble_eq_true rfl⟩ rfl rfl (Nat.le_of_ble_eq_true rfl) dX5_jumpIfAbove_52 ⟨Nat.le_refl _, Nat.le_refl _⟩ (fun hrv => av_eq (st2 := []) rfl rfl rfl rfl ?_))
      obtain rfl := am_inj1 hs
      exact av_vret C hr hlocks dX5_jumpIfAbove_55
set_option maxHeartbeats 4000000 in
set_option maxRecDepth 100000 in
theorem ct_X5_jumpIfZero (l : Launch) (G : am_G) (a1 : Int) (a2 : Int) (S : am_S) (SZ : am_S) (hs : sf_X5_jumpIfZero a1 a2 S = some SZ) : am_met l yX5_jumpIfZero cX5_jumpIfZero 3 none 1 23 G [am_R 7, am_I a1, am_I a2] S none SZ := by
  refine am_enter ym_X5_jumpIfZero (Nat.le_of_ble_eq_true rfl) ?_
  intro p e s m args below meth c C hr hlocks
  refine av_eq (lv2 := [(0, am_R 7), (1, am_I a1), (2, am_I a2)]) rfl rfl rfl rfl ?_
  unfold sf_X5_jumpIfZero at hs
  refine av_aload_n (pc := 0) (j := 0) C dX5_jumpIfZero_0 rfl rfl ?_
  refine av_getR (pc := 1) (k := 6) (r := 36) C fl_X5_23 sk_7 rfl dX5_jumpIfZero_1 ?_
  refine av_iload_n (pc := 4) (j := 1) C dX5_jumpIfZero_4 rfl rfl ?_
  obtain ⟨x2, S1, hc3, hs⟩ := am_b2_of hs
  refine av_eq (st2 := [am_I a1, am_R 36]) rfl rfl rfl rfl (av_callV (pc := 5) (as := [am_I a1]) (rest := []) C (ct_X4_valueAt l G 36 69 101 sk_36 sk_69 rfl a1 S x2 S1 hc3) ym_X4_valueAt si_X5_139 im_X4_valueAt se_X4_valueAt sk_36 rfl ⟨Nat.le_of_ble_eq_true rfl, Nat.le_of_ble_eq_true rfl⟩ rfl rfl (Nat.le_of_ble_eq_true rfl) dX5_jumpIfZero_5 ⟨Nat.le_refl _, Nat.le_refl _⟩ (fun hrv => av_eq (st2 := [am_J x2]) rfl rfl rfl rfl ?_))
  refine av_iconst (pc := 8) C dX5_jumpIfZero_8 rfl ?_
  refine av_iconst (pc := 9) C dX5_jumpIfZero_9 rfl ?_
  obtain ⟨x5, S4, hc6, hs⟩ := am_b2_of hs
  refine av_eq (st2 := [am_I 0, am_I 0, am_J x2]) rfl rfl rfl rfl (av_callS (pc := 10) (as := [am_I 0, am_I 0]) (rest := [am_J x2]) C (ct_X8_of l G 0 0 S1 x5 S4 hc6) ym_X8_of si_X5_147 st_X8_of ⟨Nat.le_of_ble_eq_true rfl, Nat.le_of_ble_eq_true rfl⟩ rfl rfl (Nat.le_of_ble_eq_true rfl) dX5_jumpIfZero_10 ⟨Nat.le_refl _, Nat.le_refl _⟩ (fun hrv => av_eq (st2 := [am_J x5, am_J x2]) rfl rfl rfl rfl ?_))
  refine av_lcmp (pc := 13) C dX5_jumpIfZero_13 ?_
  refine av_if_ne (pc := 14) (tgt := 27) C dX5_jumpIfZero_14 (by decide) (fun hc => ?_) (fun hc => ?_)
  · rw [if_neg hc] at hs
    obtain rfl := am_inj1 hs
    exact av_vret C hr hlocks dX5_jumpIfZero_27
  · rw [if_pos (Decidable.not_not.mp hc)] at hs
    refine av_aload_n (pc := 17) (j := 0) C dX5_jumpIfZero_17 rfl rfl ?_
    refine av_getR (pc := 18) (k := 5) (r := 35) C fl_X5_20 sk_7 rfl dX5_jumpIfZero_18 ?_
    refine av_iload_n (pc := 21) (j := 1) C dX5_jumpIfZero_21 rfl rfl ?_
    refine av_iload_n (pc := 22) (j := 2) C dX5_jumpIfZero_22 rfl rfl ?_
    refine av_i2l (pc := 23) C dX5_jumpIfZero_23 ?_
    obtain ⟨S7, hc8, hs⟩ := am_b1_of hs
    refine av_eq (st2 := [am_J a2, am_I a1, am_R 35]) rfl rfl rfl rfl (av_callV (pc := 24) (as := [am_I a1, am_J a2]) (rest := []) C (ct_X4_put l G 35 68 101 sk_35 sk_68 rfl a1 a2 S4 S7 hc8) ym_X4_put si_X5_78 im_X4_put se_X4_put sk_35 rfl ⟨Nat.le_of_ble_eq_true rfl, Nat.le_of_ble_eq_true rfl⟩ rfl rfl (Nat.le_of_ble_eq_true rfl) dX5_jumpIfZero_24 ⟨Nat.le_refl _, Nat.le_refl _⟩ (fun hrv => av_eq (st2 := []) rfl rfl rfl rfl ?_))
    obtain rfl := am_inj1 hs
    exact av_vret C hr hlocks dX5_jumpIfZero_27
set_option maxHeartbeats 4000000 in
set_option maxRecDepth 100000 in
theorem ct_X6_add (l : Launch) (G : am_G) (a1 : Int) (a2 : Int) (a3 : Int) (S : am_S) (x : Int) (SZ : am_S) (hs : sf_X6_add a1 a2 a3 S = some (x, SZ)) : am_met l yX6_add cX6_add 5 (some .int) 1 23 G [am_R 4, am_I a1, am_J a2, am_I a3] S (some (am_I x)) SZ := by
  refine am_enter ym_X6_add (Nat.le_of_ble_eq_true rfl) ?_
  intro p e s m args below meth c C hr hlocks
  refine av_eq (lv2 := [(0, am_R 4), (1, am_I a1), (2, am_J a2), (4, am_I a3)]) rfl rfl rfl rfl ?_
  unfold sf_X6_add at hs
  refine av_aload_n (pc := 0) (j := 0) C dX6_add_0 rfl rfl ?_
  refine av_getR (pc := 1) (k := 0) (r := 25) C fl_X6_14 sk_4 rfl dX6_add_1 ?_
  refine av_aload_n (pc := 4) (j := 0) C dX6_add_4 rfl rfl ?_
  refine av_getI (pc := 5) (k := 3) (n := 259) C fl_X6_26 sk_4 rfl rfl dX6_add_5 ?_
  refine av_iload_n (pc := 8) (j := 1) C dX6_add_8 rfl rfl ?_
  refine av_i2l (pc := 9) C dX6_add_9 ?_
  obtain ⟨S1, hc2, hs⟩ := am_b1_of hs
  refine av_eq (st2 := [am_J a1, am_I (S.1 259), am_R 25]) rfl rfl rfl rfl (av_callV (pc := 10) (as := [am_I (S.1 259), am_J a1]) (rest := []) C (ct_X4_put l G 25 58 32 sk_25 sk_58 rfl (S.1 259) a1 S S1 hc2) ym_X4_put si_X6_33 im_X4_put se_X4_put sk_25 rfl ⟨Nat.le_of_ble_eq_true rfl, Nat.le_of_ble_eq_true rfl⟩ rfl rfl (Nat.le_of_ble_eq_true rfl) dX6_add_10 ⟨Nat.le_refl _, Nat.le_refl _⟩ (fun hrv => av_eq (st2 := []) rfl rfl rfl rfl ?_))
  refine av_aload_n (pc := 13) (j := 0) C dX6_add_13 rfl rfl ?_
  refine av_getR (pc := 14) (k := 1) (r := 26) C fl_X6_20 sk_4 rfl dX6_add_14 ?_
  refine av_aload_n (pc := 17) (j := 0) C dX6_add_17 rfl rfl ?_
  refine av_getI (pc := 18) (k := 3) (n := 259) C fl_X6_26 sk_4 rfl rfl dX6_add_18 ?_
  refine av_lload_n (pc := 21) (j := 2) C dX6_add_21 rfl rfl ?_
  obtain ⟨S3, hc4, hs⟩ := am_b1_of hs
  refine av_eq (st2 := [am_J a2, am_I (S1.1 259), am_R 26]) rfl rfl rfl rfl (av_callV (pc := 22) (as := [am_I (S1.1 259), am_J a2]) (rest := []) C (ct_X4_put l G 26 59 32 sk_26 sk_59 rfl (S1.1 259) a2 S1 S3 hc4) ym_X4_put si_X6_33 im_X4_put se_X4_put sk_26 rfl ⟨Nat.le_of_ble_eq_true rfl, Nat.le_of_ble_eq_true rfl⟩ rfl rfl (Nat.le_of_ble_eq_true rfl) dX6_add_22 ⟨Nat.le_refl _, Nat.le_refl _⟩ (fun hrv => av_eq (st2 := []) rfl rfl rfl rfl ?_))
  refine av_aload_n (pc := 25) (j := 0) C dX6_add_25 rfl rfl ?_
  refine av_getR (pc := 26) (k := 2) (r := 27) C fl_X6_23 sk_4 rfl dX6_add_26 ?_
  refine av_aload_n (pc := 29) (j := 0) C dX6_add_29 rfl rfl ?_
  refine av_getI (pc := 30) (k := 3) (n := 259) C fl_X6_26 sk_4 rfl rfl dX6_add_30 ?_
  refine av_aload_n (pc := 33) (j := 0) C dX6_add_33 rfl rfl ?_
  refine av_getI (pc := 34) (k := 4) (n := 260) C fl_X6_30 sk_4 rfl rfl dX6_add_34 ?_
  refine av_iload (pc := 37) (j := 3) C dX6_add_37 rfl ?_
  refine av_iadd (pc := 39) C dX6_add_39 ?_
  refine av_i2l (pc := 40) C dX6_add_40 ?_
  obtain ⟨S5, hc6, hs⟩ := am_b1_of hs
  refine av_eq (st2 := [am_J (am_w32 ((S3.1 260) + a3)), am_I (S3.1 259), am_R 27]) rfl rfl rfl rfl (av_callV (pc := 41) (as := [am_I (S3.1 259), am_J (am_w32 ((S3.1 260) + a3))]) (rest := []) C (ct_X4_put l G 27 60 32 sk_27 sk_60 rfl (S3.1 259) (am_w32 ((S3.1 260) + a3)) S3 S5 hc6) ym_X4_put si_X6_33 im_X4_put se_X4_put sk_27 rfl ⟨Nat.le_of_ble_eq_true rfl, Nat.le_of_ble_eq_true rfl⟩ rfl rfl (Nat.le_of_ble_eq_true rfl) dX6_add_41 ⟨Nat.le_refl _, Nat.le_refl _⟩ (fun hrv => av_eq (st2 := []) rfl rfl rfl rfl ?_))
  refine av_aload_n (pc := 44) (j := 0) C dX6_add_44 rfl rfl ?_
  refine av_dup (pc := 45) C dX6_add_45 rfl ?_
  refine av_getI (pc := 46) (k := 3) (n := 259) C fl_X6_26 sk_4 rfl rfl dX6_add_46 ?_
  refine av_iconst (pc := 49) C dX6_add_49 rfl ?_
  refine av_iadd (pc := 50) C dX6_add_50 ?_
  obtain ⟨S7, eS7, hs⟩ := am_let_of hs
  refine av_putI (pc := 51) (k := 3) (n := 259) C fp_X6_26 sk_4 rfl rfl dX6_add_51 ?_
  refine av_eq rfl rfl rfl eS7 ?_
  refine av_aload_n (pc := 54) (j := 0) C dX6_add_54 rfl rfl ?_
  refine av_getI (pc := 55) (k := 3) (n := 259) C fl_X6_26 sk_4 rfl rfl dX6_add_55 ?_
  obtain ⟨rfl, rfl⟩ := am_inj2 hs
  exact av_iret C hr hlocks dX6_add_58
set_option maxHeartbeats 4000000 in
set_option maxRecDepth 100000 in
theorem ct_X5_doStep (l : Launch) (G : am_G) (a1 : Int) (a2 : Int) (S : am_S) (x : Int) (SZ : am_S) (hs : sf_X5_doStep a1 a2 S = some (x, SZ)) : am_met l yX5_doStep cX5_doStep 10 (some .int) 4 93 G [am_R 7, am_I a1, am_I a2] S (some (am_I x)) SZ := by
  refine am_enter ym_X5_doStep (Nat.le_of_ble_eq_true rfl) ?_
  intro p e s m args below meth c C hr hlocks
  refine av_eq (lv2 := [(0, am_R 7), (1, am_I a1), (2, am_I a2)]) rfl rfl rfl rfl ?_
  unfold sf_X5_doStep at hs
  refine av_aload_n (pc := 0) (j := 0) C dX5_doStep_0 rfl rfl ?_
  refine av_getR (pc := 1) (k := 0) (r := 3) C fl_X5_48 sk_7 rfl dX5_doStep_1 ?_
  refine av_aload_n (pc := 4) (j := 0) C dX5_doStep_4 rfl rfl ?_
  refine av_getR (pc := 5) (k := 4) (r := 34) C fl_X5_14 sk_7 rfl dX5_doStep_5 ?_
  refine av_iload_n (pc := 8) (j := 1) C dX5_doStep_8 rfl rfl ?_
  obtain ⟨x2, S1, hc3, hs⟩ := am_b2_of hs
  refine av_eq (st2 := [am_I a1, am_R 34, am_R 3]) rfl rfl rfl rfl (av_callV (pc := 9) (as := [am_I a1]) (rest := [am_R 3]) C (ct_X4_at l G 34 67 101 sk_34 sk_67 rfl a1 S x2 S1 hc3) ym_X4_at si_X5_68 im_X4_at se_X4_at sk_34 rfl ⟨Nat.le_of_ble_eq_true rfl, Nat.le_of_ble_eq_true rfl⟩ rfl rfl (Nat.le_of_ble_eq_true rfl) dX5_doStep_9 ⟨Nat.le_refl _, Nat.le_refl _⟩ (fun hrv => av_eq (st2 := [am_I x2, am_R 3]) rfl rfl rfl rfl ?_))
  refine av_iload_n (pc := 12) (j := 2) C dX5_doStep_12 rfl rfl ?_
  obtain ⟨x5, S4, hc6, hs⟩ := am_b2_of hs
  refine av_eq (st2 := [am_I a2, am_I x2, am_R 3]) rfl rfl rfl rfl (av_callV (pc := 13) (as := [am_I x2, am_I a2]) (rest := []) C (ct_X0_kindOf l G x2 a2 S1 x5 S4 hc6) ym_X0_kindOf si_X5_126 im_X0_kindOf se_X0_kindOf sk_3 rfl ⟨Nat.le_of_ble_eq_true rfl, Nat.le_of_ble_eq_true rfl⟩ rfl rfl (Nat.le_of_ble_eq_true rfl) dX5_doStep_13 ⟨Nat.le_refl _, Nat.le_refl _⟩ (fun hrv => av_eq (st2 := [am_I x5]) rfl rfl rfl rfl ?_))
  refine av_istore_n (pc := 16) (i := 3) (lv2 := [(3, am_I x5), (0, am_R 7), (1, am_I a1), (2, am_I a2)]) C dX5_doStep_16 rfl (by decide) rfl ?_
  refine av_aload_n (pc := 17) (j := 1) C dX5_doStep_17 rfl rfl ?_
  refine av_getR (pc := 18) (k := 0) (r := 3) C fl_X5_48 sk_7 rfl dX5_doStep_18 ?_
  refine av_aload_n (pc := 21) (j := 1) C dX5_doStep_21 rfl rfl ?_
  refine av_getR (pc := 22) (k := 4) (r := 34) C fl_X5_14 sk_7 rfl dX5_doStep_22 ?_
  refine av_iload_n (pc := 25) (j := 2) C dX5_doStep_25 rfl rfl ?_
  obtain ⟨x8, S7, hc9, hs⟩ := am_b2_of hs
  refine av_eq (st2 := [am_I a1, am_R 34, am_R 3]) rfl rfl rfl rfl (av_callV (pc := 26) (as := [am_I a1]) (rest := [am_R 3]) C (ct_X4_at l G 34 67 101 sk_34 sk_67 rfl a1 S4 x8 S7 hc9) ym_X4_at si_X5_68 im_X4_at se_X4_at sk_34 rfl ⟨Nat.le_of_ble_eq_true rfl, Nat.le_of_ble_eq_true rfl⟩ rfl rfl (Nat.le_of_ble_eq_true rfl) dX5_doStep_26 ⟨Nat.le_refl _, Nat.le_refl _⟩ (fun hrv => av_eq (st2 := [am_I x8, am_R 3]) rfl rfl rfl rfl ?_))
  refine av_iload_n (pc := 29) (j := 3) C dX5_doStep_29 rfl rfl ?_
  obtain ⟨x11, S10, hc12, hs⟩ := am_b2_of hs
  refine av_eq (st2 := [am_I a2, am_I x8, am_R 3]) rfl rfl rfl rfl (av_callV (pc := 30) (as := [am_I x8, am_I a2]) (rest := []) C (ct_X0_valueOf l G x8 a2 S7 x11 S10 hc12) ym_X0_valueOf si_X5_129 im_X0_valueOf se_X0_valueOf sk_3 rfl ⟨Nat.le_of_ble_eq_true rfl, Nat.le_of_ble_eq_true rfl⟩ rfl rfl (Nat.le_of_ble_eq_true rfl) dX5_doStep_30 ⟨Nat.le_refl _, Nat.le_refl _⟩ (fun hrv => av_eq (st2 := [am_J x11]) rfl rfl rfl rfl ?_))
  refine av_lstore (pc := 33) (i := 4) (lv2 := [(4, am_J x11), (3, am_I x5), (0, am_R 7), (1, am_I a1), (2, am_I a2)]) C dX5_doStep_33 (by decide) rfl ?_
  refine av_lload (pc := 35) (j := 0) C dX5_doStep_35 rfl ?_
  obtain ⟨x14, S13, hc15, hs⟩ := am_b2_of hs
  refine av_eq (st2 := [am_J x11]) rfl rfl rfl rfl (av_callS (pc := 37) (as := [am_J x11]) (rest := []) C (ct_X8_numberOf l G x11 S10 x14 S13 hc15) ym_X8_numberOf si_X5_133 st_X8_numberOf ⟨Nat.le_of_ble_eq_true rfl, Nat.le_of_ble_eq_true rfl⟩ rfl rfl (Nat.le_of_ble_eq_true rfl) dX5_doStep_37 ⟨Nat.le_refl _, Nat.le_refl _⟩ (fun hrv => av_eq (st2 := [am_I x14]) rfl rfl rfl rfl ?_))
  refine av_istore (pc := 40) (i := 6) (lv2 := [(6, am_I x14), (4, am_J x11), (3, am_I x5), (0, am_R 7), (1, am_I a1), (2, am_I a2)]) C dX5_doStep_40 (by decide) rfl ?_
  refine av_aload_n (pc := 42) (j := 3) C dX5_doStep_42 rfl rfl ?_
  refine av_getR (pc := 43) (k := 6) (r := 36) C fl_X5_23 sk_7 rfl dX5_doStep_43 ?_
  refine av_iload_n (pc := 46) (j := 4) C dX5_doStep_46 rfl rfl ?_
  obtain ⟨x17, S16, hc18, hs⟩ := am_b2_of hs
  refine av_eq (st2 := [am_I a1, am_R 36]) rfl rfl rfl rfl (av_callV (pc := 47) (as := [am_I a1]) (rest := []) C (ct_X4_valueAt l G 36 69 101 sk_36 sk_69 rfl a1 S13 x17 S16 hc18) ym_X4_valueAt si_X5_139 im_X4_valueAt se_X4_valueAt sk_36 rfl ⟨Nat.le_of_ble_eq_true rfl, Nat.le_of_ble_eq_true rfl⟩ rfl rfl (Nat.le_of_ble_eq_true rfl) dX5_doStep_47 ⟨Nat.le_refl _, Nat.le_refl _⟩ (fun hrv => av_eq (st2 := [am_J x17]) rfl rfl rfl rfl ?_))
  refine av_lstore (pc := 50) (i := 7) (lv2 := [(7, am_J x17), (6, am_I x14), (4, am_J x11), (3, am_I x5), (0, am_R 7), (1, am_I a1), (2, am_I a2)]) C dX5_doStep_50 (by decide) rfl ?_
  refine av_aload_n (pc := 52) (j := 4) C dX5_doStep_52 rfl rfl ?_
  refine av_dup (pc := 53) C dX5_doStep_53 rfl ?_
  refine av_getI (pc := 54) (k := 13) (n := 461) C fl_X5_45 sk_7 rfl rfl dX5_doStep_54 ?_
  refine av_iconst (pc := 57) C dX5_doStep_57 rfl ?_
  refine av_iadd (pc := 58) C dX5_doStep_58 ?_
  obtain ⟨S19, eS19, hs⟩ := am_let_of hs
  refine av_putI (pc := 59) (k := 13) (n := 461) C fp_X5_45 sk_7 rfl rfl dX5_doStep_59 ?_
  refine av_eq rfl rfl rfl eS19 ?_
  refine av_aload_n (pc := 62) (j := 4) C dX5_doStep_62 rfl rfl ?_
  refine av_iload_n (pc := 63) (j := 5) C dX5_doStep_63 rfl rfl ?_
  refine av_iload_n (pc := 64) (j := 3) C dX5_doStep_64 rfl rfl ?_
  refine av_lload (pc := 65) (j := 2) C dX5_doStep_65 rfl ?_
  obtain ⟨x21, S20, hc22, hs⟩ := am_b2_of hs
  refine av_eq (st2 := [am_J x11, am_I x5, am_I a1, am_R 7]) rfl rfl rfl rfl (av_callV (pc := 67) (as := [am_I a1, am_I x5, am_J x11]) (rest := []) C (ct_X5_faultOf l G a1 x5 x11 S19 x21 S20 hc22) ym_X5_faultOf si_X5_143 im_X5_faultOf se_X5_faultOf sk_7 rfl ⟨Nat.le_of_ble_eq_true rfl, Nat.le_of_ble_eq_true rfl⟩ rfl rfl (Nat.le_of_ble_eq_true rfl) dX5_doStep_67 ⟨Nat.le_refl _, Nat.le_refl _⟩ (fun hrv => av_eq (st2 := [am_I x21]) rfl rfl rfl rfl ?_))
  refine av_istore (pc := 70) (i := 9) (lv2 := [(9, am_I x21), (7, am_J x17), (6, am_I x14), (4, am_J x11), (3, am_I x5), (0, am_R 7), (1, am_I a1), (2, am_I a2)]) C dX5_doStep_70 (by decide) rfl ?_
  refine av_iload (pc := 72) (j := 0) C dX5_doStep_72 rfl ?_
  refine av_if_eq (pc := 74) (tgt := 93) C dX5_doStep_74 (by decide) (fun hc => ?_) (fun hc => ?_)
  · rw [if_pos hc] at hs
    refine av_iload_n (pc := 93) (j := 4) C dX5_doStep_93 rfl rfl ?_
    have hdef23 : (hs : (some (0, S20)) = some (x, SZ)) → am_V p l e (am_rm 4 93) s m args below meth c (MQ below (am_Q G (some (am_I x)) SZ) args s 0 0 (am_A G)) G (am_A G) s.heap 10 0 0 329 [(9, am_I x21), (7, am_J x17), (6, am_I x14), (4, am_J x11), (3, am_I x5), (0, am_R 7), (1, am_I a1), (2, am_I a2)] [] S20 := by
      intro hs
      refine av_iconst (pc := 329) C dX5_doStep_329 rfl ?_
      obtain ⟨rfl, rfl⟩ := am_inj2 hs
      exact av_iret C hr hlocks dX5_doStep_330
    by_cases hk0 : x5 = 0
    · rw [if_pos hk0] at hs
      refine av_swi (pc := 94) (k := 0) (tgt := 168) C dX5_doStep_94 (by rw [hk0]; rfl) (by decide) rfl (by decide) ?_
      refine av_aload_n (pc := 168) (j := 5) C dX5_doStep_168 rfl rfl ?_
      refine av_getR (pc := 169) (k := 3) (r := 5) C fl_X5_60 sk_7 rfl dX5_doStep_169 ?_
      refine av_lload (pc := 172) (j := 3) C dX5_doStep_172 rfl ?_
      obtain ⟨S24, hc25, hs⟩ := am_b1_of hs
      refine av_eq (st2 := [am_J x11, am_R 5]) rfl rfl rfl rfl (av_callV (pc := 174) (as := [am_J x11]) (rest := []) C (ct_X2_add l G x11 S20 S24 hc25) ym_X2_add si_X5_150 im_X2_add se_X2_add sk_5 rfl ⟨Nat.le_of_ble_eq_true rfl, Nat.le_of_ble_eq_true rfl⟩ rfl rfl (Nat.le_of_ble_eq_true rfl) dX5_doStep_174 ⟨Nat.le_refl _, Nat.le_refl _⟩ (fun hrv => av_eq (st2 := []) rfl rfl rfl rfl ?_))
      refine av_goto (pc := 177) (tgt := 329) C dX5_doStep_177 (by decide) ?_
      refine av_iconst (pc := 329) C dX5_doStep_329 rfl ?_
      obtain ⟨rfl, rfl⟩ := am_inj2 hs
      exact av_iret C hr hlocks dX5_doStep_330
    · rw [if_neg hk0] at hs
      by_cases hk1 : x5 = 1
      · rw [if_pos hk1] at hs
        refine av_swi (pc := 94) (k := 1) (tgt := 180) C dX5_doStep_94 (by rw [hk1]; rfl) (by decide) rfl (by decide) ?_
        refine av_aload_n (pc := 180) (j := 5) C dX5_doStep_180 rfl rfl ?_
        refine av_getR (pc := 181) (k := 3) (r := 5) C fl_X5_60 sk_7 rfl dX5_doStep_181 ?_
        refine av_lload (pc := 184) (j := 1) C dX5_doStep_184 rfl ?_
        obtain ⟨S26, hc27, hs⟩ := am_b1_of hs
        refine av_eq (st2 := [am_J x17, am_R 5]) rfl rfl rfl rfl (av_callV (pc := 186) (as := [am_J x17]) (rest := []) C (ct_X2_add l G x17 S20 S26 hc27) ym_X2_add si_X5_150 im_X2_add se_X2_add sk_5 rfl ⟨Nat.le_of_ble_eq_true rfl, Nat.le_of_ble_eq_true rfl⟩ rfl rfl (Nat.le_of_ble_eq_true rfl) dX5_doStep_186 ⟨Nat.le_refl _, Nat.le_refl _⟩ (fun hrv => av_eq (st2 := []) rfl rfl rfl rfl ?_))
        refine av_goto (pc := 189) (tgt := 329) C dX5_doStep_189 (by decide) ?_
        refine av_iconst (pc := 329) C dX5_doStep_329 rfl ?_
        obtain ⟨rfl, rfl⟩ := am_inj2 hs
        exact av_iret C hr hlocks dX5_doStep_330
      · rw [if_neg hk1] at hs
        by_cases hk2 : x5 = 2
        · rw [if_pos hk2] at hs
          refine av_swi (pc := 94) (k := 2) (tgt := 192) C dX5_doStep_94 (by rw [hk2]; rfl) (by decide) rfl (by decide) ?_
          refine av_aload_n (pc := 192) (j := 5) C dX5_doStep_192 rfl rfl ?_
          refine av_getR (pc := 193) (k := 6) (r := 36) C fl_X5_23 sk_7 rfl dX5_doStep_193 ?_
          refine av_iload_n (pc := 196) (j := 6) C dX5_doStep_196 rfl rfl ?_
          refine av_lload (pc := 197) (j := 3) C dX5_doStep_197 rfl ?_
          obtain ⟨S28, hc29, hs⟩ := am_b1_of hs
          refine av_eq (st2 := [am_J x11, am_I a1, am_R 36]) rfl rfl rfl rfl (av_callV (pc := 199) (as := [am_I a1, am_J x11]) (rest := []) C (ct_X4_put l G 36 69 101 sk_36 sk_69 rfl a1 x11 S20 S28 hc29) ym_X4_put si_X5_78 im_X4_put se_X4_put sk_36 rfl ⟨Nat.le_of_ble_eq_true rfl, Nat.le_of_ble_eq_true rfl⟩ rfl rfl (Nat.le_of_ble_eq_true rfl) dX5_doStep_199 ⟨Nat.le_refl _, Nat.le_refl _⟩ (fun hrv => av_eq (st2 := []) rfl rfl rfl rfl ?_))
          refine av_goto (pc := 202) (tgt := 329) C dX5_doStep_202 (by decide) ?_
          refine av_iconst (pc := 329) C dX5_doStep_329 rfl ?_
          obtain ⟨rfl, rfl⟩ := am_inj2 hs
          exact av_iret C hr hlocks dX5_doStep_330
        · rw [if_neg hk2] at hs
          by_cases hk3 : x5 = 3
          · rw [if_pos hk3] at hs
            refine av_swi (pc := 94) (k := 3) (tgt := 205) C dX5_doStep_94 (by rw [hk3]; rfl) (by decide) rfl (by decide) ?_
            refine av_iconst (pc := 205) C dX5_doStep_205 rfl ?_
            obtain ⟨rfl, rfl⟩ := am_inj2 hs
            exact av_iret C hr hlocks dX5_doStep_206
          · rw [if_neg hk3] at hs
            by_cases hk4 : x5 = 4
            · rw [if_pos hk4] at hs
              refine av_swi (pc := 94) (k := 4) (tgt := 207) C dX5_doStep_94 (by rw [hk4]; rfl) (by decide) rfl (by decide) ?_
              refine av_iconst (pc := 207) C dX5_doStep_207 rfl ?_
              obtain ⟨rfl, rfl⟩ := am_inj2 hs
              exact av_iret C hr hlocks dX5_doStep_208
            · rw [if_neg hk4] at hs
              by_cases hk5 : x5 = 5
              · rw [if_pos hk5] at hs
                refine av_swi (pc := 94) (k := 5) (tgt := 209) C dX5_doStep_94 (by rw [hk5]; rfl) (by decide) rfl (by decide) ?_
                refine av_iconst (pc := 209) C dX5_doStep_209 rfl ?_
                obtain ⟨rfl, rfl⟩ := am_inj2 hs
                exact av_iret C hr hlocks dX5_doStep_210
              · rw [if_neg hk5] at hs
                by_cases hk6 : x5 = 6
                · refine av_swi (pc := 94) (k := 6) (tgt := 329) C dX5_doStep_94 (by rw [hk6]; rfl) (by decide) rfl (by decide) ?_
                  rw [if_neg (show ¬ x5 = 8 by omega)] at hs
                  rw [if_neg (show ¬ x5 = 9 by omega)] at hs
                  rw [if_neg (show ¬ x5 = 10 by omega)] at hs
                  rw [if_neg (show ¬ x5 = 11 by omega)] at hs
                  rw [if_neg (show ¬ x5 = 12 by omega)] at hs
                  rw [if_neg (show ¬ x5 = 13 by omega)] at hs
                  rw [if_neg (show ¬ x5 = 14 by omega)] at hs
                  exact hdef23 hs
                · skip
                  by_cases hk7 : x5 = 7
                  · refine av_swi (pc := 94) (k := 7) (tgt := 329) C dX5_doStep_94 (by rw [hk7]; rfl) (by decide) rfl (by decide) ?_
                    rw [if_neg (show ¬ x5 = 8 by omega)] at hs
                    rw [if_neg (show ¬ x5 = 9 by omega)] at hs
                    rw [if_neg (show ¬ x5 = 10 by omega)] at hs
                    rw [if_neg (show ¬ x5 = 11 by omega)] at hs
                    rw [if_neg (show ¬ x5 = 12 by omega)] at hs
                    rw [if_neg (show ¬ x5 = 13 by omega)] at hs
                    rw [if_neg (show ¬ x5 = 14 by omega)] at hs
                    exact hdef23 hs
                  · skip
                    by_cases hk8 : x5 = 8
                    · rw [if_pos hk8] at hs
                      refine av_swi (pc := 94) (k := 8) (tgt := 211) C dX5_doStep_94 (by rw [hk8]; rfl) (by decide) rfl (by decide) ?_
                      refine av_aload_n (pc := 211) (j := 5) C dX5_doStep_211 rfl rfl ?_
                      refine av_getR (pc := 212) (k := 6) (r := 36) C fl_X5_23 sk_7 rfl dX5_doStep_212 ?_
                      refine av_iload_n (pc := 215) (j := 6) C dX5_doStep_215 rfl rfl ?_
                      refine av_iconst (pc := 216) C dX5_doStep_216 rfl ?_
                      refine av_aload_n (pc := 217) (j := 5) C dX5_doStep_217 rfl rfl ?_
                      refine av_iload (pc := 218) (j := 2) C dX5_doStep_218 rfl ?_
                      refine av_lload (pc := 220) (j := 1) C dX5_doStep_220 rfl ?_
                      obtain ⟨x31, S30, hc32, hs⟩ := am_b2_of hs
                      refine av_eq (st2 := [am_J x17, am_I x14, am_R 7, am_I 1, am_I a1, am_R 36]) rfl rfl rfl rfl (av_callV (pc := 222) (as := [am_I x14, am_J x17]) (rest := [am_I 1, am_I a1, am_R 36]) C (ct_X5_begin l G x14 x17 S20 x31 S30 hc32) ym_X5_begin si_X5_155 im_X5_begin se_X5_begin sk_7 rfl ⟨Nat.le_of_ble_eq_true rfl, Nat.le_of_ble_eq_true rfl⟩ rfl rfl (Nat.le_of_ble_eq_true rfl) dX5_doStep_222 ⟨Nat.le_refl _, Nat.le_refl _⟩ (fun hrv => av_eq (st2 := [am_I x31, am_I 1, am_I a1, am_R 36]) rfl rfl rfl rfl ?_))
                      obtain ⟨x34, S33, hc35, hs⟩ := am_b2_of hs
                      refine av_eq (st2 := [am_I x31, am_I 1, am_I a1, am_R 36]) rfl rfl rfl rfl (av_callS (pc := 225) (as := [am_I 1, am_I x31]) (rest := [am_I a1, am_R 36]) C (ct_X8_of l G 1 x31 S30 x34 S33 hc35) ym_X8_of si_X5_147 st_X8_of ⟨Nat.le_of_ble_eq_true rfl, Nat.le_of_ble_eq_true rfl⟩ rfl rfl (Nat.le_of_ble_eq_true rfl) dX5_doStep_225 ⟨Nat.le_refl _, Nat.le_refl _⟩ (fun hrv => av_eq (st2 := [am_J x34, am_I a1, am_R 36]) rfl rfl rfl rfl ?_))
                      obtain ⟨S36, hc37, hs⟩ := am_b1_of hs
                      refine av_eq (st2 := [am_J x34, am_I a1, am_R 36]) rfl rfl rfl rfl (av_callV (pc := 228) (as := [am_I a1, am_J x34]) (rest := []) C (ct_X4_put l G 36 69 101 sk_36 sk_69 rfl a1 x34 S33 S36 hc37) ym_X4_put si_X5_78 im_X4_put se_X4_put sk_36 rfl ⟨Nat.le_of_ble_eq_true rfl, Nat.le_of_ble_eq_true rfl⟩ rfl rfl (Nat.le_of_ble_eq_true rfl) dX5_doStep_228 ⟨Nat.le_refl _, Nat.le_refl _⟩ (fun hrv => av_eq (st2 := []) rfl rfl rfl rfl ?_))
                      refine av_goto (pc := 231) (tgt := 329) C dX5_doStep_231 (by decide) ?_
                      refine av_iconst (pc := 329) C dX5_doStep_329 rfl ?_
                      obtain ⟨rfl, rfl⟩ := am_inj2 hs
                      exact av_iret C hr hlocks dX5_doStep_330
                    · rw [if_neg hk8] at hs
                      by_cases hk9 : x5 = 9
                      · rw [if_pos hk9] at hs
                        refine av_swi (pc := 94) (k := 9) (tgt := 234) C dX5_doStep_94 (by rw [hk9]; rfl) (by decide) rfl (by decide) ?_
                        refine av_aload_n (pc := 234) (j := 5) C dX5_doStep_234 rfl rfl ?_
                        refine av_getR (pc := 235) (k := 1) (r := 1) C fl_X5_52 sk_7 rfl dX5_doStep_235 ?_
                        refine av_iload (pc := 238) (j := 2) C dX5_doStep_238 rfl ?_
                        refine av_iconst (pc := 240) C dX5_doStep_240 rfl ?_
                        refine av_lload (pc := 241) (j := 1) C dX5_doStep_241 rfl ?_
                        refine av_iconst (pc := 243) C dX5_doStep_243 rfl ?_
                        obtain ⟨S38, hc39, hs⟩ := am_b1_of hs
                        refine av_eq (st2 := [am_I 0, am_J x17, am_I 1, am_I x14, am_R 1]) rfl rfl rfl rfl (av_callV (pc := 244) (as := [am_I x14, am_I 1, am_J x17, am_I 0]) (rest := []) C (ct_X3_settleBy l G x14 1 x17 0 S20 S38 hc39) ym_X3_settleBy si_X5_90 im_X3_settleBy se_X3_settleBy sk_1 rfl ⟨Nat.le_of_ble_eq_true rfl, Nat.le_of_ble_eq_true rfl⟩ rfl rfl (Nat.le_of_ble_eq_true rfl) dX5_doStep_244 ⟨Nat.le_refl _, Nat.le_refl _⟩ (fun hrv => av_eq (st2 := []) rfl rfl rfl rfl ?_))
                        refine av_goto (pc := 247) (tgt := 329) C dX5_doStep_247 (by decide) ?_
                        refine av_iconst (pc := 329) C dX5_doStep_329 rfl ?_
                        obtain ⟨rfl, rfl⟩ := am_inj2 hs
                        exact av_iret C hr hlocks dX5_doStep_330
                      · rw [if_neg hk9] at hs
                        by_cases hk10 : x5 = 10
                        · rw [if_pos hk10] at hs
                          refine av_swi (pc := 94) (k := 10) (tgt := 250) C dX5_doStep_94 (by rw [hk10]; rfl) (by decide) rfl (by decide) ?_
                          refine av_aload_n (pc := 250) (j := 5) C dX5_doStep_250 rfl rfl ?_
                          refine av_getR (pc := 251) (k := 1) (r := 1) C fl_X5_52 sk_7 rfl dX5_doStep_251 ?_
                          refine av_iload (pc := 254) (j := 2) C dX5_doStep_254 rfl ?_
                          refine av_iconst (pc := 256) C dX5_doStep_256 rfl ?_
                          refine av_lload (pc := 257) (j := 1) C dX5_doStep_257 rfl ?_
                          refine av_iconst (pc := 259) C dX5_doStep_259 rfl ?_
                          obtain ⟨S40, hc41, hs⟩ := am_b1_of hs
                          refine av_eq (st2 := [am_I 0, am_J x17, am_I 2, am_I x14, am_R 1]) rfl rfl rfl rfl (av_callV (pc := 260) (as := [am_I x14, am_I 2, am_J x17, am_I 0]) (rest := []) C (ct_X3_settleBy l G x14 2 x17 0 S20 S40 hc41) ym_X3_settleBy si_X5_90 im_X3_settleBy se_X3_settleBy sk_1 rfl ⟨Nat.le_of_ble_eq_true rfl, Nat.le_of_ble_eq_true rfl⟩ rfl rfl (Nat.le_of_ble_eq_true rfl) dX5_doStep_260 ⟨Nat.le_refl _, Nat.le_refl _⟩ (fun hrv => av_eq (st2 := []) rfl rfl rfl rfl ?_))
                          refine av_goto (pc := 263) (tgt := 329) C dX5_doStep_263 (by decide) ?_
                          refine av_iconst (pc := 329) C dX5_doStep_329 rfl ?_
                          obtain ⟨rfl, rfl⟩ := am_inj2 hs
                          exact av_iret C hr hlocks dX5_doStep_330
                        · rw [if_neg hk10] at hs
                          by_cases hk11 : x5 = 11
                          · rw [if_pos hk11] at hs
                            refine av_swi (pc := 94) (k := 11) (tgt := 266) C dX5_doStep_94 (by rw [hk11]; rfl) (by decide) rfl (by decide) ?_
                            refine av_aload_n (pc := 266) (j := 5) C dX5_doStep_266 rfl rfl ?_
                            refine av_getR (pc := 267) (k := 6) (r := 36) C fl_X5_23 sk_7 rfl dX5_doStep_267 ?_
                            refine av_iload_n (pc := 270) (j := 6) C dX5_doStep_270 rfl rfl ?_
                            refine av_iconst (pc := 271) C dX5_doStep_271 rfl ?_
                            refine av_aload_n (pc := 272) (j := 5) C dX5_doStep_272 rfl rfl ?_
                            refine av_lload (pc := 273) (j := 1) C dX5_doStep_273 rfl ?_
                            obtain ⟨x43, S42, hc44, hs⟩ := am_b2_of hs
                            refine av_eq (st2 := [am_J x17, am_R 7, am_I 1, am_I a1, am_R 36]) rfl rfl rfl rfl (av_callS (pc := 275) (as := [am_J x17]) (rest := [am_R 7, am_I 1, am_I a1, am_R 36]) C (ct_X8_numberOf l G x17 S20 x43 S42 hc44) ym_X8_numberOf si_X5_133 st_X8_numberOf ⟨Nat.le_of_ble_eq_true rfl, Nat.le_of_ble_eq_true rfl⟩ rfl rfl (Nat.le_of_ble_eq_true rfl) dX5_doStep_275 ⟨Nat.le_refl _, Nat.le_refl _⟩ (fun hrv => av_eq (st2 := [am_I x43, am_R 7, am_I 1, am_I a1, am_R 36]) rfl rfl rfl rfl ?_))
                            refine av_iload (pc := 278) (j := 2) C dX5_doStep_278 rfl ?_
                            refine av_iconst (pc := 280) C dX5_doStep_280 rfl ?_
                            obtain ⟨x46, S45, hc47, hs⟩ := am_b2_of hs
                            refine av_eq (st2 := [am_I (-1), am_I x14, am_I x43, am_R 7, am_I 1, am_I a1, am_R 36]) rfl rfl rfl rfl (av_callV (pc := 281) (as := [am_I x43, am_I x14, am_I (-1)]) (rest := [am_I 1, am_I a1, am_R 36]) C (ct_X5_addHandlers l G x43 x14 (-1) S42 x46 S45 hc47) ym_X5_addHandlers si_X5_159 im_X5_addHandlers se_X5_addHandlers sk_7 rfl ⟨Nat.le_of_ble_eq_true rfl, Nat.le_of_ble_eq_true rfl⟩ rfl rfl (Nat.le_of_ble_eq_true rfl) dX5_doStep_281 ⟨Nat.le_refl _, Nat.le_refl _⟩ (fun hrv => av_eq (st2 := [am_I x46, am_I 1, am_I a1, am_R 36]) rfl rfl rfl rfl ?_))
                            obtain ⟨x49, S48, hc50, hs⟩ := am_b2_of hs
                            refine av_eq (st2 := [am_I x46, am_I 1, am_I a1, am_R 36]) rfl rfl rfl rfl (av_callS (pc := 284) (as := [am_I 1, am_I x46]) (rest := [am_I a1, am_R 36]) C (ct_X8_of l G 1 x46 S45 x49 S48 hc50) ym_X8_of si_X5_147 st_X8_of ⟨Nat.le_of_ble_eq_true rfl, Nat.le_of_ble_eq_true rfl⟩ rfl rfl (Nat.le_of_ble_eq_true rfl) dX5_doStep_284 ⟨Nat.le_refl _, Nat.le_refl _⟩ (fun hrv => av_eq (st2 := [am_J x49, am_I a1, am_R 36]) rfl rfl rfl rfl ?_))
                            obtain ⟨S51, hc52, hs⟩ := am_b1_of hs
                            refine av_eq (st2 := [am_J x49, am_I a1, am_R 36]) rfl rfl rfl rfl (av_callV (pc := 287) (as := [am_I a1, am_J x49]) (rest := []) C (ct_X4_put l G 36 69 101 sk_36 sk_69 rfl a1 x49 S48 S51 hc52) ym_X4_put si_X5_78 im_X4_put se_X4_put sk_36 rfl ⟨Nat.le_of_ble_eq_true rfl, Nat.le_of_ble_eq_true rfl⟩ rfl rfl (Nat.le_of_ble_eq_true rfl) dX5_doStep_287 ⟨Nat.le_refl _, Nat.le_refl _⟩ (fun hrv => av_eq (st2 := []) rfl rfl rfl rfl ?_))
                            refine av_goto (pc := 290) (tgt := 329) C dX5_doStep_290 (by decide) ?_
                            refine av_iconst (pc := 329) C dX5_doStep_329 rfl ?_
                            obtain ⟨rfl, rfl⟩ := am_inj2 hs
                            exact av_iret C hr hlocks dX5_doStep_330
                          · rw [if_neg hk11] at hs
                            by_cases hk12 : x5 = 12
                            · rw [if_pos hk12] at hs
                              refine av_swi (pc := 94) (k := 12) (tgt := 293) C dX5_doStep_94 (by rw [hk12]; rfl) (by decide) rfl (by decide) ?_
                              refine av_aload_n (pc := 293) (j := 5) C dX5_doStep_293 rfl rfl ?_
                              refine av_getR (pc := 294) (k := 2) (r := 4) C fl_X5_56 sk_7 rfl dX5_doStep_294 ?_
                              refine av_iload (pc := 297) (j := 2) C dX5_doStep_297 rfl ?_
                              refine av_lload (pc := 299) (j := 1) C dX5_doStep_299 rfl ?_
                              refine av_iconst (pc := 301) C dX5_doStep_301 rfl ?_
                              obtain ⟨x54, S53, hc55, hs⟩ := am_b2_of hs
                              refine av_eq (st2 := [am_I 5, am_J x17, am_I x14, am_R 4]) rfl rfl rfl rfl (av_callV (pc := 302) (as := [am_I x14, am_J x17, am_I 5]) (rest := []) C (ct_X6_add l G x14 x17 5 S20 x54 S53 hc55) ym_X6_add si_X5_163 im_X6_add se_X6_add sk_4 rfl ⟨Nat.le_of_ble_eq_true rfl, Nat.le_of_ble_eq_true rfl⟩ rfl rfl (Nat.le_of_ble_eq_true rfl) dX5_doStep_302 ⟨Nat.le_refl _, Nat.le_refl _⟩ (fun hrv => av_eq (st2 := [am_I x54]) rfl rfl rfl rfl ?_))
                              refine av_pop (pc := 305) C dX5_doStep_305 rfl ?_
                              refine av_goto (pc := 306) (tgt := 329) C dX5_doStep_306 (by decide) ?_
                              refine av_iconst (pc := 329) C dX5_doStep_329 rfl ?_
                              obtain ⟨rfl, rfl⟩ := am_inj2 hs
                              exact av_iret C hr hlocks dX5_doStep_330
                            · rw [if_neg hk12] at hs
                              by_cases hk13 : x5 = 13
                              · rw [if_pos hk13] at hs
                                refine av_swi (pc := 94) (k := 13) (tgt := 309) C dX5_doStep_94 (by rw [hk13]; rfl) (by decide) rfl (by decide) ?_
                                refine av_aload_n (pc := 309) (j := 5) C dX5_doStep_309 rfl rfl ?_
                                refine av_iload_n (pc := 310) (j := 6) C dX5_doStep_310 rfl rfl ?_
                                refine av_iload (pc := 311) (j := 2) C dX5_doStep_311 rfl ?_
                                obtain ⟨S56, hc57, hs⟩ := am_b1_of hs
                                refine av_eq (st2 := [am_I x14, am_I a1, am_R 7]) rfl rfl rfl rfl (av_callV (pc := 313) (as := [am_I a1, am_I x14]) (rest := []) C (ct_X5_jumpIfZero l G a1 x14 S20 S56 hc57) ym_X5_jumpIfZero si_X5_168 im_X5_jumpIfZero se_X5_jumpIfZero sk_7 rfl ⟨Nat.le_of_ble_eq_true rfl, Nat.le_of_ble_eq_true rfl⟩ rfl rfl (Nat.le_of_ble_eq_true rfl) dX5_doStep_313 ⟨Nat.le_refl _, Nat.le_refl _⟩ (fun hrv => av_eq (st2 := []) rfl rfl rfl rfl ?_))
                                refine av_goto (pc := 316) (tgt := 329) C dX5_doStep_316 (by decide) ?_
                                refine av_iconst (pc := 329) C dX5_doStep_329 rfl ?_
                                obtain ⟨rfl, rfl⟩ := am_inj2 hs
                                exact av_iret C hr hlocks dX5_doStep_330
                              · rw [if_neg hk13] at hs
                                by_cases hk14 : x5 = 14
                                · rw [if_pos hk14] at hs
                                  refine av_swi (pc := 94) (k := 14) (tgt := 319) C dX5_doStep_94 (by rw [hk14]; rfl) (by decide) rfl (by decide) ?_
                                  refine av_aload_n (pc := 319) (j := 5) C dX5_doStep_319 rfl rfl ?_
                                  refine av_iload_n (pc := 320) (j := 6) C dX5_doStep_320 rfl rfl ?_
                                  refine av_iload (pc := 321) (j := 2) C dX5_doStep_321 rfl ?_
                                  obtain ⟨S58, hc59, hs⟩ := am_b1_of hs
                                  refine av_eq (st2 := [am_I x14, am_I a1, am_R 7]) rfl rfl rfl rfl (av_callV (pc := 323) (as := [am_I a1, am_I x14]) (rest := []) C (ct_X5_jumpIfAbove l G a1 x14 S20 S58 hc59) ym_X5_jumpIfAbove si_X5_171 im_X5_jumpIfAbove se_X5_jumpIfAbove sk_7 rfl ⟨Nat.le_of_ble_eq_true rfl, Nat.le_of_ble_eq_true rfl⟩ rfl rfl (Nat.le_of_ble_eq_true rfl) dX5_doStep_323 ⟨Nat.le_refl _, Nat.le_refl _⟩ (fun hrv => av_eq (st2 := []) rfl rfl rfl rfl ?_))
                                  refine av_goto (pc := 326) (tgt := 329) C dX5_doStep_326 (by decide) ?_
                                  refine av_iconst (pc := 329) C dX5_doStep_329 rfl ?_
                                  obtain ⟨rfl, rfl⟩ := am_inj2 hs
                                  exact av_iret C hr hlocks dX5_doStep_330
                                · rw [if_neg hk14] at hs
                                  refine av_swo (pc := 94) (tgt := 329) C dX5_doStep_94 (by omega) (by decide) ?_
                                  exact hdef23 hs
  · rw [if_neg hc] at hs
    refine av_aload_n (pc := 77) (j := 5) C dX5_doStep_77 rfl rfl ?_
    refine av_getR (pc := 78) (k := 6) (r := 36) C fl_X5_23 sk_7 rfl dX5_doStep_78 ?_
    refine av_iload_n (pc := 81) (j := 6) C dX5_doStep_81 rfl rfl ?_
    refine av_iconst (pc := 82) C dX5_doStep_82 rfl ?_
    refine av_iload (pc := 83) (j := 0) C dX5_doStep_83 rfl ?_
    obtain ⟨x61, S60, hc62, hs⟩ := am_b2_of hs
    refine av_eq (st2 := [am_I x21, am_I 0, am_I a1, am_R 36]) rfl rfl rfl rfl (av_callS (pc := 85) (as := [am_I 0, am_I x21]) (rest := [am_I a1, am_R 36]) C (ct_X8_of l G 0 x21 S20 x61 S60 hc62) ym_X8_of si_X5_147 st_X8_of ⟨Nat.le_of_ble_eq_true rfl, Nat.le_of_ble_eq_true rfl⟩ rfl rfl (Nat.le_of_ble_eq_true rfl) dX5_doStep_85 ⟨Nat.le_refl _, Nat.le_refl _⟩ (fun hrv => av_eq (st2 := [am_J x61, am_I a1, am_R 36]) rfl rfl rfl rfl ?_))
    obtain ⟨S63, hc64, hs⟩ := am_b1_of hs
    refine av_eq (st2 := [am_J x61, am_I a1, am_R 36]) rfl rfl rfl rfl (av_callV (pc := 88) (as := [am_I a1, am_J x61]) (rest := []) C (ct_X4_put l G 36 69 101 sk_36 sk_69 rfl a1 x61 S60 S63 hc64) ym_X4_put si_X5_78 im_X4_put se_X4_put sk_36 rfl ⟨Nat.le_of_ble_eq_true rfl, Nat.le_of_ble_eq_true rfl⟩ rfl rfl (Nat.le_of_ble_eq_true rfl) dX5_doStep_88 ⟨Nat.le_refl _, Nat.le_refl _⟩ (fun hrv => av_eq (st2 := []) rfl rfl rfl rfl ?_))
    refine av_iconst (pc := 91) C dX5_doStep_91 rfl ?_
    obtain ⟨rfl, rfl⟩ := am_inj2 hs
    exact av_iret C hr hlocks dX5_doStep_92
set_option maxHeartbeats 4000000 in
set_option maxRecDepth 100000 in
theorem ct_X5_giveZero (l : Launch) (G : am_G) (a1 : Int) (S : am_S) (x : Int) (SZ : am_S) (hs : sf_X5_giveZero a1 S = some (x, SZ)) : am_met l yX5_giveZero cX5_giveZero 2 (some .int) 1 23 G [am_R 7, am_I a1] S (some (am_I x)) SZ := by
  refine am_enter ym_X5_giveZero (Nat.le_of_ble_eq_true rfl) ?_
  intro p e s m args below meth c C hr hlocks
  refine av_eq (lv2 := [(0, am_R 7), (1, am_I a1)]) rfl rfl rfl rfl ?_
  unfold sf_X5_giveZero at hs
  refine av_aload_n (pc := 0) (j := 0) C dX5_giveZero_0 rfl rfl ?_
  refine av_getR (pc := 1) (k := 6) (r := 36) C fl_X5_23 sk_7 rfl dX5_giveZero_1 ?_
  refine av_iload_n (pc := 4) (j := 1) C dX5_giveZero_4 rfl rfl ?_
  refine av_iconst (pc := 5) C dX5_giveZero_5 rfl ?_
  refine av_iconst (pc := 6) C dX5_giveZero_6 rfl ?_
  obtain ⟨x2, S1, hc3, hs⟩ := am_b2_of hs
  refine av_eq (st2 := [am_I 0, am_I 0, am_I a1, am_R 36]) rfl rfl rfl rfl (av_callS (pc := 7) (as := [am_I 0, am_I 0]) (rest := [am_I a1, am_R 36]) C (ct_X8_of l G 0 0 S x2 S1 hc3) ym_X8_of si_X5_147 st_X8_of ⟨Nat.le_of_ble_eq_true rfl, Nat.le_of_ble_eq_true rfl⟩ rfl rfl (Nat.le_of_ble_eq_true rfl) dX5_giveZero_7 ⟨Nat.le_refl _, Nat.le_refl _⟩ (fun hrv => av_eq (st2 := [am_J x2, am_I a1, am_R 36]) rfl rfl rfl rfl ?_))
  obtain ⟨S4, hc5, hs⟩ := am_b1_of hs
  refine av_eq (st2 := [am_J x2, am_I a1, am_R 36]) rfl rfl rfl rfl (av_callV (pc := 10) (as := [am_I a1, am_J x2]) (rest := []) C (ct_X4_put l G 36 69 101 sk_36 sk_69 rfl a1 x2 S1 S4 hc5) ym_X4_put si_X5_78 im_X4_put se_X4_put sk_36 rfl ⟨Nat.le_of_ble_eq_true rfl, Nat.le_of_ble_eq_true rfl⟩ rfl rfl (Nat.le_of_ble_eq_true rfl) dX5_giveZero_10 ⟨Nat.le_refl _, Nat.le_refl _⟩ (fun hrv => av_eq (st2 := []) rfl rfl rfl rfl ?_))
  refine av_iconst (pc := 13) C dX5_giveZero_13 rfl ?_
  obtain ⟨rfl, rfl⟩ := am_inj2 hs
  exact av_iret C hr hlocks dX5_giveZero_14
set_option maxHeartbeats 4000000 in
set_option maxRecDepth 100000 in
theorem ct_X5_stop (l : Launch) (G : am_G) (a1 : Int) (S : am_S) (SZ : am_S) (hs : sf_X5_stop a1 S = some SZ) : am_met l yX5_stop cX5_stop 2 none 4 96 G [am_R 7, am_I a1] S none SZ := by
  refine am_enter ym_X5_stop (Nat.le_of_ble_eq_true rfl) ?_
  intro p e s m args below meth c C hr hlocks
  refine av_eq (lv2 := [(0, am_R 7), (1, am_I a1)]) rfl rfl rfl rfl ?_
  unfold sf_X5_stop at hs
  refine av_aload_n (pc := 0) (j := 0) C dX5_stop_0 rfl rfl ?_
  refine av_getR (pc := 1) (k := 8) (r := 38) C fl_X5_29 sk_7 rfl dX5_stop_1 ?_
  refine av_iload_n (pc := 4) (j := 1) C dX5_stop_4 rfl rfl ?_
  refine av_lconst (pc := 5) (x := 1) C dX5_stop_5 rfl rfl ?_
  obtain ⟨S1, hc2, hs⟩ := am_b1_of hs
  refine av_eq (st2 := [am_J 1, am_I a1, am_R 38]) rfl rfl rfl rfl (av_callV (pc := 6) (as := [am_I a1, am_J 1]) (rest := []) C (ct_X4_put l G 38 71 100 sk_38 sk_71 rfl a1 1 S S1 hc2) ym_X4_put si_X5_78 im_X4_put se_X4_put sk_38 rfl ⟨Nat.le_of_ble_eq_true rfl, Nat.le_of_ble_eq_true rfl⟩ rfl rfl (Nat.le_of_ble_eq_true rfl) dX5_stop_6 ⟨Nat.le_refl _, Nat.le_refl _⟩ (fun hrv => av_eq (st2 := []) rfl rfl rfl rfl ?_))
  refine av_aload_n (pc := 9) (j := 0) C dX5_stop_9 rfl rfl ?_
  refine av_aload_n (pc := 10) (j := 0) C dX5_stop_10 rfl rfl ?_
  refine av_getR (pc := 11) (k := 7) (r := 37) C fl_X5_26 sk_7 rfl dX5_stop_11 ?_
  refine av_iload_n (pc := 14) (j := 1) C dX5_stop_14 rfl rfl ?_
  obtain ⟨x4, S3, hc5, hs⟩ := am_b2_of hs
  refine av_eq (st2 := [am_I a1, am_R 37, am_R 7]) rfl rfl rfl rfl (av_callV (pc := 15) (as := [am_I a1]) (rest := [am_R 7]) C (ct_X4_at l G 37 70 101 sk_37 sk_70 rfl a1 S1 x4 S3 hc5) ym_X4_at si_X5_68 im_X4_at se_X4_at sk_37 rfl ⟨Nat.le_of_ble_eq_true rfl, Nat.le_of_ble_eq_true rfl⟩ rfl rfl (Nat.le_of_ble_eq_true rfl) dX5_stop_15 ⟨Nat.le_refl _, Nat.le_refl _⟩ (fun hrv => av_eq (st2 := [am_I x4, am_R 7]) rfl rfl rfl rfl ?_))
  obtain ⟨S6, eS6, hs⟩ := am_let_of hs
  refine av_putI (pc := 18) (k := 11) (n := 459) C fp_X5_38 sk_7 rfl rfl dX5_stop_18 ?_
  refine av_eq rfl rfl rfl eS6 ?_
  refine av_aload_n (pc := 21) (j := 0) C dX5_stop_21 rfl rfl ?_
  refine av_getR (pc := 22) (k := 1) (r := 1) C fl_X5_52 sk_7 rfl dX5_stop_22 ?_
  refine av_aload_n (pc := 25) (j := 0) C dX5_stop_25 rfl rfl ?_
  refine av_getR (pc := 26) (k := 1) (r := 1) C fl_X5_52 sk_7 rfl dX5_stop_26 ?_
  refine av_aload_n (pc := 29) (j := 0) C dX5_stop_29 rfl rfl ?_
  refine av_getR (pc := 30) (k := 6) (r := 36) C fl_X5_23 sk_7 rfl dX5_stop_30 ?_
  refine av_iload_n (pc := 33) (j := 1) C dX5_stop_33 rfl rfl ?_
  obtain ⟨x8, S7, hc9, hs⟩ := am_b2_of hs
  refine av_eq (st2 := [am_I a1, am_R 36, am_R 1, am_R 1]) rfl rfl rfl rfl (av_callV (pc := 34) (as := [am_I a1]) (rest := [am_R 1, am_R 1]) C (ct_X4_valueAt l G 36 69 101 sk_36 sk_69 rfl a1 S6 x8 S7 hc9) ym_X4_valueAt si_X5_139 im_X4_valueAt se_X4_valueAt sk_36 rfl ⟨Nat.le_of_ble_eq_true rfl, Nat.le_of_ble_eq_true rfl⟩ rfl rfl (Nat.le_of_ble_eq_true rfl) dX5_stop_34 ⟨Nat.le_refl _, Nat.le_refl _⟩ (fun hrv => av_eq (st2 := [am_J x8, am_R 1, am_R 1]) rfl rfl rfl rfl ?_))
  obtain ⟨x11, S10, hc12, hs⟩ := am_b2_of hs
  refine av_eq (st2 := [am_J x8, am_R 1, am_R 1]) rfl rfl rfl rfl (av_callV (pc := 37) (as := [am_J x8]) (rest := [am_R 1]) C (ct_X3_promiseFor l G x8 S7 x11 S10 hc12) ym_X3_promiseFor si_X5_189 im_X3_promiseFor se_X3_promiseFor sk_1 rfl ⟨Nat.le_of_ble_eq_true rfl, Nat.le_of_ble_eq_true rfl⟩ rfl rfl (Nat.le_of_ble_eq_true rfl) dX5_stop_37 ⟨Nat.le_refl _, Nat.le_refl _⟩ (fun hrv => av_eq (st2 := [am_I x11, am_R 1]) rfl rfl rfl rfl ?_))
  refine av_iload_n (pc := 40) (j := 1) C dX5_stop_40 rfl rfl ?_
  refine av_iconst (pc := 41) C dX5_stop_41 rfl ?_
  obtain ⟨x14, S13, hc15, hs⟩ := am_b2_of hs
  refine av_eq (st2 := [am_I 3, am_I a1, am_I x11, am_R 1]) rfl rfl rfl rfl (av_callSN (pc := 42) (as := [am_I a1, am_I 3]) (rest := [am_I x11, am_R 1]) C (ct_X9_jobOf l G a1 3 S10 x14 S13 hc15) ym_X9_jobOf si_X5_82 st_X9_jobOf ⟨Nat.le_of_ble_eq_true rfl, Nat.le_of_ble_eq_true rfl⟩ rfl rfl (Nat.le_of_ble_eq_true rfl) dX5_stop_42 ⟨Nat.le_refl _, Nat.le_refl _⟩ (fun hrv => av_eq (st2 := [am_I x14, am_I x11, am_R 1]) rfl rfl rfl rfl ?_))
  obtain ⟨S16, hc17, hs⟩ := am_b1_of hs
  refine av_eq (st2 := [am_I x14, am_I x11, am_R 1]) rfl rfl rfl rfl (av_callV (pc := 45) (as := [am_I x11, am_I x14]) (rest := []) C (ct_X3_waitFor l G x11 x14 S13 S16 hc17) ym_X3_waitFor si_X5_86 im_X3_waitFor se_X3_waitFor sk_1 rfl ⟨Nat.le_of_ble_eq_true rfl, Nat.le_of_ble_eq_true rfl⟩ rfl rfl (Nat.le_of_ble_eq_true rfl) dX5_stop_45 ⟨Nat.le_refl _, Nat.le_refl _⟩ (fun hrv => av_eq (st2 := []) rfl rfl rfl rfl ?_))
  obtain rfl := am_inj1 hs
  exact av_vret C hr hlocks dX5_stop_48
