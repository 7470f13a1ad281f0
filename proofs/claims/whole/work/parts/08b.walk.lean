set_option maxHeartbeats 4000000 in
set_option maxRecDepth 100000 in
theorem ct_X1_settleIfComplete (l : Launch) (G : am_G) (a1 : Int) (S : am_S) (SZ : am_S) (hs : sf_X1_settleIfComplete a1 S = some SZ) : am_met l yX1_settleIfComplete cX1_settleIfComplete 2 none 3 73 G [am_R 6, am_I a1] S none SZ := by
  refine am_enter ym_X1_settleIfComplete (Nat.le_of_ble_eq_true rfl) ?_
  intro p e s m args below meth c C hr hlocks
  refine av_eq (lv2 := [(0, am_R 6), (1, am_I a1)]) rfl rfl rfl rfl ?_
  unfold sf_X1_settleIfComplete at hs
  refine av_aload_n (pc := 0) (j := 0) C dX1_settleIfComplete_0 rfl rfl ?_
  refine av_getR (pc := 1) (k := 2) (r := 32) C fl_X1_23 sk_6 rfl dX1_settleIfComplete_1 ?_
  refine av_iload_n (pc := 4) (j := 1) C dX1_settleIfComplete_4 rfl rfl ?_
  obtain ⟨x2, S1, hc3, hs⟩ := am_b2_of hs
  refine av_eq (st2 := [am_I a1, am_R 32]) rfl rfl rfl rfl (av_callV (pc := 5) (as := [am_I a1]) (rest := []) C (ct_X4_at l G 32 65 100 sk_32 sk_65 rfl a1 S x2 S1 hc3) ym_X4_at si_X1_74 im_X4_at se_X4_at sk_32 rfl ⟨Nat.le_of_ble_eq_true rfl, Nat.le_of_ble_eq_true rfl⟩ rfl rfl (Nat.le_of_ble_eq_true rfl) dX1_settleIfComplete_5 ⟨Nat.le_refl _, Nat.le_refl _⟩ (fun hrv => av_eq (st2 := [am_I x2]) rfl rfl rfl rfl ?_))
  refine av_if_gt (pc := 8) (tgt := 23) C dX1_settleIfComplete_8 (by decide) (fun hc => ?_) (fun hc => ?_)
  · rw [if_pos hc] at hs
    obtain rfl := am_inj1 hs
    exact av_vret C hr hlocks dX1_settleIfComplete_23
  · rw [if_neg hc] at hs
    refine av_aload_n (pc := 11) (j := 0) C dX1_settleIfComplete_11 rfl rfl ?_
    refine av_getR (pc := 12) (k := 1) (r := 31) C fl_X1_20 sk_6 rfl dX1_settleIfComplete_12 ?_
    refine av_iload_n (pc := 15) (j := 1) C dX1_settleIfComplete_15 rfl rfl ?_
    obtain ⟨x5, S4, hc6, hs⟩ := am_b2_of hs
    refine av_eq (st2 := [am_I a1, am_R 31]) rfl rfl rfl rfl (av_callV (pc := 16) (as := [am_I a1]) (rest := []) C (ct_X4_at l G 31 64 100 sk_31 sk_64 rfl a1 S1 x5 S4 hc6) ym_X4_at si_X1_74 im_X4_at se_X4_at sk_31 rfl ⟨Nat.le_of_ble_eq_true rfl, Nat.le_of_ble_eq_true rfl⟩ rfl rfl (Nat.le_of_ble_eq_true rfl) dX1_settleIfComplete_16 ⟨Nat.le_refl _, Nat.le_refl _⟩ (fun hrv => av_eq (st2 := [am_I x5]) rfl rfl rfl rfl ?_))
    refine av_iconst (pc := 19) C dX1_settleIfComplete_19 rfl ?_
    refine av_icmp_ne (pc := 20) (tgt := 24) C dX1_settleIfComplete_20 (by decide) (fun hc => ?_) (fun hc => ?_)
    · rw [if_neg hc] at hs
      refine av_aload_n (pc := 24) (j := 0) C dX1_settleIfComplete_24 rfl rfl ?_
      refine av_getR (pc := 25) (k := 1) (r := 31) C fl_X1_20 sk_6 rfl dX1_settleIfComplete_25 ?_
      refine av_iload_n (pc := 28) (j := 1) C dX1_settleIfComplete_28 rfl rfl ?_
      obtain ⟨x8, S7, hc9, hs⟩ := am_b2_of hs
      refine av_eq (st2 := [am_I a1, am_R 31]) rfl rfl rfl rfl (av_callV (pc := 29) (as := [am_I a1]) (rest := []) C (ct_X4_at l G 31 64 100 sk_31 sk_64 rfl a1 S4 x8 S7 hc9) ym_X4_at si_X1_74 im_X4_at se_X4_at sk_31 rfl ⟨Nat.le_of_ble_eq_true rfl, Nat.le_of_ble_eq_true rfl⟩ rfl rfl (Nat.le_of_ble_eq_true rfl) dX1_settleIfComplete_29 ⟨Nat.le_refl _, Nat.le_refl _⟩ (fun hrv => av_eq (st2 := [am_I x8]) rfl rfl rfl rfl ?_))
      refine av_iconst (pc := 32) C dX1_settleIfComplete_32 rfl ?_
      refine av_icmp_ne (pc := 33) (tgt := 55) C dX1_settleIfComplete_33 (by decide) (fun hc => ?_) (fun hc => ?_)
      · rw [if_neg hc] at hs
        refine av_aload_n (pc := 55) (j := 0) C dX1_settleIfComplete_55 rfl rfl ?_
        refine av_getR (pc := 56) (k := 4) (r := 1) C fl_X1_33 sk_6 rfl dX1_settleIfComplete_56 ?_
        refine av_iload_n (pc := 59) (j := 1) C dX1_settleIfComplete_59 rfl rfl ?_
        refine av_iconst (pc := 60) C dX1_settleIfComplete_60 rfl ?_
        refine av_iconst (pc := 61) C dX1_settleIfComplete_61 rfl ?_
        refine av_aload_n (pc := 62) (j := 0) C dX1_settleIfComplete_62 rfl rfl ?_
        refine av_getR (pc := 63) (k := 3) (r := 33) C fl_X1_26 sk_6 rfl dX1_settleIfComplete_63 ?_
        refine av_iload_n (pc := 66) (j := 1) C dX1_settleIfComplete_66 rfl rfl ?_
        obtain ⟨x11, S10, hc12, hs⟩ := am_b2_of hs
        refine av_eq (st2 := [am_I a1, am_R 33, am_I 0, am_I 1, am_I a1, am_R 1]) rfl rfl rfl rfl (av_callV (pc := 67) (as := [am_I a1]) (rest := [am_I 0, am_I 1, am_I a1, am_R 1]) C (ct_X4_at l G 33 66 100 sk_33 sk_66 rfl a1 S7 x11 S10 hc12) ym_X4_at si_X1_74 im_X4_at se_X4_at sk_33 rfl ⟨Nat.le_of_ble_eq_true rfl, Nat.le_of_ble_eq_true rfl⟩ rfl rfl (Nat.le_of_ble_eq_true rfl) dX1_settleIfComplete_67 ⟨Nat.le_refl _, Nat.le_refl _⟩ (fun hrv => av_eq (st2 := [am_I x11, am_I 0, am_I 1, am_I a1, am_R 1]) rfl rfl rfl rfl ?_))
        obtain ⟨x14, S13, hc15, hs⟩ := am_b2_of hs
        refine av_eq (st2 := [am_I x11, am_I 0, am_I 1, am_I a1, am_R 1]) rfl rfl rfl rfl (av_callS (pc := 70) (as := [am_I 0, am_I x11]) (rest := [am_I 1, am_I a1, am_R 1]) C (ct_X8_of l G 0 x11 S10 x14 S13 hc15) ym_X8_of si_X1_85 st_X8_of ⟨Nat.le_of_ble_eq_true rfl, Nat.le_of_ble_eq_true rfl⟩ rfl rfl (Nat.le_of_ble_eq_true rfl) dX1_settleIfComplete_70 ⟨Nat.le_refl _, Nat.le_refl _⟩ (fun hrv => av_eq (st2 := [am_J x14, am_I 1, am_I a1, am_R 1]) rfl rfl rfl rfl ?_))
        refine av_iconst (pc := 73) C dX1_settleIfComplete_73 rfl ?_
        obtain ⟨S16, hc17, hs⟩ := am_b1_of hs
        refine av_eq (st2 := [am_I 0, am_J x14, am_I 1, am_I a1, am_R 1]) rfl rfl rfl rfl (av_callV (pc := 74) (as := [am_I a1, am_I 1, am_J x14, am_I 0]) (rest := []) C (ct_X3_settleBy l G a1 1 x14 0 S13 S16 hc17) ym_X3_settleBy si_X1_81 im_X3_settleBy se_X3_settleBy sk_1 rfl ⟨Nat.le_of_ble_eq_true rfl, Nat.le_of_ble_eq_true rfl⟩ rfl rfl (Nat.le_of_ble_eq_true rfl) dX1_settleIfComplete_74 ⟨Nat.le_refl _, Nat.le_refl _⟩ (fun hrv => av_eq (st2 := []) rfl rfl rfl rfl ?_))
        obtain rfl := am_inj1 hs
        exact av_vret C hr hlocks dX1_settleIfComplete_77
      · rw [if_pos (Decidable.not_not.mp hc)] at hs
        refine av_aload_n (pc := 36) (j := 0) C dX1_settleIfComplete_36 rfl rfl ?_
        refine av_getR (pc := 37) (k := 4) (r := 1) C fl_X1_33 sk_6 rfl dX1_settleIfComplete_37 ?_
        refine av_iload_n (pc := 40) (j := 1) C dX1_settleIfComplete_40 rfl rfl ?_
        refine av_iconst (pc := 41) C dX1_settleIfComplete_41 rfl ?_
        refine av_iconst (pc := 42) C dX1_settleIfComplete_42 rfl ?_
        refine av_bipush (pc := 43) C dX1_settleIfComplete_43 rfl ?_
        obtain ⟨x19, S18, hc20, hs⟩ := am_b2_of hs
        refine av_eq (st2 := [am_I (-5), am_I 0, am_I 2, am_I a1, am_R 1]) rfl rfl rfl rfl (av_callS (pc := 45) (as := [am_I 0, am_I (-5)]) (rest := [am_I 2, am_I a1, am_R 1]) C (ct_X8_of l G 0 (-5) S7 x19 S18 hc20) ym_X8_of si_X1_85 st_X8_of ⟨Nat.le_of_ble_eq_true rfl, Nat.le_of_ble_eq_true rfl⟩ rfl rfl (Nat.le_of_ble_eq_true rfl) dX1_settleIfComplete_45 ⟨Nat.le_refl _, Nat.le_refl _⟩ (fun hrv => av_eq (st2 := [am_J x19, am_I 2, am_I a1, am_R 1]) rfl rfl rfl rfl ?_))
        refine av_iconst (pc := 48) C dX1_settleIfComplete_48 rfl ?_
        obtain ⟨S21, hc22, hs⟩ := am_b1_of hs
        refine av_eq (st2 := [am_I 0, am_J x19, am_I 2, am_I a1, am_R 1]) rfl rfl rfl rfl (av_callV (pc := 49) (as := [am_I a1, am_I 2, am_J x19, am_I 0]) (rest := []) C (ct_X3_settleBy l G a1 2 x19 0 S18 S21 hc22) ym_X3_settleBy si_X1_81 im_X3_settleBy se_X3_settleBy sk_1 rfl ⟨Nat.le_of_ble_eq_true rfl, Nat.le_of_ble_eq_true rfl⟩ rfl rfl (Nat.le_of_ble_eq_true rfl) dX1_settleIfComplete_49 ⟨Nat.le_refl _, Nat.le_refl _⟩ (fun hrv => av_eq (st2 := []) rfl rfl rfl rfl ?_))
        refine av_goto (pc := 52) (tgt := 77) C dX1_settleIfComplete_52 (by decide) ?_
        obtain rfl := am_inj1 hs
        exact av_vret C hr hlocks dX1_settleIfComplete_77
    · rw [if_pos (Decidable.not_not.mp hc)] at hs
      obtain rfl := am_inj1 hs
      exact av_vret C hr hlocks dX1_settleIfComplete_23
set_option maxHeartbeats 4000000 in
set_option maxRecDepth 100000 in
theorem ct_X3_make (l : Launch) (G : am_G) (S : am_S) (x : Int) (SZ : am_S) (hs : sf_X3_make  S = some (x, SZ)) : am_met l yX3_make cX3_make 2 (some .int) 1 23 G [am_R 1] S (some (am_I x)) SZ := by
  refine am_enter ym_X3_make (Nat.le_of_ble_eq_true rfl) ?_
  intro p e s m args below meth c C hr hlocks
  refine av_eq (lv2 := [(0, am_R 1)]) rfl rfl rfl rfl ?_
  unfold sf_X3_make at hs
  refine av_aload_n (pc := 0) (j := 0) C dX3_make_0 rfl rfl ?_
  refine av_getI (pc := 1) (k := 11) (n := 75) C fl_X3_50 sk_1 rfl rfl dX3_make_1 ?_
  refine av_istore_n (pc := 4) (i := 1) (lv2 := [(1, am_I (S.1 75)), (0, am_R 1)]) C dX3_make_4 rfl (by decide) rfl ?_
  refine av_aload_n (pc := 5) (j := 1) C dX3_make_5 rfl rfl ?_
  refine av_getR (pc := 6) (k := 0) (r := 8) C fl_X3_14 sk_1 rfl dX3_make_6 ?_
  refine av_iload_n (pc := 9) (j := 0) C dX3_make_9 rfl rfl ?_
  refine av_lconst (pc := 10) (x := 0) C dX3_make_10 rfl rfl ?_
  obtain ⟨S1, hc2, hs⟩ := am_b1_of hs
  refine av_eq (st2 := [am_J 0, am_I (S.1 75), am_R 8]) rfl rfl rfl rfl (av_callV (pc := 11) (as := [am_I (S.1 75), am_J 0]) (rest := []) C (ct_X4_put l G 8 41 100 sk_8 sk_41 rfl (S.1 75) 0 S S1 hc2) ym_X4_put si_X3_79 im_X4_put se_X4_put sk_8 rfl ⟨Nat.le_of_ble_eq_true rfl, Nat.le_of_ble_eq_true rfl⟩ rfl rfl (Nat.le_of_ble_eq_true rfl) dX3_make_11 ⟨Nat.le_refl _, Nat.le_refl _⟩ (fun hrv => av_eq (st2 := []) rfl rfl rfl rfl ?_))
  refine av_aload_n (pc := 14) (j := 1) C dX3_make_14 rfl rfl ?_
  refine av_getR (pc := 15) (k := 1) (r := 9) C fl_X3_20 sk_1 rfl dX3_make_15 ?_
  refine av_iload_n (pc := 18) (j := 0) C dX3_make_18 rfl rfl ?_
  refine av_lconst (pc := 19) (x := 0) C dX3_make_19 rfl rfl ?_
  obtain ⟨S3, hc4, hs⟩ := am_b1_of hs
  refine av_eq (st2 := [am_J 0, am_I (S.1 75), am_R 9]) rfl rfl rfl rfl (av_callV (pc := 20) (as := [am_I (S.1 75), am_J 0]) (rest := []) C (ct_X4_put l G 9 42 100 sk_9 sk_42 rfl (S.1 75) 0 S1 S3 hc4) ym_X4_put si_X3_79 im_X4_put se_X4_put sk_9 rfl ⟨Nat.le_of_ble_eq_true rfl, Nat.le_of_ble_eq_true rfl⟩ rfl rfl (Nat.le_of_ble_eq_true rfl) dX3_make_20 ⟨Nat.le_refl _, Nat.le_refl _⟩ (fun hrv => av_eq (st2 := []) rfl rfl rfl rfl ?_))
  refine av_aload_n (pc := 23) (j := 1) C dX3_make_23 rfl rfl ?_
  refine av_getR (pc := 24) (k := 2) (r := 10) C fl_X3_23 sk_1 rfl dX3_make_24 ?_
  refine av_iload_n (pc := 27) (j := 0) C dX3_make_27 rfl rfl ?_
  refine av_lconst (pc := 28) (x := 0) C dX3_make_28 rfl rfl ?_
  obtain ⟨S5, hc6, hs⟩ := am_b1_of hs
  refine av_eq (st2 := [am_J 0, am_I (S.1 75), am_R 10]) rfl rfl rfl rfl (av_callV (pc := 29) (as := [am_I (S.1 75), am_J 0]) (rest := []) C (ct_X4_put l G 10 43 100 sk_10 sk_43 rfl (S.1 75) 0 S3 S5 hc6) ym_X4_put si_X3_79 im_X4_put se_X4_put sk_10 rfl ⟨Nat.le_of_ble_eq_true rfl, Nat.le_of_ble_eq_true rfl⟩ rfl rfl (Nat.le_of_ble_eq_true rfl) dX3_make_29 ⟨Nat.le_refl _, Nat.le_refl _⟩ (fun hrv => av_eq (st2 := []) rfl rfl rfl rfl ?_))
  refine av_aload_n (pc := 32) (j := 1) C dX3_make_32 rfl rfl ?_
  refine av_getR (pc := 33) (k := 3) (r := 11) C fl_X3_26 sk_1 rfl dX3_make_33 ?_
  refine av_iload_n (pc := 36) (j := 0) C dX3_make_36 rfl rfl ?_
  refine av_lconst (pc := 37) (x := 0) C dX3_make_37 rfl rfl ?_
  obtain ⟨S7, hc8, hs⟩ := am_b1_of hs
  refine av_eq (st2 := [am_J 0, am_I (S.1 75), am_R 11]) rfl rfl rfl rfl (av_callV (pc := 38) (as := [am_I (S.1 75), am_J 0]) (rest := []) C (ct_X4_put l G 11 44 100 sk_11 sk_44 rfl (S.1 75) 0 S5 S7 hc8) ym_X4_put si_X3_79 im_X4_put se_X4_put sk_11 rfl ⟨Nat.le_of_ble_eq_true rfl, Nat.le_of_ble_eq_true rfl⟩ rfl rfl (Nat.le_of_ble_eq_true rfl) dX3_make_38 ⟨Nat.le_refl _, Nat.le_refl _⟩ (fun hrv => av_eq (st2 := []) rfl rfl rfl rfl ?_))
  refine av_aload_n (pc := 41) (j := 1) C dX3_make_41 rfl rfl ?_
  refine av_getR (pc := 42) (k := 4) (r := 12) C fl_X3_29 sk_1 rfl dX3_make_42 ?_
  refine av_iload_n (pc := 45) (j := 0) C dX3_make_45 rfl rfl ?_
  refine av_lconst (pc := 46) (x := 0) C dX3_make_46 rfl rfl ?_
  obtain ⟨S9, hc10, hs⟩ := am_b1_of hs
  refine av_eq (st2 := [am_J 0, am_I (S.1 75), am_R 12]) rfl rfl rfl rfl (av_callV (pc := 47) (as := [am_I (S.1 75), am_J 0]) (rest := []) C (ct_X4_put l G 12 45 100 sk_12 sk_45 rfl (S.1 75) 0 S7 S9 hc10) ym_X4_put si_X3_79 im_X4_put se_X4_put sk_12 rfl ⟨Nat.le_of_ble_eq_true rfl, Nat.le_of_ble_eq_true rfl⟩ rfl rfl (Nat.le_of_ble_eq_true rfl) dX3_make_47 ⟨Nat.le_refl _, Nat.le_refl _⟩ (fun hrv => av_eq (st2 := []) rfl rfl rfl rfl ?_))
  refine av_aload_n (pc := 50) (j := 1) C dX3_make_50 rfl rfl ?_
  refine av_getR (pc := 51) (k := 6) (r := 14) C fl_X3_35 sk_1 rfl dX3_make_51 ?_
  refine av_iload_n (pc := 54) (j := 0) C dX3_make_54 rfl rfl ?_
  refine av_lconst (pc := 55) (x := 0) C dX3_make_55 rfl rfl ?_
  obtain ⟨S11, hc12, hs⟩ := am_b1_of hs
  refine av_eq (st2 := [am_J 0, am_I (S.1 75), am_R 14]) rfl rfl rfl rfl (av_callV (pc := 56) (as := [am_I (S.1 75), am_J 0]) (rest := []) C (ct_X4_put l G 14 47 100 sk_14 sk_47 rfl (S.1 75) 0 S9 S11 hc12) ym_X4_put si_X3_79 im_X4_put se_X4_put sk_14 rfl ⟨Nat.le_of_ble_eq_true rfl, Nat.le_of_ble_eq_true rfl⟩ rfl rfl (Nat.le_of_ble_eq_true rfl) dX3_make_56 ⟨Nat.le_refl _, Nat.le_refl _⟩ (fun hrv => av_eq (st2 := []) rfl rfl rfl rfl ?_))
  refine av_aload_n (pc := 59) (j := 1) C dX3_make_59 rfl rfl ?_
  refine av_dup (pc := 60) C dX3_make_60 rfl ?_
  refine av_getI (pc := 61) (k := 11) (n := 75) C fl_X3_50 sk_1 rfl rfl dX3_make_61 ?_
  refine av_iconst (pc := 64) C dX3_make_64 rfl ?_
  refine av_iadd (pc := 65) C dX3_make_65 ?_
  obtain ⟨S13, eS13, hs⟩ := am_let_of hs
  refine av_putI (pc := 66) (k := 11) (n := 75) C fp_X3_50 sk_1 rfl rfl dX3_make_66 ?_
  refine av_eq rfl rfl rfl eS13 ?_
  refine av_iload_n (pc := 69) (j := 0) C dX3_make_69 rfl rfl ?_
  obtain ⟨rfl, rfl⟩ := am_inj2 hs
  exact av_iret C hr hlocks dX3_make_70
set_option maxHeartbeats 4000000 in
set_option maxRecDepth 100000 in
theorem ct_X8_numberOf (l : Launch) (G : am_G) (a1 : Int) (S : am_S) (x : Int) (SZ : am_S) (hs : sf_X8_numberOf a1 S = some (x, SZ)) : am_met l yX8_numberOf cX8_numberOf 2 (some .int) 0 0 G [am_J a1] S (some (am_I x)) SZ := by
  refine am_enter ym_X8_numberOf (Nat.le_of_ble_eq_true rfl) ?_
  intro p e s m args below meth c C hr hlocks
  refine av_eq (lv2 := [(0, am_J a1)]) rfl rfl rfl rfl ?_
  unfold sf_X8_numberOf at hs
  refine av_lload_n (pc := 0) (j := 0) C dX8_numberOf_0 rfl rfl ?_
  refine av_l2i (pc := 1) C dX8_numberOf_1 ?_
  obtain ⟨rfl, rfl⟩ := am_inj2 hs
  exact av_iret C hr hlocks dX8_numberOf_2
set_option maxHeartbeats 4000000 in
set_option maxRecDepth 100000 in
theorem ct_X3_promiseFor (l : Launch) (G : am_G) (a1 : Int) (S : am_S) (x : Int) (SZ : am_S) (hs : sf_X3_promiseFor a1 S = some (x, SZ)) : am_met l yX3_promiseFor cX3_promiseFor 4 (some .int) 3 73 G [am_R 1, am_J a1] S (some (am_I x)) SZ := by
  refine am_enter ym_X3_promiseFor (Nat.le_of_ble_eq_true rfl) ?_
  intro p e s m args below meth c C hr hlocks
  refine av_eq (lv2 := [(0, am_R 1), (1, am_J a1)]) rfl rfl rfl rfl ?_
  unfold sf_X3_promiseFor at hs
  refine av_lload_n (pc := 0) (j := 1) C dX3_promiseFor_0 rfl rfl ?_
  obtain ⟨x2, S1, hc3, hs⟩ := am_b2_of hs
  refine av_eq (st2 := [am_J a1]) rfl rfl rfl rfl (av_callS (pc := 1) (as := [am_J a1]) (rest := []) C (ct_X8_sortOf l G a1 S x2 S1 hc3) ym_X8_sortOf si_X3_83 st_X8_sortOf ⟨Nat.le_of_ble_eq_true rfl, Nat.le_of_ble_eq_true rfl⟩ rfl rfl (Nat.le_of_ble_eq_true rfl) dX3_promiseFor_1 ⟨Nat.le_refl _, Nat.le_refl _⟩ (fun hrv => av_eq (st2 := [am_I x2]) rfl rfl rfl rfl ?_))
  refine av_iconst (pc := 4) C dX3_promiseFor_4 rfl ?_
  refine av_icmp_ne (pc := 5) (tgt := 13) C dX3_promiseFor_5 (by decide) (fun hc => ?_) (fun hc => ?_)
  · rw [if_neg hc] at hs
    refine av_aload_n (pc := 13) (j := 0) C dX3_promiseFor_13 rfl rfl ?_
    obtain ⟨x5, S4, hc6, hs⟩ := am_b2_of hs
    refine av_eq (st2 := [am_R 1]) rfl rfl rfl rfl (av_callV (pc := 14) (as := []) (rest := []) C (ct_X3_make l G  S1 x5 S4 hc6) ym_X3_make si_X3_92 im_X3_make se_X3_make sk_1 rfl ⟨Nat.le_of_ble_eq_true rfl, Nat.le_of_ble_eq_true rfl⟩ rfl rfl (Nat.le_of_ble_eq_true rfl) dX3_promiseFor_14 ⟨Nat.le_refl _, Nat.le_refl _⟩ (fun hrv => av_eq (st2 := [am_I x5]) rfl rfl rfl rfl ?_))
    refine av_istore_n (pc := 17) (i := 3) (lv2 := [(3, am_I x5), (0, am_R 1), (1, am_J a1)]) C dX3_promiseFor_17 rfl (by decide) rfl ?_
    refine av_aload_n (pc := 18) (j := 1) C dX3_promiseFor_18 rfl rfl ?_
    refine av_iload_n (pc := 19) (j := 0) C dX3_promiseFor_19 rfl rfl ?_
    refine av_iconst (pc := 20) C dX3_promiseFor_20 rfl ?_
    refine av_lload_n (pc := 21) (j := 2) C dX3_promiseFor_21 rfl rfl ?_
    refine av_iconst (pc := 22) C dX3_promiseFor_22 rfl ?_
    obtain ⟨S7, hc8, hs⟩ := am_b1_of hs
    refine av_eq (st2 := [am_I 0, am_J a1, am_I 1, am_I x5, am_R 1]) rfl rfl rfl rfl (av_callV (pc := 23) (as := [am_I x5, am_I 1, am_J a1, am_I 0]) (rest := []) C (ct_X3_settleBy l G x5 1 a1 0 S4 S7 hc8) ym_X3_settleBy si_X3_96 im_X3_settleBy se_X3_settleBy sk_1 rfl ⟨Nat.le_of_ble_eq_true rfl, Nat.le_of_ble_eq_true rfl⟩ rfl rfl (Nat.le_of_ble_eq_true rfl) dX3_promiseFor_23 ⟨Nat.le_refl _, Nat.le_refl _⟩ (fun hrv => av_eq (st2 := []) rfl rfl rfl rfl ?_))
    refine av_iload_n (pc := 26) (j := 0) C dX3_promiseFor_26 rfl rfl ?_
    obtain ⟨rfl, rfl⟩ := am_inj2 hs
    exact av_iret C hr hlocks dX3_promiseFor_27
  · rw [if_pos (Decidable.not_not.mp hc)] at hs
    refine av_lload_n (pc := 8) (j := 1) C dX3_promiseFor_8 rfl rfl ?_
    obtain ⟨x10, S9, hc11, hs⟩ := am_b2_of hs
    refine av_eq (st2 := [am_J a1]) rfl rfl rfl rfl (av_callS (pc := 9) (as := [am_J a1]) (rest := []) C (ct_X8_numberOf l G a1 S1 x10 S9 hc11) ym_X8_numberOf si_X3_89 st_X8_numberOf ⟨Nat.le_of_ble_eq_true rfl, Nat.le_of_ble_eq_true rfl⟩ rfl rfl (Nat.le_of_ble_eq_true rfl) dX3_promiseFor_9 ⟨Nat.le_refl _, Nat.le_refl _⟩ (fun hrv => av_eq (st2 := [am_I x10]) rfl rfl rfl rfl ?_))
    obtain ⟨rfl, rfl⟩ := am_inj2 hs
    exact av_iret C hr hlocks dX3_promiseFor_12
set_option maxHeartbeats 4000000 in
set_option maxRecDepth 100000 in
theorem wk_X3_waitFor_81 {p : Program} {l : Launch} {e : Env} {s : State} {m : MethodId} {args : Array Value} {below : List Frame} {meth : Method} {c : Code} {G : am_G} (C : am_C p s m args c cX3_waitFor 4 RX3 G) (hr : meth.sig.returnType = none) (hlocks : meth.locks = false) (b1 : Int) (b2 : Int) (b3 : Int) (S : am_S) (SZ : am_S) (hs : sf_X3_waitFor_81 b1 b2 b3 S = some SZ) : am_V p l e (am_rm 2 46) s m args below meth c (MQ below (am_Q G none SZ) args s 0 0 (am_A G)) G (am_A G) s.heap 4 0 0 81 [(0, am_R 1), (1, am_I b1), (2, am_I b2), (3, am_I b3)] [] S := by
  unfold sf_X3_waitFor_81 at hs
  refine av_aload_n (pc := 81) (j := 0) C dX3_waitFor_81 rfl rfl ?_
  refine av_getR (pc := 82) (k := 8) (r := 16) C fl_X3_41 sk_1 rfl dX3_waitFor_82 ?_
  refine av_iload_n (pc := 85) (j := 1) C dX3_waitFor_85 rfl rfl ?_
  refine av_iload_n (pc := 86) (j := 2) C dX3_waitFor_86 rfl rfl ?_
  refine av_i2l (pc := 87) C dX3_waitFor_87 ?_
  obtain ⟨S20, hc21, hs⟩ := am_b1_of hs
  refine av_eq (st2 := [am_J b2, am_I b1, am_R 16]) rfl rfl rfl rfl (av_callV (pc := 88) (as := [am_I b1, am_J b2]) (rest := []) C (ct_X4_put l G 16 49 100 sk_16 sk_49 rfl b1 b2 S S20 hc21) ym_X4_put si_X3_79 im_X4_put se_X4_put sk_16 rfl ⟨Nat.le_of_ble_eq_true rfl, Nat.le_of_ble_eq_true rfl⟩ rfl rfl (Nat.le_of_ble_eq_true rfl) dX3_waitFor_88 ⟨Nat.le_refl _, Nat.le_refl _⟩ (fun hrv => av_eq (st2 := []) rfl rfl rfl rfl ?_))
  refine av_aload_n (pc := 91) (j := 0) C dX3_waitFor_91 rfl rfl ?_
  refine av_getR (pc := 92) (k := 6) (r := 14) C fl_X3_35 sk_1 rfl dX3_waitFor_92 ?_
  refine av_iload_n (pc := 95) (j := 1) C dX3_waitFor_95 rfl rfl ?_
  refine av_iload_n (pc := 96) (j := 3) C dX3_waitFor_96 rfl rfl ?_
  refine av_iconst (pc := 97) C dX3_waitFor_97 rfl ?_
  refine av_iadd (pc := 98) C dX3_waitFor_98 ?_
  refine av_i2l (pc := 99) C dX3_waitFor_99 ?_
  obtain ⟨S22, hc23, hs⟩ := am_b1_of hs
  refine av_eq (st2 := [am_J (am_w32 (b3 + 1)), am_I b1, am_R 14]) rfl rfl rfl rfl (av_callV (pc := 100) (as := [am_I b1, am_J (am_w32 (b3 + 1))]) (rest := []) C (ct_X4_put l G 14 47 100 sk_14 sk_47 rfl b1 (am_w32 (b3 + 1)) S20 S22 hc23) ym_X4_put si_X3_79 im_X4_put se_X4_put sk_14 rfl ⟨Nat.le_of_ble_eq_true rfl, Nat.le_of_ble_eq_true rfl⟩ rfl rfl (Nat.le_of_ble_eq_true rfl) dX3_waitFor_100 ⟨Nat.le_refl _, Nat.le_refl _⟩ (fun hrv => av_eq (st2 := []) rfl rfl rfl rfl ?_))
  obtain rfl := am_inj1 hs
  exact av_vret C hr hlocks dX3_waitFor_103
set_option maxHeartbeats 4000000 in
set_option maxRecDepth 100000 in
theorem ct_X3_waitFor (l : Launch) (G : am_G) (a1 : Int) (a2 : Int) (S : am_S) (SZ : am_S) (hs : sf_X3_waitFor a1 a2 S = some SZ) : am_met l yX3_waitFor cX3_waitFor 4 none 2 46 G [am_R 1, am_I a1, am_I a2] S none SZ := by
  refine am_enter ym_X3_waitFor (Nat.le_of_ble_eq_true rfl) ?_
  intro p e s m args below meth c C hr hlocks
  refine av_eq (lv2 := [(0, am_R 1), (1, am_I a1), (2, am_I a2)]) rfl rfl rfl rfl ?_
  unfold sf_X3_waitFor at hs
  refine av_aload_n (pc := 0) (j := 0) C dX3_waitFor_0 rfl rfl ?_
  refine av_getR (pc := 1) (k := 4) (r := 12) C fl_X3_29 sk_1 rfl dX3_waitFor_1 ?_
  refine av_iload_n (pc := 4) (j := 1) C dX3_waitFor_4 rfl rfl ?_
  refine av_lconst (pc := 5) (x := 1) C dX3_waitFor_5 rfl rfl ?_
  obtain ⟨S1, hc2, hs⟩ := am_b1_of hs
  refine av_eq (st2 := [am_J 1, am_I a1, am_R 12]) rfl rfl rfl rfl (av_callV (pc := 6) (as := [am_I a1, am_J 1]) (rest := []) C (ct_X4_put l G 12 45 100 sk_12 sk_45 rfl a1 1 S S1 hc2) ym_X4_put si_X3_79 im_X4_put se_X4_put sk_12 rfl ⟨Nat.le_of_ble_eq_true rfl, Nat.le_of_ble_eq_true rfl⟩ rfl rfl (Nat.le_of_ble_eq_true rfl) dX3_waitFor_6 ⟨Nat.le_refl _, Nat.le_refl _⟩ (fun hrv => av_eq (st2 := []) rfl rfl rfl rfl ?_))
  refine av_aload_n (pc := 9) (j := 0) C dX3_waitFor_9 rfl rfl ?_
  refine av_getR (pc := 10) (k := 10) (r := 18) C fl_X3_47 sk_1 rfl dX3_waitFor_10 ?_
  refine av_iload_n (pc := 13) (j := 2) C dX3_waitFor_13 rfl rfl ?_
  refine av_iload_n (pc := 14) (j := 1) C dX3_waitFor_14 rfl rfl ?_
  refine av_i2l (pc := 15) C dX3_waitFor_15 ?_
  obtain ⟨S3, hc4, hs⟩ := am_b1_of hs
  refine av_eq (st2 := [am_J a1, am_I a2, am_R 18]) rfl rfl rfl rfl (av_callV (pc := 16) (as := [am_I a2, am_J a1]) (rest := []) C (ct_X4_put l G 18 51 900 sk_18 sk_51 rfl a2 a1 S1 S3 hc4) ym_X4_put si_X3_79 im_X4_put se_X4_put sk_18 rfl ⟨Nat.le_of_ble_eq_true rfl, Nat.le_of_ble_eq_true rfl⟩ rfl rfl (Nat.le_of_ble_eq_true rfl) dX3_waitFor_16 ⟨Nat.le_refl _, Nat.le_refl _⟩ (fun hrv => av_eq (st2 := []) rfl rfl rfl rfl ?_))
  refine av_aload_n (pc := 19) (j := 0) C dX3_waitFor_19 rfl rfl ?_
  refine av_getR (pc := 20) (k := 0) (r := 8) C fl_X3_14 sk_1 rfl dX3_waitFor_20 ?_
  refine av_iload_n (pc := 23) (j := 1) C dX3_waitFor_23 rfl rfl ?_
  obtain ⟨x6, S5, hc7, hs⟩ := am_b2_of hs
  refine av_eq (st2 := [am_I a1, am_R 8]) rfl rfl rfl rfl (av_callV (pc := 24) (as := [am_I a1]) (rest := []) C (ct_X4_at l G 8 41 100 sk_8 sk_41 rfl a1 S3 x6 S5 hc7) ym_X4_at si_X3_67 im_X4_at se_X4_at sk_8 rfl ⟨Nat.le_of_ble_eq_true rfl, Nat.le_of_ble_eq_true rfl⟩ rfl rfl (Nat.le_of_ble_eq_true rfl) dX3_waitFor_24 ⟨Nat.le_refl _, Nat.le_refl _⟩ (fun hrv => av_eq (st2 := [am_I x6]) rfl rfl rfl rfl ?_))
  refine av_if_eq (pc := 27) (tgt := 38) C dX3_waitFor_27 (by decide) (fun hc => ?_) (fun hc => ?_)
  · rw [if_pos hc] at hs
    refine av_aload_n (pc := 38) (j := 0) C dX3_waitFor_38 rfl rfl ?_
    refine av_getR (pc := 39) (k := 6) (r := 14) C fl_X3_35 sk_1 rfl dX3_waitFor_39 ?_
    refine av_iload_n (pc := 42) (j := 1) C dX3_waitFor_42 rfl rfl ?_
    obtain ⟨x9, S8, hc10, hs⟩ := am_b2_of hs
    refine av_eq (st2 := [am_I a1, am_R 14]) rfl rfl rfl rfl (av_callV (pc := 43) (as := [am_I a1]) (rest := []) C (ct_X4_at l G 14 47 100 sk_14 sk_47 rfl a1 S5 x9 S8 hc10) ym_X4_at si_X3_67 im_X4_at se_X4_at sk_14 rfl ⟨Nat.le_of_ble_eq_true rfl, Nat.le_of_ble_eq_true rfl⟩ rfl rfl (Nat.le_of_ble_eq_true rfl) dX3_waitFor_43 ⟨Nat.le_refl _, Nat.le_refl _⟩ (fun hrv => av_eq (st2 := [am_I x9]) rfl rfl rfl rfl ?_))
    refine av_istore_n (pc := 46) (i := 3) (lv2 := [(3, am_I x9), (0, am_R 1), (1, am_I a1), (2, am_I a2)]) C dX3_waitFor_46 rfl (by decide) rfl ?_
    refine av_iload_n (pc := 47) (j := 0) C dX3_waitFor_47 rfl rfl ?_
    refine av_if_ne (pc := 48) (tgt := 64) C dX3_waitFor_48 (by decide) (fun hc => ?_) (fun hc => ?_)
    · rw [if_neg hc] at hs
      refine av_aload_n (pc := 64) (j := 1) C dX3_waitFor_64 rfl rfl ?_
      refine av_getR (pc := 65) (k := 9) (r := 17) C fl_X3_44 sk_1 rfl dX3_waitFor_65 ?_
      refine av_aload_n (pc := 68) (j := 1) C dX3_waitFor_68 rfl rfl ?_
      refine av_getR (pc := 69) (k := 8) (r := 16) C fl_X3_41 sk_1 rfl dX3_waitFor_69 ?_
      refine av_iload_n (pc := 72) (j := 2) C dX3_waitFor_72 rfl rfl ?_
      obtain ⟨x12, S11, hc13, hs⟩ := am_b2_of hs
      refine av_eq (st2 := [am_I a1, am_R 16, am_R 17]) rfl rfl rfl rfl (av_callV (pc := 73) (as := [am_I a1]) (rest := [am_R 17]) C (ct_X4_at l G 16 49 100 sk_16 sk_49 rfl a1 S8 x12 S11 hc13) ym_X4_at si_X3_67 im_X4_at se_X4_at sk_16 rfl ⟨Nat.le_of_ble_eq_true rfl, Nat.le_of_ble_eq_true rfl⟩ rfl rfl (Nat.le_of_ble_eq_true rfl) dX3_waitFor_73 ⟨Nat.le_refl _, Nat.le_refl _⟩ (fun hrv => av_eq (st2 := [am_I x12, am_R 17]) rfl rfl rfl rfl ?_))
      refine av_iload_n (pc := 76) (j := 3) C dX3_waitFor_76 rfl rfl ?_
      refine av_i2l (pc := 77) C dX3_waitFor_77 ?_
      obtain ⟨S14, hc15, hs⟩ := am_b1_of hs
      refine av_eq (st2 := [am_J a2, am_I x12, am_R 17]) rfl rfl rfl rfl (av_callV (pc := 78) (as := [am_I x12, am_J a2]) (rest := []) C (ct_X4_put l G 17 50 900 sk_17 sk_50 rfl x12 a2 S11 S14 hc15) ym_X4_put si_X3_79 im_X4_put se_X4_put sk_17 rfl ⟨Nat.le_of_ble_eq_true rfl, Nat.le_of_ble_eq_true rfl⟩ rfl rfl (Nat.le_of_ble_eq_true rfl) dX3_waitFor_78 ⟨Nat.le_refl _, Nat.le_refl _⟩ (fun hrv => av_eq (st2 := []) rfl rfl rfl rfl ?_))
      refine av_lvsub (lv2 := [(0, am_R 1), (1, am_I a1), (2, am_I a2), (3, am_I x9)]) [1, 2, 3, 0] rfl ?_
      exact wk_X3_waitFor_81 C hr hlocks a1 a2 x9 S14 SZ hs
    · rw [if_pos (Decidable.not_not.mp hc)] at hs
      refine av_aload_n (pc := 51) (j := 1) C dX3_waitFor_51 rfl rfl ?_
      refine av_getR (pc := 52) (k := 7) (r := 15) C fl_X3_38 sk_1 rfl dX3_waitFor_52 ?_
      refine av_iload_n (pc := 55) (j := 2) C dX3_waitFor_55 rfl rfl ?_
      refine av_iload_n (pc := 56) (j := 3) C dX3_waitFor_56 rfl rfl ?_
      refine av_i2l (pc := 57) C dX3_waitFor_57 ?_
      obtain ⟨S16, hc17, hs⟩ := am_b1_of hs
      refine av_eq (st2 := [am_J a2, am_I a1, am_R 15]) rfl rfl rfl rfl (av_callV (pc := 58) (as := [am_I a1, am_J a2]) (rest := []) C (ct_X4_put l G 15 48 100 sk_15 sk_48 rfl a1 a2 S8 S16 hc17) ym_X4_put si_X3_79 im_X4_put se_X4_put sk_15 rfl ⟨Nat.le_of_ble_eq_true rfl, Nat.le_of_ble_eq_true rfl⟩ rfl rfl (Nat.le_of_ble_eq_true rfl) dX3_waitFor_58 ⟨Nat.le_refl _, Nat.le_refl _⟩ (fun hrv => av_eq (st2 := []) rfl rfl rfl rfl ?_))
      refine av_goto (pc := 61) (tgt := 81) C dX3_waitFor_61 (by decide) ?_
      refine av_lvsub (lv2 := [(0, am_R 1), (1, am_I a1), (2, am_I a2), (3, am_I x9)]) [1, 2, 3, 0] rfl ?_
      exact wk_X3_waitFor_81 C hr hlocks a1 a2 x9 S16 SZ hs
  · rw [if_neg hc] at hs
    refine av_aload_n (pc := 30) (j := 0) C dX3_waitFor_30 rfl rfl ?_
    refine av_iload_n (pc := 31) (j := 2) C dX3_waitFor_31 rfl rfl ?_
    refine av_iload_n (pc := 32) (j := 2) C dX3_waitFor_32 rfl rfl ?_
    refine av_iconst (pc := 33) C dX3_waitFor_33 rfl ?_
    obtain ⟨S18, hc19, hs⟩ := am_b1_of hs
    refine av_eq (st2 := [am_I 1, am_I a2, am_I a2, am_R 1]) rfl rfl rfl rfl (av_callV (pc := 34) (as := [am_I a2, am_I a2, am_I 1]) (rest := []) C (ct_X3_lineUp l G a2 a2 1 S5 S18 hc19) ym_X3_lineUp si_X3_114 im_X3_lineUp se_X3_lineUp sk_1 rfl ⟨Nat.le_of_ble_eq_true rfl, Nat.le_of_ble_eq_true rfl⟩ rfl rfl (Nat.le_of_ble_eq_true rfl) dX3_waitFor_34 ⟨Nat.le_refl _, Nat.le_refl _⟩ (fun hrv => av_eq (st2 := []) rfl rfl rfl rfl ?_))
    obtain rfl := am_inj1 hs
    exact av_vret C hr hlocks dX3_waitFor_37
set_option maxHeartbeats 4000000 in
set_option maxRecDepth 100000 in
theorem wk_X1_form_42 {p : Program} {l : Launch} {e : Env} {s : State} {m : MethodId} {args : Array Value} {below : List Frame} {meth : Method} {c : Code} {G : am_G} (C : am_C p s m args c cX1_form 5 RX1 G) (hr : meth.sig.returnType = (some .int)) (hlocks : meth.locks = false) : ∀ (fu : Nat) (b2 : Int) (b3 : Int) (S : am_S) (x : Int) (SZ : am_S), sf_X1_form_42 fu b2 b3 S = some (x, SZ) → am_V p l e (am_rm 4 96) s m args below meth c (MQ below (am_Q G (some (am_I x)) SZ) args s 0 0 (am_A G)) G (am_A G) s.heap 5 0 0 42 [(0, am_R 6), (2, am_I b2), (3, am_I b3)] [] S := by
  intro fu
  induction fu with
  | zero => intro b2 b3 S x SZ hs; cases hs
  | succ fu ih =>
    intro b2 b3 S x SZ hs
    unfold sf_X1_form_42 at hs
    refine av_iload_n (pc := 42) (j := 2) C dX1_form_42 rfl rfl ?_
    refine av_aload_n (pc := 43) (j := 0) C dX1_form_43 rfl rfl ?_
    refine av_getI (pc := 44) (k := 5) (n := 389) C fl_X1_29 sk_6 rfl rfl dX1_form_44 ?_
    refine av_icmp_ge (pc := 47) (tgt := 89) C dX1_form_47 (by decide) (fun hc => ?_) (fun hc => ?_)
    · rw [if_pos hc] at hs
      refine av_aload_n (pc := 89) (j := 0) C dX1_form_89 rfl rfl ?_
      refine av_iconst (pc := 90) C dX1_form_90 rfl ?_
      obtain ⟨S10, eS10, hs⟩ := am_let_of hs
      refine av_putI (pc := 91) (k := 5) (n := 389) C fp_X1_29 sk_6 rfl rfl dX1_form_91 ?_
      refine av_eq rfl rfl rfl eS10 ?_
      refine av_aload_n (pc := 94) (j := 0) C dX1_form_94 rfl rfl ?_
      refine av_iload_n (pc := 95) (j := 1) C dX1_form_95 rfl rfl ?_
      obtain ⟨S11, hc12, hs⟩ := am_b1_of hs
      refine av_eq (st2 := [am_I b2, am_R 6]) rfl rfl rfl rfl (av_callV (pc := 96) (as := [am_I b2]) (rest := []) C (ct_X1_settleIfComplete l G b2 S10 S11 hc12) ym_X1_settleIfComplete si_X1_71 im_X1_settleIfComplete se_X1_settleIfComplete sk_6 rfl ⟨Nat.le_of_ble_eq_true rfl, Nat.le_of_ble_eq_true rfl⟩ rfl rfl (Nat.le_of_ble_eq_true rfl) dX1_form_96 ⟨Nat.le_refl _, Nat.le_refl _⟩ (fun hrv => av_eq (st2 := []) rfl rfl rfl rfl ?_))
      refine av_iload_n (pc := 99) (j := 1) C dX1_form_99 rfl rfl ?_
      obtain ⟨rfl, rfl⟩ := am_inj2 hs
      exact av_iret C hr hlocks dX1_form_100
    · rw [if_neg hc] at hs
      refine av_aload_n (pc := 50) (j := 0) C dX1_form_50 rfl rfl ?_
      refine av_getR (pc := 51) (k := 4) (r := 1) C fl_X1_33 sk_6 rfl dX1_form_51 ?_
      refine av_aload_n (pc := 54) (j := 0) C dX1_form_54 rfl rfl ?_
      refine av_getR (pc := 55) (k := 0) (r := 30) C fl_X1_14 sk_6 rfl dX1_form_55 ?_
      refine av_iload_n (pc := 58) (j := 2) C dX1_form_58 rfl rfl ?_
      obtain ⟨x14, S13, hc15, hs⟩ := am_b2_of hs
      refine av_eq (st2 := [am_I b3, am_R 30, am_R 1]) rfl rfl rfl rfl (av_callV (pc := 59) (as := [am_I b3]) (rest := [am_R 1]) C (ct_X4_valueAt l G 30 63 5 sk_30 sk_63 rfl b3 S x14 S13 hc15) ym_X4_valueAt si_X1_47 im_X4_valueAt se_X4_valueAt sk_30 rfl ⟨Nat.le_of_ble_eq_true rfl, Nat.le_of_ble_eq_true rfl⟩ rfl rfl (Nat.le_of_ble_eq_true rfl) dX1_form_59 ⟨Nat.le_refl _, Nat.le_refl _⟩ (fun hrv => av_eq (st2 := [am_J x14, am_R 1]) rfl rfl rfl rfl ?_))
      obtain ⟨x17, S16, hc18, hs⟩ := am_b2_of hs
      refine av_eq (st2 := [am_J x14, am_R 1]) rfl rfl rfl rfl (av_callV (pc := 62) (as := [am_J x14]) (rest := []) C (ct_X3_promiseFor l G x14 S13 x17 S16 hc18) ym_X3_promiseFor si_X1_60 im_X3_promiseFor se_X3_promiseFor sk_1 rfl ⟨Nat.le_of_ble_eq_true rfl, Nat.le_of_ble_eq_true rfl⟩ rfl rfl (Nat.le_of_ble_eq_true rfl) dX1_form_62 ⟨Nat.le_refl _, Nat.le_refl _⟩ (fun hrv => av_eq (st2 := [am_I x17]) rfl rfl rfl rfl ?_))
      refine av_istore (pc := 65) (i := 4) (lv2 := [(4, am_I x17), (0, am_R 6), (2, am_I b2), (3, am_I b3)]) C dX1_form_65 (by decide) rfl ?_
      refine av_aload_n (pc := 67) (j := 1) C dX1_form_67 rfl rfl ?_
      refine av_getR (pc := 68) (k := 4) (r := 1) C fl_X1_33 sk_6 rfl dX1_form_68 ?_
      refine av_iload (pc := 71) (j := 0) C dX1_form_71 rfl ?_
      refine av_iload_n (pc := 73) (j := 2) C dX1_form_73 rfl rfl ?_
      refine av_iconst (pc := 74) C dX1_form_74 rfl ?_
      refine av_iload_n (pc := 75) (j := 3) C dX1_form_75 rfl rfl ?_
      refine av_iadd (pc := 76) C dX1_form_76 ?_
      obtain ⟨x20, S19, hc21, hs⟩ := am_b2_of hs
      refine av_eq (st2 := [am_I (am_w32 (4 + b3)), am_I b2, am_I x17, am_R 1]) rfl rfl rfl rfl (av_callSN (pc := 77) (as := [am_I b2, am_I (am_w32 (4 + b3))]) (rest := [am_I x17, am_R 1]) C (ct_X9_jobOf l G b2 (am_w32 (4 + b3)) S16 x20 S19 hc21) ym_X9_jobOf si_X1_63 st_X9_jobOf ⟨Nat.le_of_ble_eq_true rfl, Nat.le_of_ble_eq_true rfl⟩ rfl rfl (Nat.le_of_ble_eq_true rfl) dX1_form_77 ⟨Nat.le_refl _, Nat.le_refl _⟩ (fun hrv => av_eq (st2 := [am_I x20, am_I x17, am_R 1]) rfl rfl rfl rfl ?_))
      obtain ⟨S22, hc23, hs⟩ := am_b1_of hs
      refine av_eq (st2 := [am_I x20, am_I x17, am_R 1]) rfl rfl rfl rfl (av_callV (pc := 80) (as := [am_I x17, am_I x20]) (rest := []) C (ct_X3_waitFor l G x17 x20 S19 S22 hc23) ym_X3_waitFor si_X1_67 im_X3_waitFor se_X3_waitFor sk_1 rfl ⟨Nat.le_of_ble_eq_true rfl, Nat.le_of_ble_eq_true rfl⟩ rfl rfl (Nat.le_of_ble_eq_true rfl) dX1_form_80 ⟨Nat.le_refl _, Nat.le_refl _⟩ (fun hrv => av_eq (st2 := []) rfl rfl rfl rfl ?_))
      refine av_iinc (pc := 83) (j := 3) (lv2 := [(3, am_I (am_w32 (b3 + 1))), (4, am_I x17), (0, am_R 6), (2, am_I b2)]) C dX1_form_83 rfl (by decide) rfl ?_
      refine av_goto (pc := 86) (tgt := 42) C dX1_form_86 (by decide) ?_
      refine av_lvsub (lv2 := [(0, am_R 6), (2, am_I b2), (3, am_I (am_w32 (b3 + 1)))]) [2, 3, 0] rfl ?_
      exact ih b2 (am_w32 (b3 + 1)) S22 x SZ hs
set_option maxHeartbeats 4000000 in
set_option maxRecDepth 100000 in
theorem ct_X1_form (l : Launch) (G : am_G) (a1 : Int) (S : am_S) (x : Int) (SZ : am_S) (hs : sf_X1_form a1 S = some (x, SZ)) : am_met l yX1_form cX1_form 5 (some .int) 4 96 G [am_R 6, am_I a1] S (some (am_I x)) SZ := by
  refine am_enter ym_X1_form (Nat.le_of_ble_eq_true rfl) ?_
  intro p e s m args below meth c C hr hlocks
  refine av_eq (lv2 := [(0, am_R 6), (1, am_I a1)]) rfl rfl rfl rfl ?_
  unfold sf_X1_form at hs
  refine av_aload_n (pc := 0) (j := 0) C dX1_form_0 rfl rfl ?_
  refine av_getR (pc := 1) (k := 4) (r := 1) C fl_X1_33 sk_6 rfl dX1_form_1 ?_
  obtain ⟨x2, S1, hc3, hs⟩ := am_b2_of hs
  refine av_eq (st2 := [am_R 1]) rfl rfl rfl rfl (av_callV (pc := 4) (as := []) (rest := []) C (ct_X3_make l G  S x2 S1 hc3) ym_X3_make si_X1_57 im_X3_make se_X3_make sk_1 rfl ⟨Nat.le_of_ble_eq_true rfl, Nat.le_of_ble_eq_true rfl⟩ rfl rfl (Nat.le_of_ble_eq_true rfl) dX1_form_4 ⟨Nat.le_refl _, Nat.le_refl _⟩ (fun hrv => av_eq (st2 := [am_I x2]) rfl rfl rfl rfl ?_))
  refine av_istore_n (pc := 7) (i := 2) (lv2 := [(2, am_I x2), (0, am_R 6), (1, am_I a1)]) C dX1_form_7 rfl (by decide) rfl ?_
  refine av_aload_n (pc := 8) (j := 1) C dX1_form_8 rfl rfl ?_
  refine av_getR (pc := 9) (k := 1) (r := 31) C fl_X1_20 sk_6 rfl dX1_form_9 ?_
  refine av_iload_n (pc := 12) (j := 0) C dX1_form_12 rfl rfl ?_
  refine av_iload_n (pc := 13) (j := 2) C dX1_form_13 rfl rfl ?_
  refine av_i2l (pc := 14) C dX1_form_14 ?_
  obtain ⟨S4, hc5, hs⟩ := am_b1_of hs
  refine av_eq (st2 := [am_J a1, am_I x2, am_R 31]) rfl rfl rfl rfl (av_callV (pc := 15) (as := [am_I x2, am_J a1]) (rest := []) C (ct_X4_put l G 31 64 100 sk_31 sk_64 rfl x2 a1 S1 S4 hc5) ym_X4_put si_X1_37 im_X4_put se_X4_put sk_31 rfl ⟨Nat.le_of_ble_eq_true rfl, Nat.le_of_ble_eq_true rfl⟩ rfl rfl (Nat.le_of_ble_eq_true rfl) dX1_form_15 ⟨Nat.le_refl _, Nat.le_refl _⟩ (fun hrv => av_eq (st2 := []) rfl rfl rfl rfl ?_))
  refine av_aload_n (pc := 18) (j := 1) C dX1_form_18 rfl rfl ?_
  refine av_getR (pc := 19) (k := 2) (r := 32) C fl_X1_23 sk_6 rfl dX1_form_19 ?_
  refine av_iload_n (pc := 22) (j := 0) C dX1_form_22 rfl rfl ?_
  refine av_aload_n (pc := 23) (j := 1) C dX1_form_23 rfl rfl ?_
  refine av_getI (pc := 24) (k := 5) (n := 389) C fl_X1_29 sk_6 rfl rfl dX1_form_24 ?_
  refine av_i2l (pc := 27) C dX1_form_27 ?_
  obtain ⟨S6, hc7, hs⟩ := am_b1_of hs
  refine av_eq (st2 := [am_J (S4.1 389), am_I x2, am_R 32]) rfl rfl rfl rfl (av_callV (pc := 28) (as := [am_I x2, am_J (S4.1 389)]) (rest := []) C (ct_X4_put l G 32 65 100 sk_32 sk_65 rfl x2 (S4.1 389) S4 S6 hc7) ym_X4_put si_X1_37 im_X4_put se_X4_put sk_32 rfl ⟨Nat.le_of_ble_eq_true rfl, Nat.le_of_ble_eq_true rfl⟩ rfl rfl (Nat.le_of_ble_eq_true rfl) dX1_form_28 ⟨Nat.le_refl _, Nat.le_refl _⟩ (fun hrv => av_eq (st2 := []) rfl rfl rfl rfl ?_))
  refine av_aload_n (pc := 31) (j := 1) C dX1_form_31 rfl rfl ?_
  refine av_getR (pc := 32) (k := 3) (r := 33) C fl_X1_26 sk_6 rfl dX1_form_32 ?_
  refine av_iload_n (pc := 35) (j := 0) C dX1_form_35 rfl rfl ?_
  refine av_lconst (pc := 36) (x := 0) C dX1_form_36 rfl rfl ?_
  obtain ⟨S8, hc9, hs⟩ := am_b1_of hs
  refine av_eq (st2 := [am_J 0, am_I x2, am_R 33]) rfl rfl rfl rfl (av_callV (pc := 37) (as := [am_I x2, am_J 0]) (rest := []) C (ct_X4_put l G 33 66 100 sk_33 sk_66 rfl x2 0 S6 S8 hc9) ym_X4_put si_X1_37 im_X4_put se_X4_put sk_33 rfl ⟨Nat.le_of_ble_eq_true rfl, Nat.le_of_ble_eq_true rfl⟩ rfl rfl (Nat.le_of_ble_eq_true rfl) dX1_form_37 ⟨Nat.le_refl _, Nat.le_refl _⟩ (fun hrv => av_eq (st2 := []) rfl rfl rfl rfl ?_))
  refine av_iconst (pc := 40) C dX1_form_40 rfl ?_
  refine av_istore_n (pc := 41) (i := 3) (lv2 := [(3, am_I 0), (2, am_I x2), (0, am_R 6), (1, am_I a1)]) C dX1_form_41 rfl (by decide) rfl ?_
  refine av_lvsub (lv2 := [(0, am_R 6), (2, am_I x2), (3, am_I 0)]) [2, 1, 0] rfl ?_
  exact wk_X1_form_42 C hr hlocks 1000 x2 0 S8 x SZ hs
set_option maxHeartbeats 4000000 in
set_option maxRecDepth 100000 in
theorem wk_X1_settlePlace_90 {p : Program} {l : Launch} {e : Env} {s : State} {m : MethodId} {args : Array Value} {below : List Frame} {meth : Method} {c : Code} {G : am_G} (C : am_C p s m args c cX1_settlePlace 8 RX1 G) (hr : meth.sig.returnType = none) (hlocks : meth.locks = false) (b1 : Int) (b3 : Int) (b4 : Int) (b6 : Int) (S : am_S) (SZ : am_S) (hs : sf_X1_settlePlace_90 b1 b3 b4 b6 S = some SZ) : am_V p l e (am_rm 3 73) s m args below meth c (MQ below (am_Q G none SZ) args s 0 0 (am_A G)) G (am_A G) s.heap 8 0 0 90 [(0, am_R 6), (1, am_I b1), (3, am_I b3), (4, am_J b4), (6, am_I b6)] [] S := by
  unfold sf_X1_settlePlace_90 at hs
  refine av_iload (pc := 90) (j := 4) C dX1_settlePlace_90 rfl ?_
  refine av_iconst (pc := 92) C dX1_settlePlace_92 rfl ?_
  refine av_icmp_ne (pc := 93) (tgt := 113) C dX1_settlePlace_93 (by decide) (fun hc => ?_) (fun hc => ?_)
  · rw [if_neg hc] at hs
    obtain rfl := am_inj1 hs
    exact av_vret C hr hlocks dX1_settlePlace_113
  · rw [if_pos (Decidable.not_not.mp hc)] at hs
    refine av_iload_n (pc := 96) (j := 2) C dX1_settlePlace_96 rfl rfl ?_
    refine av_iconst (pc := 97) C dX1_settlePlace_97 rfl ?_
    refine av_icmp_ne (pc := 98) (tgt := 113) C dX1_settlePlace_98 (by decide) (fun hc => ?_) (fun hc => ?_)
    · rw [if_neg hc] at hs
      obtain rfl := am_inj1 hs
      exact av_vret C hr hlocks dX1_settlePlace_113
    · rw [if_pos (Decidable.not_not.mp hc)] at hs
      refine av_aload_n (pc := 101) (j := 0) C dX1_settlePlace_101 rfl rfl ?_
      refine av_getR (pc := 102) (k := 4) (r := 1) C fl_X1_33 sk_6 rfl dX1_settlePlace_102 ?_
      refine av_iload_n (pc := 105) (j := 1) C dX1_settlePlace_105 rfl rfl ?_
      refine av_iload_n (pc := 106) (j := 2) C dX1_settlePlace_106 rfl rfl ?_
      refine av_lload (pc := 107) (j := 3) C dX1_settlePlace_107 rfl ?_
      refine av_iconst (pc := 109) C dX1_settlePlace_109 rfl ?_
      obtain ⟨S21, hc22, hs⟩ := am_b1_of hs
      refine av_eq (st2 := [am_I 0, am_J b4, am_I b3, am_I b1, am_R 1]) rfl rfl rfl rfl (av_callV (pc := 110) (as := [am_I b1, am_I b3, am_J b4, am_I 0]) (rest := []) C (ct_X3_settleBy l G b1 b3 b4 0 S S21 hc22) ym_X3_settleBy si_X1_81 im_X3_settleBy se_X3_settleBy sk_1 rfl ⟨Nat.le_of_ble_eq_true rfl, Nat.le_of_ble_eq_true rfl⟩ rfl rfl (Nat.le_of_ble_eq_true rfl) dX1_settlePlace_110 ⟨Nat.le_refl _, Nat.le_refl _⟩ (fun hrv => av_eq (st2 := []) rfl rfl rfl rfl ?_))
      obtain rfl := am_inj1 hs
      exact av_vret C hr hlocks dX1_settlePlace_113
set_option maxHeartbeats 4000000 in
set_option maxRecDepth 100000 in
theorem wk_X1_settlePlace_74 {p : Program} {l : Launch} {e : Env} {s : State} {m : MethodId} {args : Array Value} {below : List Frame} {meth : Method} {c : Code} {G : am_G} (C : am_C p s m args c cX1_settlePlace 8 RX1 G) (hr : meth.sig.returnType = none) (hlocks : meth.locks = false) (b1 : Int) (b3 : Int) (b4 : Int) (b6 : Int) (S : am_S) (SZ : am_S) (hs : sf_X1_settlePlace_74 b1 b3 b4 b6 S = some SZ) : am_V p l e (am_rm 3 73) s m args below meth c (MQ below (am_Q G none SZ) args s 0 0 (am_A G)) G (am_A G) s.heap 8 0 0 74 [(0, am_R 6), (1, am_I b1), (3, am_I b3), (4, am_J b4), (6, am_I b6)] [] S := by
  unfold sf_X1_settlePlace_74 at hs
  refine av_iload (pc := 74) (j := 4) C dX1_settlePlace_74 rfl ?_
  refine av_iconst (pc := 76) C dX1_settlePlace_76 rfl ?_
  refine av_icmp_eq (pc := 77) (tgt := 101) C dX1_settlePlace_77 (by decide) (fun hc => ?_) (fun hc => ?_)
  · rw [if_pos hc] at hs
    refine av_aload_n (pc := 101) (j := 0) C dX1_settlePlace_101 rfl rfl ?_
    refine av_getR (pc := 102) (k := 4) (r := 1) C fl_X1_33 sk_6 rfl dX1_settlePlace_102 ?_
    refine av_iload_n (pc := 105) (j := 1) C dX1_settlePlace_105 rfl rfl ?_
    refine av_iload_n (pc := 106) (j := 2) C dX1_settlePlace_106 rfl rfl ?_
    refine av_lload (pc := 107) (j := 3) C dX1_settlePlace_107 rfl ?_
    refine av_iconst (pc := 109) C dX1_settlePlace_109 rfl ?_
    obtain ⟨S12, hc13, hs⟩ := am_b1_of hs
    refine av_eq (st2 := [am_I 0, am_J b4, am_I b3, am_I b1, am_R 1]) rfl rfl rfl rfl (av_callV (pc := 110) (as := [am_I b1, am_I b3, am_J b4, am_I 0]) (rest := []) C (ct_X3_settleBy l G b1 b3 b4 0 S S12 hc13) ym_X3_settleBy si_X1_81 im_X3_settleBy se_X3_settleBy sk_1 rfl ⟨Nat.le_of_ble_eq_true rfl, Nat.le_of_ble_eq_true rfl⟩ rfl rfl (Nat.le_of_ble_eq_true rfl) dX1_settlePlace_110 ⟨Nat.le_refl _, Nat.le_refl _⟩ (fun hrv => av_eq (st2 := []) rfl rfl rfl rfl ?_))
    obtain rfl := am_inj1 hs
    exact av_vret C hr hlocks dX1_settlePlace_113
  · rw [if_neg hc] at hs
    refine av_iload (pc := 80) (j := 4) C dX1_settlePlace_80 rfl ?_
    refine av_if_ne (pc := 82) (tgt := 90) C dX1_settlePlace_82 (by decide) (fun hc => ?_) (fun hc => ?_)
    · rw [if_neg hc] at hs
      exact wk_X1_settlePlace_90 C hr hlocks b1 b3 b4 b6 S SZ hs
    · rw [if_pos (Decidable.not_not.mp hc)] at hs
      refine av_iload_n (pc := 85) (j := 2) C dX1_settlePlace_85 rfl rfl ?_
      refine av_iconst (pc := 86) C dX1_settlePlace_86 rfl ?_
      refine av_icmp_eq (pc := 87) (tgt := 101) C dX1_settlePlace_87 (by decide) (fun hc => ?_) (fun hc => ?_)
      · rw [if_pos hc] at hs
        refine av_aload_n (pc := 101) (j := 0) C dX1_settlePlace_101 rfl rfl ?_
        refine av_getR (pc := 102) (k := 4) (r := 1) C fl_X1_33 sk_6 rfl dX1_settlePlace_102 ?_
        refine av_iload_n (pc := 105) (j := 1) C dX1_settlePlace_105 rfl rfl ?_
        refine av_iload_n (pc := 106) (j := 2) C dX1_settlePlace_106 rfl rfl ?_
        refine av_lload (pc := 107) (j := 3) C dX1_settlePlace_107 rfl ?_
        refine av_iconst (pc := 109) C dX1_settlePlace_109 rfl ?_
        obtain ⟨S14, hc15, hs⟩ := am_b1_of hs
        refine av_eq (st2 := [am_I 0, am_J b4, am_I b3, am_I b1, am_R 1]) rfl rfl rfl rfl (av_callV (pc := 110) (as := [am_I b1, am_I b3, am_J b4, am_I 0]) (rest := []) C (ct_X3_settleBy l G b1 b3 b4 0 S S14 hc15) ym_X3_settleBy si_X1_81 im_X3_settleBy se_X3_settleBy sk_1 rfl ⟨Nat.le_of_ble_eq_true rfl, Nat.le_of_ble_eq_true rfl⟩ rfl rfl (Nat.le_of_ble_eq_true rfl) dX1_settlePlace_110 ⟨Nat.le_refl _, Nat.le_refl _⟩ (fun hrv => av_eq (st2 := []) rfl rfl rfl rfl ?_))
        obtain rfl := am_inj1 hs
        exact av_vret C hr hlocks dX1_settlePlace_113
      · rw [if_neg hc] at hs
        exact wk_X1_settlePlace_90 C hr hlocks b1 b3 b4 b6 S SZ hs
set_option maxHeartbeats 4000000 in
set_option maxRecDepth 100000 in
theorem wk_X1_settlePlace_48 {p : Program} {l : Launch} {e : Env} {s : State} {m : MethodId} {args : Array Value} {below : List Frame} {meth : Method} {c : Code} {G : am_G} (C : am_C p s m args c cX1_settlePlace 8 RX1 G) (hr : meth.sig.returnType = none) (hlocks : meth.locks = false) (b1 : Int) (b2 : Int) (b3 : Int) (b4 : Int) (b6 : Int) (t0 : Int) (S : am_S) (SZ : am_S) (hs : sf_X1_settlePlace_48 b1 b2 b3 b4 b6 t0 S = some SZ) : am_V p l e (am_rm 3 73) s m args below meth c (MQ below (am_Q G none SZ) args s 0 0 (am_A G)) G (am_A G) s.heap 8 0 0 48 [(0, am_R 6), (1, am_I b1), (2, am_I b2), (3, am_I b3), (4, am_J b4), (6, am_I b6)] [am_I t0] S := by
  unfold sf_X1_settlePlace_48 at hs
  refine av_istore (pc := 48) (i := 7) (lv2 := [(7, am_I t0), (0, am_R 6), (1, am_I b1), (2, am_I b2), (3, am_I b3), (4, am_J b4), (6, am_I b6)]) C dX1_settlePlace_48 (by decide) rfl ?_
  refine av_aload_n (pc := 50) (j := 1) C dX1_settlePlace_50 rfl rfl ?_
  refine av_getR (pc := 51) (k := 3) (r := 33) C fl_X1_26 sk_6 rfl dX1_settlePlace_51 ?_
  refine av_iload_n (pc := 54) (j := 2) C dX1_settlePlace_54 rfl rfl ?_
  refine av_aload_n (pc := 55) (j := 1) C dX1_settlePlace_55 rfl rfl ?_
  refine av_getR (pc := 56) (k := 3) (r := 33) C fl_X1_26 sk_6 rfl dX1_settlePlace_56 ?_
  refine av_iload_n (pc := 59) (j := 2) C dX1_settlePlace_59 rfl rfl ?_
  obtain ⟨x17, S16, hc18, hs⟩ := am_b2_of hs
  refine av_eq (st2 := [am_I b1, am_R 33, am_I b1, am_R 33]) rfl rfl rfl rfl (av_callV (pc := 60) (as := [am_I b1]) (rest := [am_I b1, am_R 33]) C (ct_X4_at l G 33 66 100 sk_33 sk_66 rfl b1 S x17 S16 hc18) ym_X4_at si_X1_74 im_X4_at se_X4_at sk_33 rfl ⟨Nat.le_of_ble_eq_true rfl, Nat.le_of_ble_eq_true rfl⟩ rfl rfl (Nat.le_of_ble_eq_true rfl) dX1_settlePlace_60 ⟨Nat.le_refl _, Nat.le_refl _⟩ (fun hrv => av_eq (st2 := [am_I x17, am_I b1, am_R 33]) rfl rfl rfl rfl ?_))
  refine av_iload_n (pc := 63) (j := 3) C dX1_settlePlace_63 rfl rfl ?_
  refine av_iconst (pc := 64) C dX1_settlePlace_64 rfl ?_
  refine av_iadd (pc := 65) C dX1_settlePlace_65 ?_
  refine av_iload (pc := 66) (j := 0) C dX1_settlePlace_66 rfl ?_
  refine av_imul (pc := 68) C dX1_settlePlace_68 ?_
  refine av_iadd (pc := 69) C dX1_settlePlace_69 ?_
  refine av_i2l (pc := 70) C dX1_settlePlace_70 ?_
  obtain ⟨S19, hc20, hs⟩ := am_b1_of hs
  refine av_eq (st2 := [am_J (am_w32 (x17 + (am_w32 ((am_w32 (b2 + 1)) * t0)))), am_I b1, am_R 33]) rfl rfl rfl rfl (av_callV (pc := 71) (as := [am_I b1, am_J (am_w32 (x17 + (am_w32 ((am_w32 (b2 + 1)) * t0))))]) (rest := []) C (ct_X4_put l G 33 66 100 sk_33 sk_66 rfl b1 (am_w32 (x17 + (am_w32 ((am_w32 (b2 + 1)) * t0)))) S16 S19 hc20) ym_X4_put si_X1_37 im_X4_put se_X4_put sk_33 rfl ⟨Nat.le_of_ble_eq_true rfl, Nat.le_of_ble_eq_true rfl⟩ rfl rfl (Nat.le_of_ble_eq_true rfl) dX1_settlePlace_71 ⟨Nat.le_refl _, Nat.le_refl _⟩ (fun hrv => av_eq (st2 := []) rfl rfl rfl rfl ?_))
  refine av_lvsub (lv2 := [(0, am_R 6), (1, am_I b1), (3, am_I b3), (4, am_J b4), (6, am_I b6)]) [1, 2, 4, 5, 6] rfl ?_
  exact wk_X1_settlePlace_74 C hr hlocks b1 b3 b4 b6 S19 SZ hs
set_option maxHeartbeats 4000000 in
set_option maxRecDepth 100000 in
theorem ct_X1_settlePlace (l : Launch) (G : am_G) (a1 : Int) (a2 : Int) (a3 : Int) (a4 : Int) (S : am_S) (SZ : am_S) (hs : sf_X1_settlePlace a1 a2 a3 a4 S = some SZ) : am_met l yX1_settlePlace cX1_settlePlace 8 none 3 73 G [am_R 6, am_I a1, am_I a2, am_I a3, am_J a4] S none SZ := by
  refine am_enter ym_X1_settlePlace (Nat.le_of_ble_eq_true rfl) ?_
  intro p e s m args below meth c C hr hlocks
  refine av_eq (lv2 := [(0, am_R 6), (1, am_I a1), (2, am_I a2), (3, am_I a3), (4, am_J a4)]) rfl rfl rfl rfl ?_
  unfold sf_X1_settlePlace at hs
  refine av_aload_n (pc := 0) (j := 0) C dX1_settlePlace_0 rfl rfl ?_
  refine av_getR (pc := 1) (k := 1) (r := 31) C fl_X1_20 sk_6 rfl dX1_settlePlace_1 ?_
  refine av_iload_n (pc := 4) (j := 1) C dX1_settlePlace_4 rfl rfl ?_
  obtain ⟨x2, S1, hc3, hs⟩ := am_b2_of hs
  refine av_eq (st2 := [am_I a1, am_R 31]) rfl rfl rfl rfl (av_callV (pc := 5) (as := [am_I a1]) (rest := []) C (ct_X4_at l G 31 64 100 sk_31 sk_64 rfl a1 S x2 S1 hc3) ym_X4_at si_X1_74 im_X4_at se_X4_at sk_31 rfl ⟨Nat.le_of_ble_eq_true rfl, Nat.le_of_ble_eq_true rfl⟩ rfl rfl (Nat.le_of_ble_eq_true rfl) dX1_settlePlace_5 ⟨Nat.le_refl _, Nat.le_refl _⟩ (fun hrv => av_eq (st2 := [am_I x2]) rfl rfl rfl rfl ?_))
  refine av_istore (pc := 8) (i := 6) (lv2 := [(6, am_I x2), (0, am_R 6), (1, am_I a1), (2, am_I a2), (3, am_I a3), (4, am_J a4)]) C dX1_settlePlace_8 (by decide) rfl ?_
  refine av_aload_n (pc := 10) (j := 1) C dX1_settlePlace_10 rfl rfl ?_
  refine av_getR (pc := 11) (k := 2) (r := 32) C fl_X1_23 sk_6 rfl dX1_settlePlace_11 ?_
  refine av_iload_n (pc := 14) (j := 2) C dX1_settlePlace_14 rfl rfl ?_
  refine av_aload_n (pc := 15) (j := 1) C dX1_settlePlace_15 rfl rfl ?_
  refine av_getR (pc := 16) (k := 2) (r := 32) C fl_X1_23 sk_6 rfl dX1_settlePlace_16 ?_
  refine av_iload_n (pc := 19) (j := 2) C dX1_settlePlace_19 rfl rfl ?_
  obtain ⟨x5, S4, hc6, hs⟩ := am_b2_of hs
  refine av_eq (st2 := [am_I a1, am_R 32, am_I a1, am_R 32]) rfl rfl rfl rfl (av_callV (pc := 20) (as := [am_I a1]) (rest := [am_I a1, am_R 32]) C (ct_X4_at l G 32 65 100 sk_32 sk_65 rfl a1 S1 x5 S4 hc6) ym_X4_at si_X1_74 im_X4_at se_X4_at sk_32 rfl ⟨Nat.le_of_ble_eq_true rfl, Nat.le_of_ble_eq_true rfl⟩ rfl rfl (Nat.le_of_ble_eq_true rfl) dX1_settlePlace_20 ⟨Nat.le_refl _, Nat.le_refl _⟩ (fun hrv => av_eq (st2 := [am_I x5, am_I a1, am_R 32]) rfl rfl rfl rfl ?_))
  refine av_iconst (pc := 23) C dX1_settlePlace_23 rfl ?_
  refine av_isub (pc := 24) C dX1_settlePlace_24 ?_
  refine av_i2l (pc := 25) C dX1_settlePlace_25 ?_
  obtain ⟨S7, hc8, hs⟩ := am_b1_of hs
  refine av_eq (st2 := [am_J (am_w32 (x5 - 1)), am_I a1, am_R 32]) rfl rfl rfl rfl (av_callV (pc := 26) (as := [am_I a1, am_J (am_w32 (x5 - 1))]) (rest := []) C (ct_X4_put l G 32 65 100 sk_32 sk_65 rfl a1 (am_w32 (x5 - 1)) S4 S7 hc8) ym_X4_put si_X1_37 im_X4_put se_X4_put sk_32 rfl ⟨Nat.le_of_ble_eq_true rfl, Nat.le_of_ble_eq_true rfl⟩ rfl rfl (Nat.le_of_ble_eq_true rfl) dX1_settlePlace_26 ⟨Nat.le_refl _, Nat.le_refl _⟩ (fun hrv => av_eq (st2 := []) rfl rfl rfl rfl ?_))
  refine av_iload_n (pc := 29) (j := 4) C dX1_settlePlace_29 rfl rfl ?_
  refine av_iconst (pc := 30) C dX1_settlePlace_30 rfl ?_
  refine av_icmp_ne (pc := 31) (tgt := 74) C dX1_settlePlace_31 (by decide) (fun hc => ?_) (fun hc => ?_)
  · rw [if_neg hc] at hs
    refine av_lvsub (lv2 := [(0, am_R 6), (1, am_I a1), (3, am_I a3), (4, am_J a4), (6, am_I x2)]) [1, 2, 4, 5, 0] rfl ?_
    exact wk_X1_settlePlace_74 C hr hlocks a1 a3 a4 x2 S7 SZ hs
  · rw [if_pos (Decidable.not_not.mp hc)] at hs
    refine av_iload (pc := 34) (j := 0) C dX1_settlePlace_34 rfl ?_
    refine av_if_ne (pc := 36) (tgt := 47) C dX1_settlePlace_36 (by decide) (fun hc => ?_) (fun hc => ?_)
    · rw [if_neg hc] at hs
      refine av_iconst (pc := 47) C dX1_settlePlace_47 rfl ?_
      refine av_lvsub (lv2 := [(0, am_R 6), (1, am_I a1), (2, am_I a2), (3, am_I a3), (4, am_J a4), (6, am_I x2)]) [1, 2, 3, 4, 5, 0] rfl ?_
      exact wk_X1_settlePlace_48 C hr hlocks a1 a2 a3 a4 x2 1 S7 SZ hs
    · rw [if_pos (Decidable.not_not.mp hc)] at hs
      refine av_lload (pc := 39) (j := 5) C dX1_settlePlace_39 rfl ?_
      obtain ⟨x10, S9, hc11, hs⟩ := am_b2_of hs
      refine av_eq (st2 := [am_J a4]) rfl rfl rfl rfl (av_callS (pc := 41) (as := [am_J a4]) (rest := []) C (ct_X8_numberOf l G a4 S7 x10 S9 hc11) ym_X8_numberOf si_X1_78 st_X8_numberOf ⟨Nat.le_of_ble_eq_true rfl, Nat.le_of_ble_eq_true rfl⟩ rfl rfl (Nat.le_of_ble_eq_true rfl) dX1_settlePlace_41 ⟨Nat.le_refl _, Nat.le_refl _⟩ (fun hrv => av_eq (st2 := [am_I x10]) rfl rfl rfl rfl ?_))
      refine av_goto (pc := 44) (tgt := 48) C dX1_settlePlace_44 (by decide) ?_
      refine av_lvsub (lv2 := [(0, am_R 6), (1, am_I a1), (2, am_I a2), (3, am_I a3), (4, am_J a4), (6, am_I x2)]) [1, 2, 3, 4, 5, 0] rfl ?_
      exact wk_X1_settlePlace_48 C hr hlocks a1 a2 a3 a4 x2 x10 S9 SZ hs
set_option maxHeartbeats 4000000 in
set_option maxRecDepth 100000 in
theorem ct_X2_clear (l : Launch) (G : am_G) (S : am_S) (SZ : am_S) (hs : sf_X2_clear  S = some SZ) : am_met l yX2_clear cX2_clear 1 none 0 0 G [am_R 5] S none SZ := by
  refine am_enter ym_X2_clear (Nat.le_of_ble_eq_true rfl) ?_
  intro p e s m args below meth c C hr hlocks
  refine av_eq (lv2 := [(0, am_R 5)]) rfl rfl rfl rfl ?_
  unfold sf_X2_clear at hs
  refine av_aload_n (pc := 0) (j := 0) C dX2_clear_0 rfl rfl ?_
  refine av_iconst (pc := 1) C dX2_clear_1 rfl ?_
  obtain ⟨S1, eS1, hs⟩ := am_let_of hs
  refine av_putI (pc := 2) (k := 2) (n := 322) C fp_X2_23 sk_5 rfl rfl dX2_clear_2 ?_
  refine av_eq rfl rfl rfl eS1 ?_
  refine av_aload_n (pc := 5) (j := 0) C dX2_clear_5 rfl rfl ?_
  refine av_iconst (pc := 6) C dX2_clear_6 rfl ?_
  obtain ⟨S2, eS2, hs⟩ := am_let_of hs
  refine av_putI (pc := 7) (k := 3) (n := 323) C fp_X2_27 sk_5 rfl rfl dX2_clear_7 ?_
  refine av_eq rfl rfl rfl eS2 ?_
  obtain rfl := am_inj1 hs
  exact av_vret C hr hlocks dX2_clear_10
set_option maxHeartbeats 4000000 in
set_option maxRecDepth 100000 in
theorem ct_X2_beginTurn (l : Launch) (G : am_G) (S : am_S) (SZ : am_S) (hs : sf_X2_beginTurn  S = some SZ) : am_met l yX2_beginTurn cX2_beginTurn 1 none 0 0 G [am_R 5] S none SZ := by
  refine am_enter ym_X2_beginTurn (Nat.le_of_ble_eq_true rfl) ?_
  intro p e s m args below meth c C hr hlocks
  refine av_eq (lv2 := [(0, am_R 5)]) rfl rfl rfl rfl ?_
  unfold sf_X2_beginTurn at hs
  refine av_aload_n (pc := 0) (j := 0) C dX2_beginTurn_0 rfl rfl ?_
  refine av_dup (pc := 1) C dX2_beginTurn_1 rfl ?_
  refine av_getI (pc := 2) (k := 3) (n := 323) C fl_X2_27 sk_5 rfl rfl dX2_beginTurn_2 ?_
  refine av_iconst (pc := 5) C dX2_beginTurn_5 rfl ?_
  refine av_iadd (pc := 6) C dX2_beginTurn_6 ?_
  obtain ⟨S1, eS1, hs⟩ := am_let_of hs
  refine av_putI (pc := 7) (k := 3) (n := 323) C fp_X2_27 sk_5 rfl rfl dX2_beginTurn_7 ?_
  refine av_eq rfl rfl rfl eS1 ?_
  obtain rfl := am_inj1 hs
  exact av_vret C hr hlocks dX2_beginTurn_10
set_option maxHeartbeats 4000000 in
set_option maxRecDepth 100000 in
theorem ct_X2_turns (l : Launch) (G : am_G) (S : am_S) (x : Int) (SZ : am_S) (hs : sf_X2_turns  S = some (x, SZ)) : am_met l yX2_turns cX2_turns 1 (some .int) 0 0 G [am_R 5] S (some (am_I x)) SZ := by
  refine am_enter ym_X2_turns (Nat.le_of_ble_eq_true rfl) ?_
  intro p e s m args below meth c C hr hlocks
  refine av_eq (lv2 := [(0, am_R 5)]) rfl rfl rfl rfl ?_
  unfold sf_X2_turns at hs
  refine av_aload_n (pc := 0) (j := 0) C dX2_turns_0 rfl rfl ?_
  refine av_getI (pc := 1) (k := 3) (n := 323) C fl_X2_27 sk_5 rfl rfl dX2_turns_1 ?_
  obtain ⟨rfl, rfl⟩ := am_inj2 hs
  exact av_iret C hr hlocks dX2_turns_4
set_option maxHeartbeats 4000000 in
set_option maxRecDepth 100000 in
theorem ct_X2_total (l : Launch) (G : am_G) (S : am_S) (x : Int) (SZ : am_S) (hs : sf_X2_total  S = some (x, SZ)) : am_met l yX2_total cX2_total 1 (some .int) 0 0 G [am_R 5] S (some (am_I x)) SZ := by
  refine am_enter ym_X2_total (Nat.le_of_ble_eq_true rfl) ?_
  intro p e s m args below meth c C hr hlocks
  refine av_eq (lv2 := [(0, am_R 5)]) rfl rfl rfl rfl ?_
  unfold sf_X2_total at hs
  refine av_aload_n (pc := 0) (j := 0) C dX2_total_0 rfl rfl ?_
  refine av_getI (pc := 1) (k := 2) (n := 322) C fl_X2_23 sk_5 rfl rfl dX2_total_1 ?_
  obtain ⟨rfl, rfl⟩ := am_inj2 hs
  exact av_iret C hr hlocks dX2_total_4
set_option maxHeartbeats 4000000 in
set_option maxRecDepth 100000 in
theorem ct_X2_kept (l : Launch) (G : am_G) (S : am_S) (x : Int) (SZ : am_S) (hs : sf_X2_kept  S = some (x, SZ)) : am_met l yX2_kept cX2_kept 1 (some .int) 1 21 G [am_R 5] S (some (am_I x)) SZ := by
  refine am_enter ym_X2_kept (Nat.le_of_ble_eq_true rfl) ?_
  intro p e s m args below meth c C hr hlocks
  refine av_eq (lv2 := [(0, am_R 5)]) rfl rfl rfl rfl ?_
  unfold sf_X2_kept at hs
  refine av_aload_n (pc := 0) (j := 0) C dX2_kept_0 rfl rfl ?_
  refine av_getI (pc := 1) (k := 2) (n := 322) C fl_X2_23 sk_5 rfl rfl dX2_kept_1 ?_
  refine av_bipush (pc := 4) C dX2_kept_4 rfl ?_
  refine av_mmin (pc := 6) C si_X2_30 st_M_min ini_M cod_M_min ⟨Nat.le_of_ble_eq_true rfl, Nat.le_of_ble_eq_true rfl⟩ (Nat.le_of_ble_eq_true rfl) dX2_kept_6 ⟨Nat.le_refl _, Nat.le_refl _⟩ ?_
  obtain ⟨rfl, rfl⟩ := am_inj2 hs
  exact av_iret C hr hlocks dX2_kept_9
set_option maxHeartbeats 4000000 in
set_option maxRecDepth 100000 in
theorem ct_X2_add (l : Launch) (G : am_G) (a1 : Int) (S : am_S) (SZ : am_S) (hs : sf_X2_add a1 S = some SZ) : am_met l yX2_add cX2_add 3 none 1 23 G [am_R 5, am_J a1] S none SZ := by
  refine am_enter ym_X2_add (Nat.le_of_ble_eq_true rfl) ?_
  intro p e s m args below meth c C hr hlocks
  refine av_eq (lv2 := [(0, am_R 5), (1, am_J a1)]) rfl rfl rfl rfl ?_
  unfold sf_X2_add at hs
  refine av_aload_n (pc := 0) (j := 0) C dX2_add_0 rfl rfl ?_
  refine av_getR (pc := 1) (k := 0) (r := 28) C fl_X2_14 sk_5 rfl dX2_add_1 ?_
  refine av_aload_n (pc := 4) (j := 0) C dX2_add_4 rfl rfl ?_
  refine av_getI (pc := 5) (k := 2) (n := 322) C fl_X2_23 sk_5 rfl rfl dX2_add_5 ?_
  refine av_bipush (pc := 8) C dX2_add_8 rfl ?_
  refine av_irem (pc := 10) C dX2_add_10 (by decide) ?_
  refine av_lload_n (pc := 11) (j := 1) C dX2_add_11 rfl rfl ?_
  obtain ⟨S1, hc2, hs⟩ := am_b1_of hs
  refine av_eq (st2 := [am_J a1, am_I (Int.tmod (S.1 322) 60), am_R 28]) rfl rfl rfl rfl (av_callV (pc := 12) (as := [am_I (Int.tmod (S.1 322) 60), am_J a1]) (rest := []) C (ct_X4_put l G 28 61 60 sk_28 sk_61 rfl (Int.tmod (S.1 322) 60) a1 S S1 hc2) ym_X4_put si_X2_36 im_X4_put se_X4_put sk_28 rfl ⟨Nat.le_of_ble_eq_true rfl, Nat.le_of_ble_eq_true rfl⟩ rfl rfl (Nat.le_of_ble_eq_true rfl) dX2_add_12 ⟨Nat.le_refl _, Nat.le_refl _⟩ (fun hrv => av_eq (st2 := []) rfl rfl rfl rfl ?_))
  refine av_aload_n (pc := 15) (j := 0) C dX2_add_15 rfl rfl ?_
  refine av_getR (pc := 16) (k := 1) (r := 29) C fl_X2_20 sk_5 rfl dX2_add_16 ?_
  refine av_aload_n (pc := 19) (j := 0) C dX2_add_19 rfl rfl ?_
  refine av_getI (pc := 20) (k := 2) (n := 322) C fl_X2_23 sk_5 rfl rfl dX2_add_20 ?_
  refine av_bipush (pc := 23) C dX2_add_23 rfl ?_
  refine av_irem (pc := 25) C dX2_add_25 (by decide) ?_
  refine av_aload_n (pc := 26) (j := 0) C dX2_add_26 rfl rfl ?_
  refine av_getI (pc := 27) (k := 3) (n := 323) C fl_X2_27 sk_5 rfl rfl dX2_add_27 ?_
  refine av_i2l (pc := 30) C dX2_add_30 ?_
  obtain ⟨S3, hc4, hs⟩ := am_b1_of hs
  refine av_eq (st2 := [am_J (S1.1 323), am_I (Int.tmod (S1.1 322) 60), am_R 29]) rfl rfl rfl rfl (av_callV (pc := 31) (as := [am_I (Int.tmod (S1.1 322) 60), am_J (S1.1 323)]) (rest := []) C (ct_X4_put l G 29 62 60 sk_29 sk_62 rfl (Int.tmod (S1.1 322) 60) (S1.1 323) S1 S3 hc4) ym_X4_put si_X2_36 im_X4_put se_X4_put sk_29 rfl ⟨Nat.le_of_ble_eq_true rfl, Nat.le_of_ble_eq_true rfl⟩ rfl rfl (Nat.le_of_ble_eq_true rfl) dX2_add_31 ⟨Nat.le_refl _, Nat.le_refl _⟩ (fun hrv => av_eq (st2 := []) rfl rfl rfl rfl ?_))
  refine av_aload_n (pc := 34) (j := 0) C dX2_add_34 rfl rfl ?_
  refine av_dup (pc := 35) C dX2_add_35 rfl ?_
  refine av_getI (pc := 36) (k := 2) (n := 322) C fl_X2_23 sk_5 rfl rfl dX2_add_36 ?_
  refine av_iconst (pc := 39) C dX2_add_39 rfl ?_
  refine av_iadd (pc := 40) C dX2_add_40 ?_
  obtain ⟨S5, eS5, hs⟩ := am_let_of hs
  refine av_putI (pc := 41) (k := 2) (n := 322) C fp_X2_23 sk_5 rfl rfl dX2_add_41 ?_
  refine av_eq rfl rfl rfl eS5 ?_
  obtain rfl := am_inj1 hs
  exact av_vret C hr hlocks dX2_add_44
set_option maxHeartbeats 4000000 in
set_option maxRecDepth 100000 in
theorem ct_X2_valueOf (l : Launch) (G : am_G) (a1 : Int) (S : am_S) (x : Int) (SZ : am_S) (hs : sf_X2_valueOf a1 S = some (x, SZ)) : am_met l yX2_valueOf cX2_valueOf 2 (some .long) 1 21 G [am_R 5, am_I a1] S (some (am_J x)) SZ := by
  refine am_enter ym_X2_valueOf (Nat.le_of_ble_eq_true rfl) ?_
  intro p e s m args below meth c C hr hlocks
  refine av_eq (lv2 := [(0, am_R 5), (1, am_I a1)]) rfl rfl rfl rfl ?_
  unfold sf_X2_valueOf at hs
  refine av_aload_n (pc := 0) (j := 0) C dX2_valueOf_0 rfl rfl ?_
  refine av_getR (pc := 1) (k := 0) (r := 28) C fl_X2_14 sk_5 rfl dX2_valueOf_1 ?_
  refine av_aload_n (pc := 4) (j := 0) C dX2_valueOf_4 rfl rfl ?_
  refine av_getI (pc := 5) (k := 2) (n := 322) C fl_X2_23 sk_5 rfl rfl dX2_valueOf_5 ?_
  refine av_iconst (pc := 8) C dX2_valueOf_8 rfl ?_
  refine av_isub (pc := 9) C dX2_valueOf_9 ?_
  refine av_iload_n (pc := 10) (j := 1) C dX2_valueOf_10 rfl rfl ?_
  refine av_isub (pc := 11) C dX2_valueOf_11 ?_
  refine av_bipush (pc := 12) C dX2_valueOf_12 rfl ?_
  refine av_irem (pc := 14) C dX2_valueOf_14 (by decide) ?_
  obtain ⟨x2, S1, hc3, hs⟩ := am_b2_of hs
  refine av_eq (st2 := [am_I (Int.tmod (am_w32 ((am_w32 ((S.1 322) - 1)) - a1)) 60), am_R 28]) rfl rfl rfl rfl (av_callV (pc := 15) (as := [am_I (Int.tmod (am_w32 ((am_w32 ((S.1 322) - 1)) - a1)) 60)]) (rest := []) C (ct_X4_valueAt l G 28 61 60 sk_28 sk_61 rfl (Int.tmod (am_w32 ((am_w32 ((S.1 322) - 1)) - a1)) 60) S x2 S1 hc3) ym_X4_valueAt si_X2_40 im_X4_valueAt se_X4_valueAt sk_28 rfl ⟨Nat.le_of_ble_eq_true rfl, Nat.le_of_ble_eq_true rfl⟩ rfl rfl (Nat.le_of_ble_eq_true rfl) dX2_valueOf_15 ⟨Nat.le_refl _, Nat.le_refl _⟩ (fun hrv => av_eq (st2 := [am_J x2]) rfl rfl rfl rfl ?_))
  obtain ⟨rfl, rfl⟩ := am_inj2 hs
  exact av_lret C hr hlocks dX2_valueOf_18
set_option maxHeartbeats 4000000 in
set_option maxRecDepth 100000 in
theorem ct_X2_turnOf (l : Launch) (G : am_G) (a1 : Int) (S : am_S) (x : Int) (SZ : am_S) (hs : sf_X2_turnOf a1 S = some (x, SZ)) : am_met l yX2_turnOf cX2_turnOf 2 (some .int) 1 21 G [am_R 5, am_I a1] S (some (am_I x)) SZ := by
  refine am_enter ym_X2_turnOf (Nat.le_of_ble_eq_true rfl) ?_
  intro p e s m args below meth c C hr hlocks
  refine av_eq (lv2 := [(0, am_R 5), (1, am_I a1)]) rfl rfl rfl rfl ?_
  unfold sf_X2_turnOf at hs
  refine av_aload_n (pc := 0) (j := 0) C dX2_turnOf_0 rfl rfl ?_
  refine av_getR (pc := 1) (k := 1) (r := 29) C fl_X2_20 sk_5 rfl dX2_turnOf_1 ?_
  refine av_aload_n (pc := 4) (j := 0) C dX2_turnOf_4 rfl rfl ?_
  refine av_getI (pc := 5) (k := 2) (n := 322) C fl_X2_23 sk_5 rfl rfl dX2_turnOf_5 ?_
  refine av_iconst (pc := 8) C dX2_turnOf_8 rfl ?_
  refine av_isub (pc := 9) C dX2_turnOf_9 ?_
  refine av_iload_n (pc := 10) (j := 1) C dX2_turnOf_10 rfl rfl ?_
  refine av_isub (pc := 11) C dX2_turnOf_11 ?_
  refine av_bipush (pc := 12) C dX2_turnOf_12 rfl ?_
  refine av_irem (pc := 14) C dX2_turnOf_14 (by decide) ?_
  obtain ⟨x2, S1, hc3, hs⟩ := am_b2_of hs
  refine av_eq (st2 := [am_I (Int.tmod (am_w32 ((am_w32 ((S.1 322) - 1)) - a1)) 60), am_R 29]) rfl rfl rfl rfl (av_callV (pc := 15) (as := [am_I (Int.tmod (am_w32 ((am_w32 ((S.1 322) - 1)) - a1)) 60)]) (rest := []) C (ct_X4_at l G 29 62 60 sk_29 sk_62 rfl (Int.tmod (am_w32 ((am_w32 ((S.1 322) - 1)) - a1)) 60) S x2 S1 hc3) ym_X4_at si_X2_44 im_X4_at se_X4_at sk_29 rfl ⟨Nat.le_of_ble_eq_true rfl, Nat.le_of_ble_eq_true rfl⟩ rfl rfl (Nat.le_of_ble_eq_true rfl) dX2_turnOf_15 ⟨Nat.le_refl _, Nat.le_refl _⟩ (fun hrv => av_eq (st2 := [am_I x2]) rfl rfl rfl rfl ?_))
  obtain ⟨rfl, rfl⟩ := am_inj2 hs
  exact av_iret C hr hlocks dX2_turnOf_18
set_option maxHeartbeats 4000000 in
set_option maxRecDepth 100000 in
theorem ct_X3_clear (l : Launch) (G : am_G) (S : am_S) (SZ : am_S) (hs : sf_X3_clear  S = some SZ) : am_met l yX3_clear cX3_clear 1 none 0 0 G [am_R 1] S none SZ := by
  refine am_enter ym_X3_clear (Nat.le_of_ble_eq_true rfl) ?_
  intro p e s m args below meth c C hr hlocks
  refine av_eq (lv2 := [(0, am_R 1)]) rfl rfl rfl rfl ?_
  unfold sf_X3_clear at hs
  refine av_aload_n (pc := 0) (j := 0) C dX3_clear_0 rfl rfl ?_
  refine av_iconst (pc := 1) C dX3_clear_1 rfl ?_
  obtain ⟨S1, eS1, hs⟩ := am_let_of hs
  refine av_putI (pc := 2) (k := 11) (n := 75) C fp_X3_50 sk_1 rfl rfl dX3_clear_2 ?_
  refine av_eq rfl rfl rfl eS1 ?_
  refine av_aload_n (pc := 5) (j := 0) C dX3_clear_5 rfl rfl ?_
  refine av_iconst (pc := 6) C dX3_clear_6 rfl ?_
  obtain ⟨S2, eS2, hs⟩ := am_let_of hs
  refine av_putI (pc := 7) (k := 12) (n := 76) C fp_X3_54 sk_1 rfl rfl dX3_clear_7 ?_
  refine av_eq rfl rfl rfl eS2 ?_
  obtain rfl := am_inj1 hs
  exact av_vret C hr hlocks dX3_clear_10
set_option maxHeartbeats 4000000 in
set_option maxRecDepth 100000 in
theorem ct_X3_isFull (l : Launch) (G : am_G) (S : am_S) (x : Int) (SZ : am_S) (hs : sf_X3_isFull  S = some (x, SZ)) : am_met l yX3_isFull cX3_isFull 1 (some .boolean) 0 0 G [am_R 1] S (some (am_I x)) SZ := by
  refine am_enter ym_X3_isFull (Nat.le_of_ble_eq_true rfl) ?_
  intro p e s m args below meth c C hr hlocks
  refine av_eq (lv2 := [(0, am_R 1)]) rfl rfl rfl rfl ?_
  unfold sf_X3_isFull at hs
  refine av_aload_n (pc := 0) (j := 0) C dX3_isFull_0 rfl rfl ?_
  refine av_getI (pc := 1) (k := 11) (n := 75) C fl_X3_50 sk_1 rfl rfl dX3_isFull_1 ?_
  refine av_bipush (pc := 4) C dX3_isFull_4 rfl ?_
  refine av_icmp_lt (pc := 6) (tgt := 13) C dX3_isFull_6 (by decide) (fun hc => ?_) (fun hc => ?_)
  · rw [if_pos hc] at hs
    refine av_iconst (pc := 13) C dX3_isFull_13 rfl ?_
    obtain ⟨rfl, rfl⟩ := am_inj2 hs
    exact av_zret C (by decide) hr hlocks dX3_isFull_14
  · rw [if_neg hc] at hs
    refine av_iconst (pc := 9) C dX3_isFull_9 rfl ?_
    refine av_goto (pc := 10) (tgt := 14) C dX3_isFull_10 (by decide) ?_
    obtain ⟨rfl, rfl⟩ := am_inj2 hs
    exact av_zret C (by decide) hr hlocks dX3_isFull_14
set_option maxHeartbeats 4000000 in
set_option maxRecDepth 100000 in
theorem ct_X3_statusOf (l : Launch) (G : am_G) (a1 : Int) (S : am_S) (x : Int) (SZ : am_S) (hs : sf_X3_statusOf a1 S = some (x, SZ)) : am_met l yX3_statusOf cX3_statusOf 2 (some .int) 1 21 G [am_R 1, am_I a1] S (some (am_I x)) SZ := by
  refine am_enter ym_X3_statusOf (Nat.le_of_ble_eq_true rfl) ?_
  intro p e s m args below meth c C hr hlocks
  refine av_eq (lv2 := [(0, am_R 1), (1, am_I a1)]) rfl rfl rfl rfl ?_
  unfold sf_X3_statusOf at hs
  refine av_aload_n (pc := 0) (j := 0) C dX3_statusOf_0 rfl rfl ?_
  refine av_getR (pc := 1) (k := 0) (r := 8) C fl_X3_14 sk_1 rfl dX3_statusOf_1 ?_
  refine av_iload_n (pc := 4) (j := 1) C dX3_statusOf_4 rfl rfl ?_
  obtain ⟨x2, S1, hc3, hs⟩ := am_b2_of hs
  refine av_eq (st2 := [am_I a1, am_R 8]) rfl rfl rfl rfl (av_callV (pc := 5) (as := [am_I a1]) (rest := []) C (ct_X4_at l G 8 41 100 sk_8 sk_41 rfl a1 S x2 S1 hc3) ym_X4_at si_X3_67 im_X4_at se_X4_at sk_8 rfl ⟨Nat.le_of_ble_eq_true rfl, Nat.le_of_ble_eq_true rfl⟩ rfl rfl (Nat.le_of_ble_eq_true rfl) dX3_statusOf_5 ⟨Nat.le_refl _, Nat.le_refl _⟩ (fun hrv => av_eq (st2 := [am_I x2]) rfl rfl rfl rfl ?_))
  obtain ⟨rfl, rfl⟩ := am_inj2 hs
  exact av_iret C hr hlocks dX3_statusOf_8
set_option maxHeartbeats 4000000 in
set_option maxRecDepth 100000 in
theorem ct_X3_valueOf (l : Launch) (G : am_G) (a1 : Int) (S : am_S) (x : Int) (SZ : am_S) (hs : sf_X3_valueOf a1 S = some (x, SZ)) : am_met l yX3_valueOf cX3_valueOf 2 (some .long) 1 21 G [am_R 1, am_I a1] S (some (am_J x)) SZ := by
  refine am_enter ym_X3_valueOf (Nat.le_of_ble_eq_true rfl) ?_
  intro p e s m args below meth c C hr hlocks
  refine av_eq (lv2 := [(0, am_R 1), (1, am_I a1)]) rfl rfl rfl rfl ?_
  unfold sf_X3_valueOf at hs
  refine av_aload_n (pc := 0) (j := 0) C dX3_valueOf_0 rfl rfl ?_
  refine av_getR (pc := 1) (k := 1) (r := 9) C fl_X3_20 sk_1 rfl dX3_valueOf_1 ?_
  refine av_iload_n (pc := 4) (j := 1) C dX3_valueOf_4 rfl rfl ?_
  obtain ⟨x2, S1, hc3, hs⟩ := am_b2_of hs
  refine av_eq (st2 := [am_I a1, am_R 9]) rfl rfl rfl rfl (av_callV (pc := 5) (as := [am_I a1]) (rest := []) C (ct_X4_valueAt l G 9 42 100 sk_9 sk_42 rfl a1 S x2 S1 hc3) ym_X4_valueAt si_X3_71 im_X4_valueAt se_X4_valueAt sk_9 rfl ⟨Nat.le_of_ble_eq_true rfl, Nat.le_of_ble_eq_true rfl⟩ rfl rfl (Nat.le_of_ble_eq_true rfl) dX3_valueOf_5 ⟨Nat.le_refl _, Nat.le_refl _⟩ (fun hrv => av_eq (st2 := [am_J x2]) rfl rfl rfl rfl ?_))
  obtain ⟨rfl, rfl⟩ := am_inj2 hs
  exact av_lret C hr hlocks dX3_valueOf_8
set_option maxHeartbeats 4000000 in
set_option maxRecDepth 100000 in
theorem ct_X3_lastKeyOf (l : Launch) (G : am_G) (a1 : Int) (S : am_S) (x : Int) (SZ : am_S) (hs : sf_X3_lastKeyOf a1 S = some (x, SZ)) : am_met l yX3_lastKeyOf cX3_lastKeyOf 2 (some .int) 1 21 G [am_R 1, am_I a1] S (some (am_I x)) SZ := by
  refine am_enter ym_X3_lastKeyOf (Nat.le_of_ble_eq_true rfl) ?_
  intro p e s m args below meth c C hr hlocks
  refine av_eq (lv2 := [(0, am_R 1), (1, am_I a1)]) rfl rfl rfl rfl ?_
  unfold sf_X3_lastKeyOf at hs
  refine av_aload_n (pc := 0) (j := 0) C dX3_lastKeyOf_0 rfl rfl ?_
  refine av_getR (pc := 1) (k := 2) (r := 10) C fl_X3_23 sk_1 rfl dX3_lastKeyOf_1 ?_
  refine av_iload_n (pc := 4) (j := 1) C dX3_lastKeyOf_4 rfl rfl ?_
  obtain ⟨x2, S1, hc3, hs⟩ := am_b2_of hs
  refine av_eq (st2 := [am_I a1, am_R 10]) rfl rfl rfl rfl (av_callV (pc := 5) (as := [am_I a1]) (rest := []) C (ct_X4_at l G 10 43 100 sk_10 sk_43 rfl a1 S x2 S1 hc3) ym_X4_at si_X3_67 im_X4_at se_X4_at sk_10 rfl ⟨Nat.le_of_ble_eq_true rfl, Nat.le_of_ble_eq_true rfl⟩ rfl rfl (Nat.le_of_ble_eq_true rfl) dX3_lastKeyOf_5 ⟨Nat.le_refl _, Nat.le_refl _⟩ (fun hrv => av_eq (st2 := [am_I x2]) rfl rfl rfl rfl ?_))
  obtain ⟨rfl, rfl⟩ := am_inj2 hs
  exact av_iret C hr hlocks dX3_lastKeyOf_8
set_option maxHeartbeats 4000000 in
set_option maxRecDepth 100000 in
theorem ct_X3_reactionsOf (l : Launch) (G : am_G) (a1 : Int) (S : am_S) (x : Int) (SZ : am_S) (hs : sf_X3_reactionsOf a1 S = some (x, SZ)) : am_met l yX3_reactionsOf cX3_reactionsOf 2 (some .int) 1 21 G [am_R 1, am_I a1] S (some (am_I x)) SZ := by
  refine am_enter ym_X3_reactionsOf (Nat.le_of_ble_eq_true rfl) ?_
  intro p e s m args below meth c C hr hlocks
  refine av_eq (lv2 := [(0, am_R 1), (1, am_I a1)]) rfl rfl rfl rfl ?_
  unfold sf_X3_reactionsOf at hs
  refine av_aload_n (pc := 0) (j := 0) C dX3_reactionsOf_0 rfl rfl ?_
  refine av_getR (pc := 1) (k := 6) (r := 14) C fl_X3_35 sk_1 rfl dX3_reactionsOf_1 ?_
  refine av_iload_n (pc := 4) (j := 1) C dX3_reactionsOf_4 rfl rfl ?_
  obtain ⟨x2, S1, hc3, hs⟩ := am_b2_of hs
  refine av_eq (st2 := [am_I a1, am_R 14]) rfl rfl rfl rfl (av_callV (pc := 5) (as := [am_I a1]) (rest := []) C (ct_X4_at l G 14 47 100 sk_14 sk_47 rfl a1 S x2 S1 hc3) ym_X4_at si_X3_67 im_X4_at se_X4_at sk_14 rfl ⟨Nat.le_of_ble_eq_true rfl, Nat.le_of_ble_eq_true rfl⟩ rfl rfl (Nat.le_of_ble_eq_true rfl) dX3_reactionsOf_5 ⟨Nat.le_refl _, Nat.le_refl _⟩ (fun hrv => av_eq (st2 := [am_I x2]) rfl rfl rfl rfl ?_))
  obtain ⟨rfl, rfl⟩ := am_inj2 hs
  exact av_iret C hr hlocks dX3_reactionsOf_8
set_option maxHeartbeats 4000000 in
set_option maxRecDepth 100000 in
theorem ct_X3_isLoose (l : Launch) (G : am_G) (a1 : Int) (S : am_S) (x : Int) (SZ : am_S) (hs : sf_X3_isLoose a1 S = some (x, SZ)) : am_met l yX3_isLoose cX3_isLoose 2 (some .boolean) 1 21 G [am_R 1, am_I a1] S (some (am_I x)) SZ := by
  refine am_enter ym_X3_isLoose (Nat.le_of_ble_eq_true rfl) ?_
  intro p e s m args below meth c C hr hlocks
  refine av_eq (lv2 := [(0, am_R 1), (1, am_I a1)]) rfl rfl rfl rfl ?_
  unfold sf_X3_isLoose at hs
  refine av_aload_n (pc := 0) (j := 0) C dX3_isLoose_0 rfl rfl ?_
  refine av_getR (pc := 1) (k := 0) (r := 8) C fl_X3_14 sk_1 rfl dX3_isLoose_1 ?_
  refine av_iload_n (pc := 4) (j := 1) C dX3_isLoose_4 rfl rfl ?_
  obtain ⟨x2, S1, hc3, hs⟩ := am_b2_of hs
  refine av_eq (st2 := [am_I a1, am_R 8]) rfl rfl rfl rfl (av_callV (pc := 5) (as := [am_I a1]) (rest := []) C (ct_X4_at l G 8 41 100 sk_8 sk_41 rfl a1 S x2 S1 hc3) ym_X4_at si_X3_67 im_X4_at se_X4_at sk_8 rfl ⟨Nat.le_of_ble_eq_true rfl, Nat.le_of_ble_eq_true rfl⟩ rfl rfl (Nat.le_of_ble_eq_true rfl) dX3_isLoose_5 ⟨Nat.le_refl _, Nat.le_refl _⟩ (fun hrv => av_eq (st2 := [am_I x2]) rfl rfl rfl rfl ?_))
  refine av_iconst (pc := 8) C dX3_isLoose_8 rfl ?_
  refine av_icmp_ne (pc := 9) (tgt := 27) C dX3_isLoose_9 (by decide) (fun hc => ?_) (fun hc => ?_)
  · rw [if_neg hc] at hs
    refine av_iconst (pc := 27) C dX3_isLoose_27 rfl ?_
    obtain ⟨rfl, rfl⟩ := am_inj2 hs
    exact av_zret C (by decide) hr hlocks dX3_isLoose_28
  · rw [if_pos (Decidable.not_not.mp hc)] at hs
    refine av_aload_n (pc := 12) (j := 0) C dX3_isLoose_12 rfl rfl ?_
    refine av_getR (pc := 13) (k := 4) (r := 12) C fl_X3_29 sk_1 rfl dX3_isLoose_13 ?_
    refine av_iload_n (pc := 16) (j := 1) C dX3_isLoose_16 rfl rfl ?_
    obtain ⟨x5, S4, hc6, hs⟩ := am_b2_of hs
    refine av_eq (st2 := [am_I a1, am_R 12]) rfl rfl rfl rfl (av_callV (pc := 17) (as := [am_I a1]) (rest := []) C (ct_X4_at l G 12 45 100 sk_12 sk_45 rfl a1 S1 x5 S4 hc6) ym_X4_at si_X3_67 im_X4_at se_X4_at sk_12 rfl ⟨Nat.le_of_ble_eq_true rfl, Nat.le_of_ble_eq_true rfl⟩ rfl rfl (Nat.le_of_ble_eq_true rfl) dX3_isLoose_17 ⟨Nat.le_refl _, Nat.le_refl _⟩ (fun hrv => av_eq (st2 := [am_I x5]) rfl rfl rfl rfl ?_))
    refine av_if_ne (pc := 20) (tgt := 27) C dX3_isLoose_20 (by decide) (fun hc => ?_) (fun hc => ?_)
    · rw [if_neg hc] at hs
      refine av_iconst (pc := 27) C dX3_isLoose_27 rfl ?_
      obtain ⟨rfl, rfl⟩ := am_inj2 hs
      exact av_zret C (by decide) hr hlocks dX3_isLoose_28
    · rw [if_pos (Decidable.not_not.mp hc)] at hs
      refine av_iconst (pc := 23) C dX3_isLoose_23 rfl ?_
      refine av_goto (pc := 24) (tgt := 28) C dX3_isLoose_24 (by decide) ?_
      obtain ⟨rfl, rfl⟩ := am_inj2 hs
      exact av_zret C (by decide) hr hlocks dX3_isLoose_28
set_option maxHeartbeats 4000000 in
set_option maxRecDepth 100000 in
theorem wk_X3_loose_4 {p : Program} {l : Launch} {e : Env} {s : State} {m : MethodId} {args : Array Value} {below : List Frame} {meth : Method} {c : Code} {G : am_G} (C : am_C p s m args c cX3_loose 3 RX3 G) (hr : meth.sig.returnType = (some .int)) (hlocks : meth.locks = false) : ∀ (fu : Nat) (b1 : Int) (b2 : Int) (S : am_S) (x : Int) (SZ : am_S), sf_X3_loose_4 fu b1 b2 S = some (x, SZ) → am_V p l e (am_rm 2 42) s m args below meth c (MQ below (am_Q G (some (am_I x)) SZ) args s 0 0 (am_A G)) G (am_A G) s.heap 3 0 0 4 [(0, am_R 1), (1, am_I b1), (2, am_I b2)] [] S := by
  intro fu
  induction fu with
  | zero => intro b1 b2 S x SZ hs; cases hs
  | succ fu ih =>
    intro b1 b2 S x SZ hs
    unfold sf_X3_loose_4 at hs
    refine av_iload_n (pc := 4) (j := 2) C dX3_loose_4 rfl rfl ?_
    refine av_aload_n (pc := 5) (j := 0) C dX3_loose_5 rfl rfl ?_
    refine av_getI (pc := 6) (k := 11) (n := 75) C fl_X3_50 sk_1 rfl rfl dX3_loose_6 ?_
    refine av_icmp_ge (pc := 9) (tgt := 29) C dX3_loose_9 (by decide) (fun hc => ?_) (fun hc => ?_)
    · rw [if_pos hc] at hs
      refine av_iload_n (pc := 29) (j := 1) C dX3_loose_29 rfl rfl ?_
      obtain ⟨rfl, rfl⟩ := am_inj2 hs
      exact av_iret C hr hlocks dX3_loose_30
    · rw [if_neg hc] at hs
      refine av_aload_n (pc := 12) (j := 0) C dX3_loose_12 rfl rfl ?_
      refine av_iload_n (pc := 13) (j := 2) C dX3_loose_13 rfl rfl ?_
      obtain ⟨x2, S1, hc3, hs⟩ := am_b2_of hs
      refine av_eq (st2 := [am_I b2, am_R 1]) rfl rfl rfl rfl (av_callV (pc := 14) (as := [am_I b2]) (rest := []) C (ct_X3_isLoose l G b2 S x2 S1 hc3) ym_X3_isLoose si_X3_75 im_X3_isLoose se_X3_isLoose sk_1 rfl ⟨Nat.le_of_ble_eq_true rfl, Nat.le_of_ble_eq_true rfl⟩ rfl rfl (Nat.le_of_ble_eq_true rfl) dX3_loose_14 ⟨Nat.le_refl _, Nat.le_refl _⟩ (fun hrv => av_eq (st2 := [am_I x2]) rfl rfl rfl rfl ?_))
      refine av_if_eq (pc := 17) (tgt := 23) C dX3_loose_17 (by decide) (fun hc => ?_) (fun hc => ?_)
      · rw [if_pos hc] at hs
        refine av_iinc (pc := 23) (j := 2) (lv2 := [(2, am_I (am_w32 (b2 + 1))), (0, am_R 1), (1, am_I b1)]) C dX3_loose_23 rfl (by decide) rfl ?_
        refine av_goto (pc := 26) (tgt := 4) C dX3_loose_26 (by decide) ?_
        refine av_lvsub (lv2 := [(0, am_R 1), (1, am_I b1), (2, am_I (am_w32 (b2 + 1)))]) [1, 2, 0] rfl ?_
        exact ih b1 (am_w32 (b2 + 1)) S1 x SZ hs
      · rw [if_neg hc] at hs
        refine av_iinc (pc := 20) (j := 1) (lv2 := [(1, am_I (am_w32 (b1 + 1))), (0, am_R 1), (2, am_I b2)]) C dX3_loose_20 rfl (by decide) rfl ?_
        refine av_iinc (pc := 23) (j := 2) (lv2 := [(2, am_I (am_w32 (b2 + 1))), (1, am_I (am_w32 (b1 + 1))), (0, am_R 1)]) C dX3_loose_23 rfl (by decide) rfl ?_
        refine av_goto (pc := 26) (tgt := 4) C dX3_loose_26 (by decide) ?_
        refine av_lvsub (lv2 := [(0, am_R 1), (1, am_I (am_w32 (b1 + 1))), (2, am_I (am_w32 (b2 + 1)))]) [2, 1, 0] rfl ?_
        exact ih (am_w32 (b1 + 1)) (am_w32 (b2 + 1)) S1 x SZ hs
set_option maxHeartbeats 4000000 in
set_option maxRecDepth 100000 in
theorem ct_X3_loose (l : Launch) (G : am_G) (S : am_S) (x : Int) (SZ : am_S) (hs : sf_X3_loose  S = some (x, SZ)) : am_met l yX3_loose cX3_loose 3 (some .int) 2 42 G [am_R 1] S (some (am_I x)) SZ := by
  refine am_enter ym_X3_loose (Nat.le_of_ble_eq_true rfl) ?_
  intro p e s m args below meth c C hr hlocks
  refine av_eq (lv2 := [(0, am_R 1)]) rfl rfl rfl rfl ?_
  unfold sf_X3_loose at hs
  refine av_iconst (pc := 0) C dX3_loose_0 rfl ?_
  refine av_istore_n (pc := 1) (i := 1) (lv2 := [(1, am_I 0), (0, am_R 1)]) C dX3_loose_1 rfl (by decide) rfl ?_
  refine av_iconst (pc := 2) C dX3_loose_2 rfl ?_
  refine av_istore_n (pc := 3) (i := 2) (lv2 := [(2, am_I 0), (1, am_I 0), (0, am_R 1)]) C dX3_loose_3 rfl (by decide) rfl ?_
  refine av_lvsub (lv2 := [(0, am_R 1), (1, am_I 0), (2, am_I 0)]) [2, 1, 0] rfl ?_
  exact wk_X3_loose_4 C hr hlocks 1000 0 0 S x SZ hs
set_option maxHeartbeats 4000000 in
set_option maxRecDepth 100000 in
theorem ct_X3_addKey (l : Launch) (G : am_G) (a1 : Int) (S : am_S) (x : Int) (SZ : am_S) (hs : sf_X3_addKey a1 S = some (x, SZ)) : am_met l yX3_addKey cX3_addKey 3 (some .int) 1 23 G [am_R 1, am_I a1] S (some (am_I x)) SZ := by
  refine am_enter ym_X3_addKey (Nat.le_of_ble_eq_true rfl) ?_
  intro p e s m args below meth c C hr hlocks
  refine av_eq (lv2 := [(0, am_R 1), (1, am_I a1)]) rfl rfl rfl rfl ?_
  unfold sf_X3_addKey at hs
  refine av_aload_n (pc := 0) (j := 0) C dX3_addKey_0 rfl rfl ?_
  refine av_getR (pc := 1) (k := 2) (r := 10) C fl_X3_23 sk_1 rfl dX3_addKey_1 ?_
  refine av_iload_n (pc := 4) (j := 1) C dX3_addKey_4 rfl rfl ?_
  obtain ⟨x2, S1, hc3, hs⟩ := am_b2_of hs
  refine av_eq (st2 := [am_I a1, am_R 10]) rfl rfl rfl rfl (av_callV (pc := 5) (as := [am_I a1]) (rest := []) C (ct_X4_at l G 10 43 100 sk_10 sk_43 rfl a1 S x2 S1 hc3) ym_X4_at si_X3_67 im_X4_at se_X4_at sk_10 rfl ⟨Nat.le_of_ble_eq_true rfl, Nat.le_of_ble_eq_true rfl⟩ rfl rfl (Nat.le_of_ble_eq_true rfl) dX3_addKey_5 ⟨Nat.le_refl _, Nat.le_refl _⟩ (fun hrv => av_eq (st2 := [am_I x2]) rfl rfl rfl rfl ?_))
  refine av_iconst (pc := 8) C dX3_addKey_8 rfl ?_
  refine av_iadd (pc := 9) C dX3_addKey_9 ?_
  refine av_istore_n (pc := 10) (i := 2) (lv2 := [(2, am_I (am_w32 (x2 + 1))), (0, am_R 1), (1, am_I a1)]) C dX3_addKey_10 rfl (by decide) rfl ?_
  refine av_aload_n (pc := 11) (j := 1) C dX3_addKey_11 rfl rfl ?_
  refine av_getR (pc := 12) (k := 2) (r := 10) C fl_X3_23 sk_1 rfl dX3_addKey_12 ?_
  refine av_iload_n (pc := 15) (j := 2) C dX3_addKey_15 rfl rfl ?_
  refine av_iload_n (pc := 16) (j := 0) C dX3_addKey_16 rfl rfl ?_
  refine av_i2l (pc := 17) C dX3_addKey_17 ?_
  obtain ⟨S4, hc5, hs⟩ := am_b1_of hs
  refine av_eq (st2 := [am_J (am_w32 (x2 + 1)), am_I a1, am_R 10]) rfl rfl rfl rfl (av_callV (pc := 18) (as := [am_I a1, am_J (am_w32 (x2 + 1))]) (rest := []) C (ct_X4_put l G 10 43 100 sk_10 sk_43 rfl a1 (am_w32 (x2 + 1)) S1 S4 hc5) ym_X4_put si_X3_79 im_X4_put se_X4_put sk_10 rfl ⟨Nat.le_of_ble_eq_true rfl, Nat.le_of_ble_eq_true rfl⟩ rfl rfl (Nat.le_of_ble_eq_true rfl) dX3_addKey_18 ⟨Nat.le_refl _, Nat.le_refl _⟩ (fun hrv => av_eq (st2 := []) rfl rfl rfl rfl ?_))
  refine av_aload_n (pc := 21) (j := 1) C dX3_addKey_21 rfl rfl ?_
  refine av_getR (pc := 22) (k := 3) (r := 11) C fl_X3_26 sk_1 rfl dX3_addKey_22 ?_
  refine av_iload_n (pc := 25) (j := 2) C dX3_addKey_25 rfl rfl ?_
  refine av_lconst (pc := 26) (x := 0) C dX3_addKey_26 rfl rfl ?_
  obtain ⟨S6, hc7, hs⟩ := am_b1_of hs
  refine av_eq (st2 := [am_J 0, am_I a1, am_R 11]) rfl rfl rfl rfl (av_callV (pc := 27) (as := [am_I a1, am_J 0]) (rest := []) C (ct_X4_put l G 11 44 100 sk_11 sk_44 rfl a1 0 S4 S6 hc7) ym_X4_put si_X3_79 im_X4_put se_X4_put sk_11 rfl ⟨Nat.le_of_ble_eq_true rfl, Nat.le_of_ble_eq_true rfl⟩ rfl rfl (Nat.le_of_ble_eq_true rfl) dX3_addKey_27 ⟨Nat.le_refl _, Nat.le_refl _⟩ (fun hrv => av_eq (st2 := []) rfl rfl rfl rfl ?_))
  refine av_iload_n (pc := 30) (j := 0) C dX3_addKey_30 rfl rfl ?_
  obtain ⟨rfl, rfl⟩ := am_inj2 hs
  exact av_iret C hr hlocks dX3_addKey_31
set_option maxHeartbeats 4000000 in
set_option maxRecDepth 100000 in
theorem ct_X3_toAdopt (l : Launch) (G : am_G) (a1 : Int) (S : am_S) (x : Int) (SZ : am_S) (hs : sf_X3_toAdopt a1 S = some (x, SZ)) : am_met l yX3_toAdopt cX3_toAdopt 2 (some .long) 1 21 G [am_R 1, am_I a1] S (some (am_J x)) SZ := by
  refine am_enter ym_X3_toAdopt (Nat.le_of_ble_eq_true rfl) ?_
  intro p e s m args below meth c C hr hlocks
  refine av_eq (lv2 := [(0, am_R 1), (1, am_I a1)]) rfl rfl rfl rfl ?_
  unfold sf_X3_toAdopt at hs
  refine av_aload_n (pc := 0) (j := 0) C dX3_toAdopt_0 rfl rfl ?_
  refine av_getR (pc := 1) (k := 5) (r := 13) C fl_X3_32 sk_1 rfl dX3_toAdopt_1 ?_
  refine av_iload_n (pc := 4) (j := 1) C dX3_toAdopt_4 rfl rfl ?_
  obtain ⟨x2, S1, hc3, hs⟩ := am_b2_of hs
  refine av_eq (st2 := [am_I a1, am_R 13]) rfl rfl rfl rfl (av_callV (pc := 5) (as := [am_I a1]) (rest := []) C (ct_X4_valueAt l G 13 46 100 sk_13 sk_46 rfl a1 S x2 S1 hc3) ym_X4_valueAt si_X3_71 im_X4_valueAt se_X4_valueAt sk_13 rfl ⟨Nat.le_of_ble_eq_true rfl, Nat.le_of_ble_eq_true rfl⟩ rfl rfl (Nat.le_of_ble_eq_true rfl) dX3_toAdopt_5 ⟨Nat.le_refl _, Nat.le_refl _⟩ (fun hrv => av_eq (st2 := [am_J x2]) rfl rfl rfl rfl ?_))
  obtain ⟨rfl, rfl⟩ := am_inj2 hs
  exact av_lret C hr hlocks dX3_toAdopt_8
set_option maxHeartbeats 4000000 in
set_option maxRecDepth 100000 in
theorem ct_X3_jobs (l : Launch) (G : am_G) (S : am_S) (x : Int) (SZ : am_S) (hs : sf_X3_jobs  S = some (x, SZ)) : am_met l yX3_jobs cX3_jobs 1 (some .int) 0 0 G [am_R 1] S (some (am_I x)) SZ := by
  refine am_enter ym_X3_jobs (Nat.le_of_ble_eq_true rfl) ?_
  intro p e s m args below meth c C hr hlocks
  refine av_eq (lv2 := [(0, am_R 1)]) rfl rfl rfl rfl ?_
  unfold sf_X3_jobs at hs
  refine av_aload_n (pc := 0) (j := 0) C dX3_jobs_0 rfl rfl ?_
  refine av_getI (pc := 1) (k := 12) (n := 76) C fl_X3_54 sk_1 rfl rfl dX3_jobs_1 ?_
  obtain ⟨rfl, rfl⟩ := am_inj2 hs
  exact av_iret C hr hlocks dX3_jobs_4
set_option maxHeartbeats 4000000 in
set_option maxRecDepth 100000 in
theorem ct_X3_takeJob (l : Launch) (G : am_G) (S : am_S) (x : Int) (SZ : am_S) (hs : sf_X3_takeJob  S = some (x, SZ)) : am_met l yX3_takeJob cX3_takeJob 2 (some .int) 1 21 G [am_R 1] S (some (am_I x)) SZ := by
  refine am_enter ym_X3_takeJob (Nat.le_of_ble_eq_true rfl) ?_
  intro p e s m args below meth c C hr hlocks
  refine av_eq (lv2 := [(0, am_R 1)]) rfl rfl rfl rfl ?_
  unfold sf_X3_takeJob at hs
  refine av_aload_n (pc := 0) (j := 0) C dX3_takeJob_0 rfl rfl ?_
  refine av_getI (pc := 1) (k := 13) (n := 77) C fl_X3_57 sk_1 rfl rfl dX3_takeJob_1 ?_
  refine av_istore_n (pc := 4) (i := 1) (lv2 := [(1, am_I (S.1 77)), (0, am_R 1)]) C dX3_takeJob_4 rfl (by decide) rfl ?_
  refine av_aload_n (pc := 5) (j := 1) C dX3_takeJob_5 rfl rfl ?_
  refine av_aload_n (pc := 6) (j := 1) C dX3_takeJob_6 rfl rfl ?_
  refine av_getR (pc := 7) (k := 9) (r := 17) C fl_X3_44 sk_1 rfl dX3_takeJob_7 ?_
  refine av_iload_n (pc := 10) (j := 0) C dX3_takeJob_10 rfl rfl ?_
  obtain ⟨x2, S1, hc3, hs⟩ := am_b2_of hs
  refine av_eq (st2 := [am_I (S.1 77), am_R 17, am_R 1]) rfl rfl rfl rfl (av_callV (pc := 11) (as := [am_I (S.1 77)]) (rest := [am_R 1]) C (ct_X4_at l G 17 50 900 sk_17 sk_50 rfl (S.1 77) S x2 S1 hc3) ym_X4_at si_X3_67 im_X4_at se_X4_at sk_17 rfl ⟨Nat.le_of_ble_eq_true rfl, Nat.le_of_ble_eq_true rfl⟩ rfl rfl (Nat.le_of_ble_eq_true rfl) dX3_takeJob_11 ⟨Nat.le_refl _, Nat.le_refl _⟩ (fun hrv => av_eq (st2 := [am_I x2, am_R 1]) rfl rfl rfl rfl ?_))
  obtain ⟨S4, eS4, hs⟩ := am_let_of hs
  refine av_putI (pc := 14) (k := 13) (n := 77) C fp_X3_57 sk_1 rfl rfl dX3_takeJob_14 ?_
  refine av_eq rfl rfl rfl eS4 ?_
  refine av_aload_n (pc := 17) (j := 1) C dX3_takeJob_17 rfl rfl ?_
  refine av_dup (pc := 18) C dX3_takeJob_18 rfl ?_
  refine av_getI (pc := 19) (k := 12) (n := 76) C fl_X3_54 sk_1 rfl rfl dX3_takeJob_19 ?_
  refine av_iconst (pc := 22) C dX3_takeJob_22 rfl ?_
  refine av_isub (pc := 23) C dX3_takeJob_23 ?_
  obtain ⟨S5, eS5, hs⟩ := am_let_of hs
  refine av_putI (pc := 24) (k := 12) (n := 76) C fp_X3_54 sk_1 rfl rfl dX3_takeJob_24 ?_
  refine av_eq rfl rfl rfl eS5 ?_
  refine av_iload_n (pc := 27) (j := 0) C dX3_takeJob_27 rfl rfl ?_
  obtain ⟨rfl, rfl⟩ := am_inj2 hs
  exact av_iret C hr hlocks dX3_takeJob_28
set_option maxHeartbeats 4000000 in
set_option maxRecDepth 100000 in
theorem ct_X3_sourceOf (l : Launch) (G : am_G) (a1 : Int) (S : am_S) (x : Int) (SZ : am_S) (hs : sf_X3_sourceOf a1 S = some (x, SZ)) : am_met l yX3_sourceOf cX3_sourceOf 2 (some .int) 1 21 G [am_R 1, am_I a1] S (some (am_I x)) SZ := by
  refine am_enter ym_X3_sourceOf (Nat.le_of_ble_eq_true rfl) ?_
  intro p e s m args below meth c C hr hlocks
  refine av_eq (lv2 := [(0, am_R 1), (1, am_I a1)]) rfl rfl rfl rfl ?_
  unfold sf_X3_sourceOf at hs
  refine av_aload_n (pc := 0) (j := 0) C dX3_sourceOf_0 rfl rfl ?_
  refine av_getR (pc := 1) (k := 10) (r := 18) C fl_X3_47 sk_1 rfl dX3_sourceOf_1 ?_
  refine av_iload_n (pc := 4) (j := 1) C dX3_sourceOf_4 rfl rfl ?_
  obtain ⟨x2, S1, hc3, hs⟩ := am_b2_of hs
  refine av_eq (st2 := [am_I a1, am_R 18]) rfl rfl rfl rfl (av_callV (pc := 5) (as := [am_I a1]) (rest := []) C (ct_X4_at l G 18 51 900 sk_18 sk_51 rfl a1 S x2 S1 hc3) ym_X4_at si_X3_67 im_X4_at se_X4_at sk_18 rfl ⟨Nat.le_of_ble_eq_true rfl, Nat.le_of_ble_eq_true rfl⟩ rfl rfl (Nat.le_of_ble_eq_true rfl) dX3_sourceOf_5 ⟨Nat.le_refl _, Nat.le_refl _⟩ (fun hrv => av_eq (st2 := [am_I x2]) rfl rfl rfl rfl ?_))
  obtain ⟨rfl, rfl⟩ := am_inj2 hs
  exact av_iret C hr hlocks dX3_sourceOf_8
set_option maxHeartbeats 4000000 in
set_option maxRecDepth 100000 in
theorem wk_X4_fill_2 {p : Program} {l : Launch} {e : Env} {s : State} {m : MethodId} {args : Array Value} {below : List Frame} {meth : Method} {c : Code} {G : am_G} (C : am_C p s m args c cX4_fill 4 RX4 G) (o a n : Nat) (hk : am_sk[o]? = some (.inl (4, [some a]))) (ha : am_sk[a]? = some (.inr (2, n))) (hrn : am_rok (n : Int) = true) (hr : meth.sig.returnType = none) (hlocks : meth.locks = false) : ∀ (fu : Nat) (b1 : Int) (b3 : Int) (S : am_S) (SZ : am_S), sf_X4_fill_2 a n fu b1 b3 S = some SZ → am_V p l e (am_rm 0 0) s m args below meth c (MQ below (am_Q G none SZ) args s 0 0 (am_A G)) G (am_A G) s.heap 4 0 0 2 [(0, am_R o), (1, am_J b1), (3, am_I b3)] [] S := by
  intro fu
  induction fu with
  | zero => intro b1 b3 S SZ hs; cases hs
  | succ fu ih =>
    intro b1 b3 S SZ hs
    unfold sf_X4_fill_2 at hs
    refine av_iload_n (pc := 2) (j := 2) C dX4_fill_2 rfl rfl ?_
    refine av_aload_n (pc := 3) (j := 0) C dX4_fill_3 rfl rfl ?_
    refine av_getR (pc := 4) (k := 0) (r := a) (fl := [some a]) C fl_X4_7 hk rfl dX4_fill_4 ?_
    refine av_alen (pc := 7) C ha (by decide) hrn dX4_fill_7 ?_
    refine av_icmp_ge (pc := 8) (tgt := 24) C dX4_fill_8 (by decide) (fun hc => ?_) (fun hc => ?_)
    · rw [if_pos hc] at hs
      obtain rfl := am_inj1 hs
      exact av_vret C hr hlocks dX4_fill_24
    · rw [if_neg hc] at hs
      refine av_aload_n (pc := 11) (j := 0) C dX4_fill_11 rfl rfl ?_
      refine av_getR (pc := 12) (k := 0) (r := a) (fl := [some a]) C fl_X4_7 hk rfl dX4_fill_12 ?_
      refine av_iload_n (pc := 15) (j := 2) C dX4_fill_15 rfl rfl ?_
      refine av_lload_n (pc := 16) (j := 1) C dX4_fill_16 rfl rfl ?_
      obtain ⟨hb, hs⟩ := am_gd_of hs
      obtain ⟨S1, eS1, hs⟩ := am_let_of hs
      refine av_last (pc := 17) C ha hb dX4_fill_17 ?_
      refine av_eq rfl rfl rfl eS1 ?_
      refine av_iinc (pc := 18) (j := 2) (lv2 := [(3, am_I (am_w32 (b3 + 1))), (0, am_R o), (1, am_J b1)]) C dX4_fill_18 rfl (by decide) rfl ?_
      refine av_goto (pc := 21) (tgt := 2) C dX4_fill_21 (by decide) ?_
      refine av_lvsub (lv2 := [(0, am_R o), (1, am_J b1), (3, am_I (am_w32 (b3 + 1)))]) [1, 2, 0] rfl ?_
      exact ih b1 (am_w32 (b3 + 1)) S1 SZ hs
set_option maxHeartbeats 4000000 in
set_option maxRecDepth 100000 in
theorem ct_X4_fill (l : Launch) (G : am_G) (o a n : Nat) (hk : am_sk[o]? = some (.inl (4, [some a]))) (ha : am_sk[a]? = some (.inr (2, n))) (hrn : am_rok (n : Int) = true) (a1 : Int) (S : am_S) (SZ : am_S) (hs : sf_X4_fill a n a1 S = some SZ) : am_met l yX4_fill cX4_fill 4 none 0 0 G [am_R o, am_J a1] S none SZ := by
  refine am_enter ym_X4_fill (Nat.le_of_ble_eq_true rfl) ?_
  intro p e s m args below meth c C hr hlocks
  refine av_eq (lv2 := [(0, am_R o), (1, am_J a1)]) rfl rfl rfl rfl ?_
  unfold sf_X4_fill at hs
  refine av_iconst (pc := 0) C dX4_fill_0 rfl ?_
  refine av_istore_n (pc := 1) (i := 3) (lv2 := [(3, am_I 0), (0, am_R o), (1, am_J a1)]) C dX4_fill_1 rfl (by decide) rfl ?_
  refine av_lvsub (lv2 := [(0, am_R o), (1, am_J a1), (3, am_I 0)]) [1, 2, 0] rfl ?_
  exact wk_X4_fill_2 C o a n hk ha hrn hr hlocks 1000 a1 0 S SZ hs
set_option maxHeartbeats 4000000 in
set_option maxRecDepth 100000 in
theorem ct_X5_clear (l : Launch) (G : am_G) (S : am_S) (SZ : am_S) (hs : sf_X5_clear  S = some SZ) : am_met l yX5_clear cX5_clear 1 none 1 23 G [am_R 7] S none SZ := by
  refine am_enter ym_X5_clear (Nat.le_of_ble_eq_true rfl) ?_
  intro p e s m args below meth c C hr hlocks
  refine av_eq (lv2 := [(0, am_R 7)]) rfl rfl rfl rfl ?_
  unfold sf_X5_clear at hs
  refine av_aload_n (pc := 0) (j := 0) C dX5_clear_0 rfl rfl ?_
  refine av_getR (pc := 1) (k := 8) (r := 38) C fl_X5_29 sk_7 rfl dX5_clear_1 ?_
  refine av_lconst (pc := 4) (x := 0) C dX5_clear_4 rfl rfl ?_
  obtain ⟨S1, hc2, hs⟩ := am_b1_of hs
  refine av_eq (st2 := [am_J 0, am_R 38]) rfl rfl rfl rfl (av_callV (pc := 5) (as := [am_J 0]) (rest := []) C (ct_X4_fill l G 38 71 100 sk_38 sk_71 rfl 0 S S1 hc2) ym_X4_fill si_X5_64 im_X4_fill se_X4_fill sk_38 rfl ⟨Nat.le_of_ble_eq_true rfl, Nat.le_of_ble_eq_true rfl⟩ rfl rfl (Nat.le_of_ble_eq_true rfl) dX5_clear_5 ⟨Nat.le_refl _, Nat.le_refl _⟩ (fun hrv => av_eq (st2 := []) rfl rfl rfl rfl ?_))
  obtain rfl := am_inj1 hs
  exact av_vret C hr hlocks dX5_clear_8
set_option maxHeartbeats 4000000 in
set_option maxRecDepth 100000 in
theorem ct_X5_isStopped (l : Launch) (G : am_G) (a1 : Int) (S : am_S) (x : Int) (SZ : am_S) (hs : sf_X5_isStopped a1 S = some (x, SZ)) : am_met l yX5_isStopped cX5_isStopped 2 (some .boolean) 1 21 G [am_R 7, am_I a1] S (some (am_I x)) SZ := by
  refine am_enter ym_X5_isStopped (Nat.le_of_ble_eq_true rfl) ?_
  intro p e s m args below meth c C hr hlocks
  refine av_eq (lv2 := [(0, am_R 7), (1, am_I a1)]) rfl rfl rfl rfl ?_
  unfold sf_X5_isStopped at hs
  refine av_aload_n (pc := 0) (j := 0) C dX5_isStopped_0 rfl rfl ?_
  refine av_getR (pc := 1) (k := 8) (r := 38) C fl_X5_29 sk_7 rfl dX5_isStopped_1 ?_
  refine av_iload_n (pc := 4) (j := 1) C dX5_isStopped_4 rfl rfl ?_
  obtain ⟨x2, S1, hc3, hs⟩ := am_b2_of hs
  refine av_eq (st2 := [am_I a1, am_R 38]) rfl rfl rfl rfl (av_callV (pc := 5) (as := [am_I a1]) (rest := []) C (ct_X4_at l G 38 71 100 sk_38 sk_71 rfl a1 S x2 S1 hc3) ym_X4_at si_X5_68 im_X4_at se_X4_at sk_38 rfl ⟨Nat.le_of_ble_eq_true rfl, Nat.le_of_ble_eq_true rfl⟩ rfl rfl (Nat.le_of_ble_eq_true rfl) dX5_isStopped_5 ⟨Nat.le_refl _, Nat.le_refl _⟩ (fun hrv => av_eq (st2 := [am_I x2]) rfl rfl rfl rfl ?_))
  refine av_iconst (pc := 8) C dX5_isStopped_8 rfl ?_
  refine av_icmp_ne (pc := 9) (tgt := 16) C dX5_isStopped_9 (by decide) (fun hc => ?_) (fun hc => ?_)
  · rw [if_neg hc] at hs
    refine av_iconst (pc := 16) C dX5_isStopped_16 rfl ?_
    obtain ⟨rfl, rfl⟩ := am_inj2 hs
    exact av_zret C (by decide) hr hlocks dX5_isStopped_17
  · rw [if_pos (Decidable.not_not.mp hc)] at hs
    refine av_iconst (pc := 12) C dX5_isStopped_12 rfl ?_
    refine av_goto (pc := 13) (tgt := 17) C dX5_isStopped_13 (by decide) ?_
    obtain ⟨rfl, rfl⟩ := am_inj2 hs
    exact av_zret C (by decide) hr hlocks dX5_isStopped_17
set_option maxHeartbeats 4000000 in
set_option maxRecDepth 100000 in
theorem ct_X5_addHandlers (l : Launch) (G : am_G) (a1 : Int) (a2 : Int) (a3 : Int) (S : am_S) (x : Int) (SZ : am_S) (hs : sf_X5_addHandlers a1 a2 a3 S = some (x, SZ)) : am_met l yX5_addHandlers cX5_addHandlers 5 (some .int) 3 69 G [am_R 7, am_I a1, am_I a2, am_I a3] S (some (am_I x)) SZ := by
  refine am_enter ym_X5_addHandlers (Nat.le_of_ble_eq_true rfl) ?_
  intro p e s m args below meth c C hr hlocks
  refine av_eq (lv2 := [(0, am_R 7), (1, am_I a1), (2, am_I a2), (3, am_I a3)]) rfl rfl rfl rfl ?_
  unfold sf_X5_addHandlers at hs
  refine av_aload_n (pc := 0) (j := 0) C dX5_addHandlers_0 rfl rfl ?_
  refine av_getR (pc := 1) (k := 1) (r := 1) C fl_X5_52 sk_7 rfl dX5_addHandlers_1 ?_
  obtain ⟨x2, S1, hc3, hs⟩ := am_b2_of hs
  refine av_eq (st2 := [am_R 1]) rfl rfl rfl rfl (av_callV (pc := 4) (as := []) (rest := []) C (ct_X3_make l G  S x2 S1 hc3) ym_X3_make si_X5_72 im_X3_make se_X3_make sk_1 rfl ⟨Nat.le_of_ble_eq_true rfl, Nat.le_of_ble_eq_true rfl⟩ rfl rfl (Nat.le_of_ble_eq_true rfl) dX5_addHandlers_4 ⟨Nat.le_refl _, Nat.le_refl _⟩ (fun hrv => av_eq (st2 := [am_I x2]) rfl rfl rfl rfl ?_))
  refine av_istore (pc := 7) (i := 4) (lv2 := [(4, am_I x2), (0, am_R 7), (1, am_I a1), (2, am_I a2), (3, am_I a3)]) C dX5_addHandlers_7 (by decide) rfl ?_
  refine av_aload_n (pc := 9) (j := 1) C dX5_addHandlers_9 rfl rfl ?_
  refine av_getR (pc := 10) (k := 9) (r := 39) C fl_X5_32 sk_7 rfl dX5_addHandlers_10 ?_
  refine av_iload (pc := 13) (j := 0) C dX5_addHandlers_13 rfl ?_
  refine av_iload_n (pc := 15) (j := 3) C dX5_addHandlers_15 rfl rfl ?_
  refine av_i2l (pc := 16) C dX5_addHandlers_16 ?_
  obtain ⟨S4, hc5, hs⟩ := am_b1_of hs
  refine av_eq (st2 := [am_J a2, am_I x2, am_R 39]) rfl rfl rfl rfl (av_callV (pc := 17) (as := [am_I x2, am_J a2]) (rest := []) C (ct_X4_put l G 39 72 100 sk_39 sk_72 rfl x2 a2 S1 S4 hc5) ym_X4_put si_X5_78 im_X4_put se_X4_put sk_39 rfl ⟨Nat.le_of_ble_eq_true rfl, Nat.le_of_ble_eq_true rfl⟩ rfl rfl (Nat.le_of_ble_eq_true rfl) dX5_addHandlers_17 ⟨Nat.le_refl _, Nat.le_refl _⟩ (fun hrv => av_eq (st2 := []) rfl rfl rfl rfl ?_))
  refine av_aload_n (pc := 20) (j := 1) C dX5_addHandlers_20 rfl rfl ?_
  refine av_getR (pc := 21) (k := 10) (r := 40) C fl_X5_35 sk_7 rfl dX5_addHandlers_21 ?_
  refine av_iload (pc := 24) (j := 0) C dX5_addHandlers_24 rfl ?_
  refine av_iload_n (pc := 26) (j := 4) C dX5_addHandlers_26 rfl rfl ?_
  refine av_i2l (pc := 27) C dX5_addHandlers_27 ?_
  obtain ⟨S6, hc7, hs⟩ := am_b1_of hs
  refine av_eq (st2 := [am_J a3, am_I x2, am_R 40]) rfl rfl rfl rfl (av_callV (pc := 28) (as := [am_I x2, am_J a3]) (rest := []) C (ct_X4_put l G 40 73 100 sk_40 sk_73 rfl x2 a3 S4 S6 hc7) ym_X4_put si_X5_78 im_X4_put se_X4_put sk_40 rfl ⟨Nat.le_of_ble_eq_true rfl, Nat.le_of_ble_eq_true rfl⟩ rfl rfl (Nat.le_of_ble_eq_true rfl) dX5_addHandlers_28 ⟨Nat.le_refl _, Nat.le_refl _⟩ (fun hrv => av_eq (st2 := []) rfl rfl rfl rfl ?_))
  refine av_aload_n (pc := 31) (j := 1) C dX5_addHandlers_31 rfl rfl ?_
  refine av_getR (pc := 32) (k := 1) (r := 1) C fl_X5_52 sk_7 rfl dX5_addHandlers_32 ?_
  refine av_iload_n (pc := 35) (j := 2) C dX5_addHandlers_35 rfl rfl ?_
  refine av_iload (pc := 36) (j := 0) C dX5_addHandlers_36 rfl ?_
  refine av_iconst (pc := 38) C dX5_addHandlers_38 rfl ?_
  obtain ⟨x9, S8, hc10, hs⟩ := am_b2_of hs
  refine av_eq (st2 := [am_I 2, am_I x2, am_I a1, am_R 1]) rfl rfl rfl rfl (av_callSN (pc := 39) (as := [am_I x2, am_I 2]) (rest := [am_I a1, am_R 1]) C (ct_X9_jobOf l G x2 2 S6 x9 S8 hc10) ym_X9_jobOf si_X5_82 st_X9_jobOf ⟨Nat.le_of_ble_eq_true rfl, Nat.le_of_ble_eq_true rfl⟩ rfl rfl (Nat.le_of_ble_eq_true rfl) dX5_addHandlers_39 ⟨Nat.le_refl _, Nat.le_refl _⟩ (fun hrv => av_eq (st2 := [am_I x9, am_I a1, am_R 1]) rfl rfl rfl rfl ?_))
  obtain ⟨S11, hc12, hs⟩ := am_b1_of hs
  refine av_eq (st2 := [am_I x9, am_I a1, am_R 1]) rfl rfl rfl rfl (av_callV (pc := 42) (as := [am_I a1, am_I x9]) (rest := []) C (ct_X3_waitFor l G a1 x9 S8 S11 hc12) ym_X3_waitFor si_X5_86 im_X3_waitFor se_X3_waitFor sk_1 rfl ⟨Nat.le_of_ble_eq_true rfl, Nat.le_of_ble_eq_true rfl⟩ rfl rfl (Nat.le_of_ble_eq_true rfl) dX5_addHandlers_42 ⟨Nat.le_refl _, Nat.le_refl _⟩ (fun hrv => av_eq (st2 := []) rfl rfl rfl rfl ?_))
  refine av_iload (pc := 45) (j := 0) C dX5_addHandlers_45 rfl ?_
  obtain ⟨rfl, rfl⟩ := am_inj2 hs
  exact av_iret C hr hlocks dX5_addHandlers_47
