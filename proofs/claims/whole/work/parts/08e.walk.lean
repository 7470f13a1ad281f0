set_option maxHeartbeats 4000000 in
set_option maxRecDepth 100000 in
theorem ct_X9_group (l : Launch) (G : am_G) (a1 : Int) (S : am_S) (x : Int) (SZ : am_S) (hs : sf_X9_group a1 S = some (x, SZ)) : am_met l yX9_group cX9_group 2 (some .int) 5 120 G [am_R 0, am_I a1] S (some (am_I x)) SZ := by
  refine am_enter ym_X9_group (Nat.le_of_ble_eq_true rfl) ?_
  intro p e s m args below meth c C hr hlocks
  refine av_eq (lv2 := [(0, am_R 0), (1, am_I a1)]) rfl rfl rfl rfl ?_
  unfold sf_X9_group at hs
  refine av_iload_n (pc := 0) (j := 1) C dX9_group_0 rfl rfl ?_
  refine av_iconst (pc := 1) C dX9_group_1 rfl ?_
  obtain ⟨x2, S1, hc3, hs⟩ := am_b2_of hs
  refine av_eq (st2 := [am_I 4, am_I a1]) rfl rfl rfl rfl (av_callS (pc := 2) (as := [am_I a1, am_I 4]) (rest := []) C (ct_X9_isWithin l G a1 4 S x2 S1 hc3) ym_X9_isWithin si_X9_99 st_X9_isWithin ⟨Nat.le_of_ble_eq_true rfl, Nat.le_of_ble_eq_true rfl⟩ rfl rfl (Nat.le_of_ble_eq_true rfl) dX9_group_2 ⟨Nat.le_refl _, Nat.le_refl _⟩ (fun hrv => av_eq (st2 := [am_I x2]) rfl rfl rfl rfl ?_))
  refine av_if_ne (pc := 5) (tgt := 10) C dX9_group_5 (by decide) (fun hc => ?_) (fun hc => ?_)
  · rw [if_neg hc] at hs
    refine av_aload_n (pc := 10) (j := 0) C dX9_group_10 rfl rfl ?_
    refine av_getR (pc := 11) (k := 5) (r := 6) C fl_X9_49 sk_0 rfl dX9_group_11 ?_
    obtain ⟨x5, S4, hc6, hs⟩ := am_b2_of hs
    refine av_eq (st2 := [am_R 6]) rfl rfl rfl rfl (av_callV (pc := 14) (as := []) (rest := []) C (ct_X1_hasRoom l G  S1 x5 S4 hc6) ym_X1_hasRoom si_X9_139 im_X1_hasRoom se_X1_hasRoom sk_6 rfl ⟨Nat.le_of_ble_eq_true rfl, Nat.le_of_ble_eq_true rfl⟩ rfl rfl (Nat.le_of_ble_eq_true rfl) dX9_group_14 ⟨Nat.le_refl _, Nat.le_refl _⟩ (fun hrv => av_eq (st2 := [am_I x5]) rfl rfl rfl rfl ?_))
    refine av_if_eq (pc := 17) (tgt := 31) C dX9_group_17 (by decide) (fun hc => ?_) (fun hc => ?_)
    · rw [if_pos hc] at hs
      refine av_bipush (pc := 31) C dX9_group_31 rfl ?_
      obtain ⟨rfl, rfl⟩ := am_inj2 hs
      exact av_iret C hr hlocks dX9_group_33
    · rw [if_neg hc] at hs
      refine av_aload_n (pc := 20) (j := 0) C dX9_group_20 rfl rfl ?_
      refine av_getR (pc := 21) (k := 5) (r := 6) C fl_X9_49 sk_0 rfl dX9_group_21 ?_
      refine av_iload_n (pc := 24) (j := 1) C dX9_group_24 rfl rfl ?_
      obtain ⟨x8, S7, hc9, hs⟩ := am_b2_of hs
      refine av_eq (st2 := [am_I a1, am_R 6]) rfl rfl rfl rfl (av_callV (pc := 25) (as := [am_I a1]) (rest := []) C (ct_X1_form l G a1 S4 x8 S7 hc9) ym_X1_form si_X9_142 im_X1_form se_X1_form sk_6 rfl ⟨Nat.le_of_ble_eq_true rfl, Nat.le_of_ble_eq_true rfl⟩ rfl rfl (Nat.le_of_ble_eq_true rfl) dX9_group_25 ⟨Nat.le_refl _, Nat.le_refl _⟩ (fun hrv => av_eq (st2 := [am_I x8]) rfl rfl rfl rfl ?_))
      refine av_goto (pc := 28) (tgt := 33) C dX9_group_28 (by decide) ?_
      obtain ⟨rfl, rfl⟩ := am_inj2 hs
      exact av_iret C hr hlocks dX9_group_33
  · rw [if_pos (Decidable.not_not.mp hc)] at hs
    refine av_iconst (pc := 8) C dX9_group_8 rfl ?_
    obtain ⟨rfl, rfl⟩ := am_inj2 hs
    exact av_iret C hr hlocks dX9_group_9
set_option maxHeartbeats 4000000 in
set_option maxRecDepth 100000 in
theorem ct_X9_adopt (l : Launch) (G : am_G) (a1 : Int) (a2 : Int) (a3 : Int) (S : am_S) (SZ : am_S) (hs : sf_X9_adopt a1 a2 a3 S = some SZ) : am_met l yX9_adopt cX9_adopt 6 none 3 73 G [am_R 0, am_I a1, am_J a2, am_I a3] S none SZ := by
  refine am_enter ym_X9_adopt (Nat.le_of_ble_eq_true rfl) ?_
  intro p e s m args below meth c C hr hlocks
  refine av_eq (lv2 := [(0, am_R 0), (1, am_I a1), (2, am_J a2), (4, am_I a3)]) rfl rfl rfl rfl ?_
  unfold sf_X9_adopt at hs
  refine av_lload_n (pc := 0) (j := 2) C dX9_adopt_0 rfl rfl ?_
  obtain ⟨x2, S1, hc3, hs⟩ := am_b2_of hs
  refine av_eq (st2 := [am_J a2]) rfl rfl rfl rfl (av_callS (pc := 1) (as := [am_J a2]) (rest := []) C (ct_X8_numberOf l G a2 S x2 S1 hc3) ym_X8_numberOf si_X9_188 st_X8_numberOf ⟨Nat.le_of_ble_eq_true rfl, Nat.le_of_ble_eq_true rfl⟩ rfl rfl (Nat.le_of_ble_eq_true rfl) dX9_adopt_1 ⟨Nat.le_refl _, Nat.le_refl _⟩ (fun hrv => av_eq (st2 := [am_I x2]) rfl rfl rfl rfl ?_))
  refine av_istore (pc := 4) (i := 5) (lv2 := [(5, am_I x2), (0, am_R 0), (1, am_I a1), (2, am_J a2), (4, am_I a3)]) C dX9_adopt_4 (by decide) rfl ?_
  refine av_lload_n (pc := 6) (j := 3) C dX9_adopt_6 rfl rfl ?_
  obtain ⟨x5, S4, hc6, hs⟩ := am_b2_of hs
  refine av_eq (st2 := [am_J a2]) rfl rfl rfl rfl (av_callS (pc := 7) (as := [am_J a2]) (rest := []) C (ct_X8_sortOf l G a2 S1 x5 S4 hc6) ym_X8_sortOf si_X9_185 st_X8_sortOf ⟨Nat.le_of_ble_eq_true rfl, Nat.le_of_ble_eq_true rfl⟩ rfl rfl (Nat.le_of_ble_eq_true rfl) dX9_adopt_7 ⟨Nat.le_refl _, Nat.le_refl _⟩ (fun hrv => av_eq (st2 := [am_I x5]) rfl rfl rfl rfl ?_))
  refine av_iconst (pc := 10) C dX9_adopt_10 rfl ?_
  refine av_icmp_ne (pc := 11) (tgt := 29) C dX9_adopt_11 (by decide) (fun hc => ?_) (fun hc => ?_)
  · rw [if_neg hc] at hs
    refine av_aload_n (pc := 29) (j := 1) C dX9_adopt_29 rfl rfl ?_
    refine av_getR (pc := 30) (k := 1) (r := 2) C fl_X9_19 sk_0 rfl dX9_adopt_30 ?_
    refine av_iload (pc := 33) (j := 0) C dX9_adopt_33 rfl ?_
    obtain ⟨x8, S7, hc9, hs⟩ := am_b2_of hs
    refine av_eq (st2 := [am_I x2, am_R 2]) rfl rfl rfl rfl (av_callV (pc := 35) (as := [am_I x2]) (rest := []) C (ct_X7_kindOf l G x2 S4 x8 S7 hc9) ym_X7_kindOf si_X9_265 im_X7_kindOf se_X7_kindOf sk_2 rfl ⟨Nat.le_of_ble_eq_true rfl, Nat.le_of_ble_eq_true rfl⟩ rfl rfl (Nat.le_of_ble_eq_true rfl) dX9_adopt_35 ⟨Nat.le_refl _, Nat.le_refl _⟩ (fun hrv => av_eq (st2 := [am_I x8]) rfl rfl rfl rfl ?_))
    have hdef10 : (hs : (some S7) = some SZ) → am_V p l e (am_rm 3 73) s m args below meth c (MQ below (am_Q G none SZ) args s 0 0 (am_A G)) G (am_A G) s.heap 6 0 0 153 [(5, am_I x2), (0, am_R 0), (1, am_I a1), (2, am_J a2), (4, am_I a3)] [] S7 := by
      intro hs
      obtain rfl := am_inj1 hs
      exact av_vret C hr hlocks dX9_adopt_153
    by_cases hk0 : x8 = 0
    · rw [if_pos hk0] at hs
      refine av_swi (pc := 38) (k := 0) (tgt := 64) C dX9_adopt_38 (by rw [hk0]; rfl) (by decide) rfl (by decide) ?_
      refine av_aload_n (pc := 64) (j := 1) C dX9_adopt_64 rfl rfl ?_
      refine av_getR (pc := 65) (k := 0) (r := 1) C fl_X9_12 sk_0 rfl dX9_adopt_65 ?_
      refine av_iload_n (pc := 68) (j := 2) C dX9_adopt_68 rfl rfl ?_
      refine av_iconst (pc := 69) C dX9_adopt_69 rfl ?_
      refine av_aload_n (pc := 70) (j := 1) C dX9_adopt_70 rfl rfl ?_
      refine av_getR (pc := 71) (k := 1) (r := 2) C fl_X9_19 sk_0 rfl dX9_adopt_71 ?_
      refine av_iload (pc := 74) (j := 0) C dX9_adopt_74 rfl ?_
      obtain ⟨x12, S11, hc13, hs⟩ := am_b2_of hs
      refine av_eq (st2 := [am_I x2, am_R 2, am_I 1, am_I a1, am_R 1]) rfl rfl rfl rfl (av_callV (pc := 76) (as := [am_I x2]) (rest := [am_I 1, am_I a1, am_R 1]) C (ct_X7_uOf l G x2 S7 x12 S11 hc13) ym_X7_uOf si_X9_268 im_X7_uOf se_X7_uOf sk_2 rfl ⟨Nat.le_of_ble_eq_true rfl, Nat.le_of_ble_eq_true rfl⟩ rfl rfl (Nat.le_of_ble_eq_true rfl) dX9_adopt_76 ⟨Nat.le_refl _, Nat.le_refl _⟩ (fun hrv => av_eq (st2 := [am_J x12, am_I 1, am_I a1, am_R 1]) rfl rfl rfl rfl ?_))
      refine av_iload (pc := 79) (j := 4) C dX9_adopt_79 rfl ?_
      obtain ⟨S14, hc15, hs⟩ := am_b1_of hs
      refine av_eq (st2 := [am_I a3, am_J x12, am_I 1, am_I a1, am_R 1]) rfl rfl rfl rfl (av_callV (pc := 81) (as := [am_I a1, am_I 1, am_J x12, am_I a3]) (rest := []) C (ct_X3_settleBy l G a1 1 x12 a3 S11 S14 hc15) ym_X3_settleBy si_X9_88 im_X3_settleBy se_X3_settleBy sk_1 rfl ⟨Nat.le_of_ble_eq_true rfl, Nat.le_of_ble_eq_true rfl⟩ rfl rfl (Nat.le_of_ble_eq_true rfl) dX9_adopt_81 ⟨Nat.le_refl _, Nat.le_refl _⟩ (fun hrv => av_eq (st2 := []) rfl rfl rfl rfl ?_))
      refine av_goto (pc := 84) (tgt := 153) C dX9_adopt_84 (by decide) ?_
      obtain rfl := am_inj1 hs
      exact av_vret C hr hlocks dX9_adopt_153
    · rw [if_neg hk0] at hs
      by_cases hk1 : x8 = 1
      · rw [if_pos hk1] at hs
        refine av_swi (pc := 38) (k := 1) (tgt := 87) C dX9_adopt_38 (by rw [hk1]; rfl) (by decide) rfl (by decide) ?_
        refine av_aload_n (pc := 87) (j := 1) C dX9_adopt_87 rfl rfl ?_
        refine av_getR (pc := 88) (k := 0) (r := 1) C fl_X9_12 sk_0 rfl dX9_adopt_88 ?_
        refine av_iload_n (pc := 91) (j := 2) C dX9_adopt_91 rfl rfl ?_
        refine av_iconst (pc := 92) C dX9_adopt_92 rfl ?_
        refine av_aload_n (pc := 93) (j := 1) C dX9_adopt_93 rfl rfl ?_
        refine av_getR (pc := 94) (k := 1) (r := 2) C fl_X9_19 sk_0 rfl dX9_adopt_94 ?_
        refine av_iload (pc := 97) (j := 0) C dX9_adopt_97 rfl ?_
        obtain ⟨x17, S16, hc18, hs⟩ := am_b2_of hs
        refine av_eq (st2 := [am_I x2, am_R 2, am_I 2, am_I a1, am_R 1]) rfl rfl rfl rfl (av_callV (pc := 99) (as := [am_I x2]) (rest := [am_I 2, am_I a1, am_R 1]) C (ct_X7_uOf l G x2 S7 x17 S16 hc18) ym_X7_uOf si_X9_268 im_X7_uOf se_X7_uOf sk_2 rfl ⟨Nat.le_of_ble_eq_true rfl, Nat.le_of_ble_eq_true rfl⟩ rfl rfl (Nat.le_of_ble_eq_true rfl) dX9_adopt_99 ⟨Nat.le_refl _, Nat.le_refl _⟩ (fun hrv => av_eq (st2 := [am_J x17, am_I 2, am_I a1, am_R 1]) rfl rfl rfl rfl ?_))
        refine av_iload (pc := 102) (j := 4) C dX9_adopt_102 rfl ?_
        obtain ⟨S19, hc20, hs⟩ := am_b1_of hs
        refine av_eq (st2 := [am_I a3, am_J x17, am_I 2, am_I a1, am_R 1]) rfl rfl rfl rfl (av_callV (pc := 104) (as := [am_I a1, am_I 2, am_J x17, am_I a3]) (rest := []) C (ct_X3_settleBy l G a1 2 x17 a3 S16 S19 hc20) ym_X3_settleBy si_X9_88 im_X3_settleBy se_X3_settleBy sk_1 rfl ⟨Nat.le_of_ble_eq_true rfl, Nat.le_of_ble_eq_true rfl⟩ rfl rfl (Nat.le_of_ble_eq_true rfl) dX9_adopt_104 ⟨Nat.le_refl _, Nat.le_refl _⟩ (fun hrv => av_eq (st2 := []) rfl rfl rfl rfl ?_))
        refine av_goto (pc := 107) (tgt := 153) C dX9_adopt_107 (by decide) ?_
        obtain rfl := am_inj1 hs
        exact av_vret C hr hlocks dX9_adopt_153
      · rw [if_neg hk1] at hs
        by_cases hk2 : x8 = 2
        · rw [if_pos hk2] at hs
          refine av_swi (pc := 38) (k := 2) (tgt := 110) C dX9_adopt_38 (by rw [hk2]; rfl) (by decide) rfl (by decide) ?_
          refine av_aload_n (pc := 110) (j := 1) C dX9_adopt_110 rfl rfl ?_
          refine av_getR (pc := 111) (k := 0) (r := 1) C fl_X9_12 sk_0 rfl dX9_adopt_111 ?_
          refine av_iload_n (pc := 114) (j := 2) C dX9_adopt_114 rfl rfl ?_
          refine av_iconst (pc := 115) C dX9_adopt_115 rfl ?_
          refine av_aload_n (pc := 116) (j := 1) C dX9_adopt_116 rfl rfl ?_
          refine av_getR (pc := 117) (k := 1) (r := 2) C fl_X9_19 sk_0 rfl dX9_adopt_117 ?_
          refine av_iload (pc := 120) (j := 0) C dX9_adopt_120 rfl ?_
          obtain ⟨x22, S21, hc23, hs⟩ := am_b2_of hs
          refine av_eq (st2 := [am_I x2, am_R 2, am_I 1, am_I a1, am_R 1]) rfl rfl rfl rfl (av_callV (pc := 122) (as := [am_I x2]) (rest := [am_I 1, am_I a1, am_R 1]) C (ct_X7_uOf l G x2 S7 x22 S21 hc23) ym_X7_uOf si_X9_268 im_X7_uOf se_X7_uOf sk_2 rfl ⟨Nat.le_of_ble_eq_true rfl, Nat.le_of_ble_eq_true rfl⟩ rfl rfl (Nat.le_of_ble_eq_true rfl) dX9_adopt_122 ⟨Nat.le_refl _, Nat.le_refl _⟩ (fun hrv => av_eq (st2 := [am_J x22, am_I 1, am_I a1, am_R 1]) rfl rfl rfl rfl ?_))
          refine av_iload (pc := 125) (j := 4) C dX9_adopt_125 rfl ?_
          obtain ⟨S24, hc25, hs⟩ := am_b1_of hs
          refine av_eq (st2 := [am_I a3, am_J x22, am_I 1, am_I a1, am_R 1]) rfl rfl rfl rfl (av_callV (pc := 127) (as := [am_I a1, am_I 1, am_J x22, am_I a3]) (rest := []) C (ct_X3_settleBy l G a1 1 x22 a3 S21 S24 hc25) ym_X3_settleBy si_X9_88 im_X3_settleBy se_X3_settleBy sk_1 rfl ⟨Nat.le_of_ble_eq_true rfl, Nat.le_of_ble_eq_true rfl⟩ rfl rfl (Nat.le_of_ble_eq_true rfl) dX9_adopt_127 ⟨Nat.le_refl _, Nat.le_refl _⟩ (fun hrv => av_eq (st2 := []) rfl rfl rfl rfl ?_))
          refine av_aload_n (pc := 130) (j := 1) C dX9_adopt_130 rfl rfl ?_
          refine av_getR (pc := 131) (k := 0) (r := 1) C fl_X9_12 sk_0 rfl dX9_adopt_131 ?_
          refine av_iload_n (pc := 134) (j := 2) C dX9_adopt_134 rfl rfl ?_
          refine av_iconst (pc := 135) C dX9_adopt_135 rfl ?_
          refine av_aload_n (pc := 136) (j := 1) C dX9_adopt_136 rfl rfl ?_
          refine av_getR (pc := 137) (k := 1) (r := 2) C fl_X9_19 sk_0 rfl dX9_adopt_137 ?_
          refine av_iload (pc := 140) (j := 0) C dX9_adopt_140 rfl ?_
          obtain ⟨x27, S26, hc28, hs⟩ := am_b2_of hs
          refine av_eq (st2 := [am_I x2, am_R 2, am_I 2, am_I a1, am_R 1]) rfl rfl rfl rfl (av_callV (pc := 142) (as := [am_I x2]) (rest := [am_I 2, am_I a1, am_R 1]) C (ct_X7_wOf l G x2 S24 x27 S26 hc28) ym_X7_wOf si_X9_271 im_X7_wOf se_X7_wOf sk_2 rfl ⟨Nat.le_of_ble_eq_true rfl, Nat.le_of_ble_eq_true rfl⟩ rfl rfl (Nat.le_of_ble_eq_true rfl) dX9_adopt_142 ⟨Nat.le_refl _, Nat.le_refl _⟩ (fun hrv => av_eq (st2 := [am_J x27, am_I 2, am_I a1, am_R 1]) rfl rfl rfl rfl ?_))
          refine av_iload (pc := 145) (j := 4) C dX9_adopt_145 rfl ?_
          obtain ⟨S29, hc30, hs⟩ := am_b1_of hs
          refine av_eq (st2 := [am_I a3, am_J x27, am_I 2, am_I a1, am_R 1]) rfl rfl rfl rfl (av_callV (pc := 147) (as := [am_I a1, am_I 2, am_J x27, am_I a3]) (rest := []) C (ct_X3_settleBy l G a1 2 x27 a3 S26 S29 hc30) ym_X3_settleBy si_X9_88 im_X3_settleBy se_X3_settleBy sk_1 rfl ⟨Nat.le_of_ble_eq_true rfl, Nat.le_of_ble_eq_true rfl⟩ rfl rfl (Nat.le_of_ble_eq_true rfl) dX9_adopt_147 ⟨Nat.le_refl _, Nat.le_refl _⟩ (fun hrv => av_eq (st2 := []) rfl rfl rfl rfl ?_))
          refine av_goto (pc := 150) (tgt := 153) C dX9_adopt_150 (by decide) ?_
          obtain rfl := am_inj1 hs
          exact av_vret C hr hlocks dX9_adopt_153
        · rw [if_neg hk2] at hs
          refine av_swo (pc := 38) (tgt := 153) C dX9_adopt_38 (by omega) (by decide) ?_
          exact hdef10 hs
  · rw [if_pos (Decidable.not_not.mp hc)] at hs
    refine av_aload_n (pc := 14) (j := 1) C dX9_adopt_14 rfl rfl ?_
    refine av_getR (pc := 15) (k := 0) (r := 1) C fl_X9_12 sk_0 rfl dX9_adopt_15 ?_
    refine av_iload (pc := 18) (j := 0) C dX9_adopt_18 rfl ?_
    refine av_iload_n (pc := 20) (j := 2) C dX9_adopt_20 rfl rfl ?_
    refine av_iconst (pc := 21) C dX9_adopt_21 rfl ?_
    obtain ⟨x32, S31, hc33, hs⟩ := am_b2_of hs
    refine av_eq (st2 := [am_I 1, am_I a1, am_I x2, am_R 1]) rfl rfl rfl rfl (av_callS (pc := 22) (as := [am_I a1, am_I 1]) (rest := [am_I x2, am_R 1]) C (ct_X9_jobOf l G a1 1 S4 x32 S31 hc33) ym_X9_jobOf si_X9_257 st_X9_jobOf ⟨Nat.le_of_ble_eq_true rfl, Nat.le_of_ble_eq_true rfl⟩ rfl rfl (Nat.le_of_ble_eq_true rfl) dX9_adopt_22 ⟨Nat.le_refl _, Nat.le_refl _⟩ (fun hrv => av_eq (st2 := [am_I x32, am_I x2, am_R 1]) rfl rfl rfl rfl ?_))
    obtain ⟨S34, hc35, hs⟩ := am_b1_of hs
    refine av_eq (st2 := [am_I x32, am_I x2, am_R 1]) rfl rfl rfl rfl (av_callV (pc := 25) (as := [am_I x2, am_I x32]) (rest := []) C (ct_X3_waitFor l G x2 x32 S31 S34 hc35) ym_X3_waitFor si_X9_261 im_X3_waitFor se_X3_waitFor sk_1 rfl ⟨Nat.le_of_ble_eq_true rfl, Nat.le_of_ble_eq_true rfl⟩ rfl rfl (Nat.le_of_ble_eq_true rfl) dX9_adopt_25 ⟨Nat.le_refl _, Nat.le_refl _⟩ (fun hrv => av_eq (st2 := []) rfl rfl rfl rfl ?_))
    obtain rfl := am_inj1 hs
    exact av_vret C hr hlocks dX9_adopt_28
set_option maxHeartbeats 4000000 in
set_option maxRecDepth 100000 in
theorem ct_X9_doJob (l : Launch) (G : am_G) (a1 : Int) (S : am_S) (SZ : am_S) (hs : sf_X9_doJob a1 S = some SZ) : am_met l yX9_doJob cX9_doJob 8 none 5 119 G [am_R 0, am_I a1] S none SZ := by
  refine am_enter ym_X9_doJob (Nat.le_of_ble_eq_true rfl) ?_
  intro p e s m args below meth c C hr hlocks
  refine av_eq (lv2 := [(0, am_R 0), (1, am_I a1)]) rfl rfl rfl rfl ?_
  unfold sf_X9_doJob at hs
  refine av_iload_n (pc := 0) (j := 1) C dX9_doJob_0 rfl rfl ?_
  refine av_bipush (pc := 1) C dX9_doJob_1 rfl ?_
  refine av_idiv (pc := 3) C dX9_doJob_3 (by decide) ?_
  refine av_istore_n (pc := 4) (i := 2) (lv2 := [(2, am_I (Int.tdiv a1 9)), (0, am_R 0), (1, am_I a1)]) C dX9_doJob_4 rfl (by decide) rfl ?_
  refine av_iload_n (pc := 5) (j := 2) C dX9_doJob_5 rfl rfl ?_
  refine av_bipush (pc := 6) C dX9_doJob_6 rfl ?_
  refine av_irem (pc := 8) C dX9_doJob_8 (by decide) ?_
  refine av_istore_n (pc := 9) (i := 3) (lv2 := [(3, am_I (Int.tmod a1 9)), (2, am_I (Int.tdiv a1 9)), (0, am_R 0), (1, am_I a1)]) C dX9_doJob_9 rfl (by decide) rfl ?_
  refine av_aload_n (pc := 10) (j := 2) C dX9_doJob_10 rfl rfl ?_
  refine av_getR (pc := 11) (k := 0) (r := 1) C fl_X9_12 sk_0 rfl dX9_doJob_11 ?_
  refine av_iload_n (pc := 14) (j := 3) C dX9_doJob_14 rfl rfl ?_
  obtain ⟨x2, S1, hc3, hs⟩ := am_b2_of hs
  refine av_eq (st2 := [am_I a1, am_R 1]) rfl rfl rfl rfl (av_callV (pc := 15) (as := [am_I a1]) (rest := []) C (ct_X3_sourceOf l G a1 S x2 S1 hc3) ym_X3_sourceOf si_X9_230 im_X3_sourceOf se_X3_sourceOf sk_1 rfl ⟨Nat.le_of_ble_eq_true rfl, Nat.le_of_ble_eq_true rfl⟩ rfl rfl (Nat.le_of_ble_eq_true rfl) dX9_doJob_15 ⟨Nat.le_refl _, Nat.le_refl _⟩ (fun hrv => av_eq (st2 := [am_I x2]) rfl rfl rfl rfl ?_))
  refine av_istore (pc := 18) (i := 4) (lv2 := [(4, am_I x2), (3, am_I (Int.tmod a1 9)), (2, am_I (Int.tdiv a1 9)), (0, am_R 0), (1, am_I a1)]) C dX9_doJob_18 (by decide) rfl ?_
  refine av_aload_n (pc := 20) (j := 3) C dX9_doJob_20 rfl rfl ?_
  refine av_getR (pc := 21) (k := 0) (r := 1) C fl_X9_12 sk_0 rfl dX9_doJob_21 ?_
  refine av_iload (pc := 24) (j := 0) C dX9_doJob_24 rfl ?_
  obtain ⟨x5, S4, hc6, hs⟩ := am_b2_of hs
  refine av_eq (st2 := [am_I x2, am_R 1]) rfl rfl rfl rfl (av_callV (pc := 26) (as := [am_I x2]) (rest := []) C (ct_X3_statusOf l G x2 S1 x5 S4 hc6) ym_X3_statusOf si_X9_178 im_X3_statusOf se_X3_statusOf sk_1 rfl ⟨Nat.le_of_ble_eq_true rfl, Nat.le_of_ble_eq_true rfl⟩ rfl rfl (Nat.le_of_ble_eq_true rfl) dX9_doJob_26 ⟨Nat.le_refl _, Nat.le_refl _⟩ (fun hrv => av_eq (st2 := [am_I x5]) rfl rfl rfl rfl ?_))
  refine av_istore (pc := 29) (i := 5) (lv2 := [(5, am_I x5), (4, am_I x2), (3, am_I (Int.tmod a1 9)), (2, am_I (Int.tdiv a1 9)), (0, am_R 0), (1, am_I a1)]) C dX9_doJob_29 (by decide) rfl ?_
  refine av_aload_n (pc := 31) (j := 4) C dX9_doJob_31 rfl rfl ?_
  refine av_getR (pc := 32) (k := 0) (r := 1) C fl_X9_12 sk_0 rfl dX9_doJob_32 ?_
  refine av_iload (pc := 35) (j := 1) C dX9_doJob_35 rfl ?_
  obtain ⟨x8, S7, hc9, hs⟩ := am_b2_of hs
  refine av_eq (st2 := [am_I x2, am_R 1]) rfl rfl rfl rfl (av_callV (pc := 37) (as := [am_I x2]) (rest := []) C (ct_X3_valueOf l G x2 S4 x8 S7 hc9) ym_X3_valueOf si_X9_181 im_X3_valueOf se_X3_valueOf sk_1 rfl ⟨Nat.le_of_ble_eq_true rfl, Nat.le_of_ble_eq_true rfl⟩ rfl rfl (Nat.le_of_ble_eq_true rfl) dX9_doJob_37 ⟨Nat.le_refl _, Nat.le_refl _⟩ (fun hrv => av_eq (st2 := [am_J x8]) rfl rfl rfl rfl ?_))
  refine av_lstore (pc := 40) (i := 6) (lv2 := [(6, am_J x8), (5, am_I x5), (4, am_I x2), (3, am_I (Int.tmod a1 9)), (2, am_I (Int.tdiv a1 9)), (0, am_R 0), (1, am_I a1)]) C dX9_doJob_40 (by decide) rfl ?_
  refine av_iload_n (pc := 42) (j := 3) C dX9_doJob_42 rfl rfl ?_
  have hdef10 : (hs : (am_b1 (sf_X1_settlePlace (Int.tdiv a1 9) (am_w32 ((Int.tmod a1 9) - 4)) x5 x8 S7) (fun S11 => (am_b1 (sf_X1_settleIfComplete (Int.tdiv a1 9) S11) (fun S13 => (some S13))))) = some SZ) → am_V p l e (am_rm 5 119) s m args below meth c (MQ below (am_Q G none SZ) args s 0 0 (am_A G)) G (am_A G) s.heap 8 0 0 149 [(6, am_J x8), (5, am_I x5), (4, am_I x2), (3, am_I (Int.tmod a1 9)), (2, am_I (Int.tdiv a1 9)), (0, am_R 0), (1, am_I a1)] [] S7 := by
    intro hs
    refine av_aload_n (pc := 149) (j := 5) C dX9_doJob_149 rfl rfl ?_
    refine av_getR (pc := 150) (k := 5) (r := 6) C fl_X9_49 sk_0 rfl dX9_doJob_150 ?_
    refine av_iload_n (pc := 153) (j := 4) C dX9_doJob_153 rfl rfl ?_
    refine av_iload_n (pc := 154) (j := 3) C dX9_doJob_154 rfl rfl ?_
    refine av_iconst (pc := 155) C dX9_doJob_155 rfl ?_
    refine av_isub (pc := 156) C dX9_doJob_156 ?_
    refine av_iload (pc := 157) (j := 1) C dX9_doJob_157 rfl ?_
    refine av_lload (pc := 159) (j := 0) C dX9_doJob_159 rfl ?_
    obtain ⟨S11, hc12, hs⟩ := am_b1_of hs
    refine av_eq (st2 := [am_J x8, am_I x5, am_I (am_w32 ((Int.tmod a1 9) - 4)), am_I (Int.tdiv a1 9), am_R 6]) rfl rfl rfl rfl (av_callV (pc := 161) (as := [am_I (Int.tdiv a1 9), am_I (am_w32 ((Int.tmod a1 9) - 4)), am_I x5, am_J x8]) (rest := []) C (ct_X1_settlePlace l G (Int.tdiv a1 9) (am_w32 ((Int.tmod a1 9) - 4)) x5 x8 S7 S11 hc12) ym_X1_settlePlace si_X9_250 im_X1_settlePlace se_X1_settlePlace sk_6 rfl ⟨Nat.le_of_ble_eq_true rfl, Nat.le_of_ble_eq_true rfl⟩ rfl rfl (Nat.le_of_ble_eq_true rfl) dX9_doJob_161 ⟨Nat.le_refl _, Nat.le_refl _⟩ (fun hrv => av_eq (st2 := []) rfl rfl rfl rfl ?_))
    refine av_aload_n (pc := 164) (j := 5) C dX9_doJob_164 rfl rfl ?_
    refine av_getR (pc := 165) (k := 5) (r := 6) C fl_X9_49 sk_0 rfl dX9_doJob_165 ?_
    refine av_iload_n (pc := 168) (j := 4) C dX9_doJob_168 rfl rfl ?_
    obtain ⟨S13, hc14, hs⟩ := am_b1_of hs
    refine av_eq (st2 := [am_I (Int.tdiv a1 9), am_R 6]) rfl rfl rfl rfl (av_callV (pc := 169) (as := [am_I (Int.tdiv a1 9)]) (rest := []) C (ct_X1_settleIfComplete l G (Int.tdiv a1 9) S11 S13 hc14) ym_X1_settleIfComplete si_X9_254 im_X1_settleIfComplete se_X1_settleIfComplete sk_6 rfl ⟨Nat.le_of_ble_eq_true rfl, Nat.le_of_ble_eq_true rfl⟩ rfl rfl (Nat.le_of_ble_eq_true rfl) dX9_doJob_169 ⟨Nat.le_refl _, Nat.le_refl _⟩ (fun hrv => av_eq (st2 := []) rfl rfl rfl rfl ?_))
    obtain rfl := am_inj1 hs
    exact av_vret C hr hlocks dX9_doJob_172
  by_cases hk0 : (Int.tmod a1 9) = 0
  · rw [if_pos hk0] at hs
    refine av_swi (pc := 43) (k := 0) (tgt := 72) C dX9_doJob_43 (by rw [hk0]; rfl) (by decide) rfl (by decide) ?_
    refine av_aload_n (pc := 72) (j := 5) C dX9_doJob_72 rfl rfl ?_
    refine av_iload_n (pc := 73) (j := 4) C dX9_doJob_73 rfl rfl ?_
    refine av_aload_n (pc := 74) (j := 5) C dX9_doJob_74 rfl rfl ?_
    refine av_getR (pc := 75) (k := 0) (r := 1) C fl_X9_12 sk_0 rfl dX9_doJob_75 ?_
    refine av_iload_n (pc := 78) (j := 4) C dX9_doJob_78 rfl rfl ?_
    obtain ⟨x16, S15, hc17, hs⟩ := am_b2_of hs
    refine av_eq (st2 := [am_I (Int.tdiv a1 9), am_R 1, am_I (Int.tdiv a1 9), am_R 0]) rfl rfl rfl rfl (av_callV (pc := 79) (as := [am_I (Int.tdiv a1 9)]) (rest := [am_I (Int.tdiv a1 9), am_R 0]) C (ct_X3_toAdopt l G (Int.tdiv a1 9) S7 x16 S15 hc17) ym_X3_toAdopt si_X9_233 im_X3_toAdopt se_X3_toAdopt sk_1 rfl ⟨Nat.le_of_ble_eq_true rfl, Nat.le_of_ble_eq_true rfl⟩ rfl rfl (Nat.le_of_ble_eq_true rfl) dX9_doJob_79 ⟨Nat.le_refl _, Nat.le_refl _⟩ (fun hrv => av_eq (st2 := [am_J x16, am_I (Int.tdiv a1 9), am_R 0]) rfl rfl rfl rfl ?_))
    refine av_aload_n (pc := 82) (j := 5) C dX9_doJob_82 rfl rfl ?_
    refine av_getR (pc := 83) (k := 0) (r := 1) C fl_X9_12 sk_0 rfl dX9_doJob_83 ?_
    refine av_iload_n (pc := 86) (j := 4) C dX9_doJob_86 rfl rfl ?_
    obtain ⟨x19, S18, hc20, hs⟩ := am_b2_of hs
    refine av_eq (st2 := [am_I (Int.tdiv a1 9), am_R 1, am_J x16, am_I (Int.tdiv a1 9), am_R 0]) rfl rfl rfl rfl (av_callV (pc := 87) (as := [am_I (Int.tdiv a1 9)]) (rest := [am_J x16, am_I (Int.tdiv a1 9), am_R 0]) C (ct_X3_addKey l G (Int.tdiv a1 9) S15 x19 S18 hc20) ym_X3_addKey si_X9_236 im_X3_addKey se_X3_addKey sk_1 rfl ⟨Nat.le_of_ble_eq_true rfl, Nat.le_of_ble_eq_true rfl⟩ rfl rfl (Nat.le_of_ble_eq_true rfl) dX9_doJob_87 ⟨Nat.le_refl _, Nat.le_refl _⟩ (fun hrv => av_eq (st2 := [am_I x19, am_J x16, am_I (Int.tdiv a1 9), am_R 0]) rfl rfl rfl rfl ?_))
    obtain ⟨S21, hc22, hs⟩ := am_b1_of hs
    refine av_eq (st2 := [am_I x19, am_J x16, am_I (Int.tdiv a1 9), am_R 0]) rfl rfl rfl rfl (av_callV (pc := 90) (as := [am_I (Int.tdiv a1 9), am_J x16, am_I x19]) (rest := []) C (ct_X9_adopt l G (Int.tdiv a1 9) x16 x19 S18 S21 hc22) ym_X9_adopt si_X9_239 im_X9_adopt se_X9_adopt sk_0 rfl ⟨Nat.le_of_ble_eq_true rfl, Nat.le_of_ble_eq_true rfl⟩ rfl rfl (Nat.le_of_ble_eq_true rfl) dX9_doJob_90 ⟨Nat.le_refl _, Nat.le_refl _⟩ (fun hrv => av_eq (st2 := []) rfl rfl rfl rfl ?_))
    refine av_goto (pc := 93) (tgt := 172) C dX9_doJob_93 (by decide) ?_
    obtain rfl := am_inj1 hs
    exact av_vret C hr hlocks dX9_doJob_172
  · rw [if_neg hk0] at hs
    by_cases hk1 : (Int.tmod a1 9) = 1
    · rw [if_pos hk1] at hs
      refine av_swi (pc := 43) (k := 1) (tgt := 96) C dX9_doJob_43 (by rw [hk1]; rfl) (by decide) rfl (by decide) ?_
      refine av_aload_n (pc := 96) (j := 5) C dX9_doJob_96 rfl rfl ?_
      refine av_getR (pc := 97) (k := 0) (r := 1) C fl_X9_12 sk_0 rfl dX9_doJob_97 ?_
      refine av_iload_n (pc := 100) (j := 4) C dX9_doJob_100 rfl rfl ?_
      refine av_iload (pc := 101) (j := 1) C dX9_doJob_101 rfl ?_
      refine av_lload (pc := 103) (j := 0) C dX9_doJob_103 rfl ?_
      refine av_aload_n (pc := 105) (j := 5) C dX9_doJob_105 rfl rfl ?_
      refine av_getR (pc := 106) (k := 0) (r := 1) C fl_X9_12 sk_0 rfl dX9_doJob_106 ?_
      refine av_iload_n (pc := 109) (j := 4) C dX9_doJob_109 rfl rfl ?_
      obtain ⟨x24, S23, hc25, hs⟩ := am_b2_of hs
      refine av_eq (st2 := [am_I (Int.tdiv a1 9), am_R 1, am_J x8, am_I x5, am_I (Int.tdiv a1 9), am_R 1]) rfl rfl rfl rfl (av_callV (pc := 110) (as := [am_I (Int.tdiv a1 9)]) (rest := [am_J x8, am_I x5, am_I (Int.tdiv a1 9), am_R 1]) C (ct_X3_lastKeyOf l G (Int.tdiv a1 9) S7 x24 S23 hc25) ym_X3_lastKeyOf si_X9_197 im_X3_lastKeyOf se_X3_lastKeyOf sk_1 rfl ⟨Nat.le_of_ble_eq_true rfl, Nat.le_of_ble_eq_true rfl⟩ rfl rfl (Nat.le_of_ble_eq_true rfl) dX9_doJob_110 ⟨Nat.le_refl _, Nat.le_refl _⟩ (fun hrv => av_eq (st2 := [am_I x24, am_J x8, am_I x5, am_I (Int.tdiv a1 9), am_R 1]) rfl rfl rfl rfl ?_))
      obtain ⟨S26, hc27, hs⟩ := am_b1_of hs
      refine av_eq (st2 := [am_I x24, am_J x8, am_I x5, am_I (Int.tdiv a1 9), am_R 1]) rfl rfl rfl rfl (av_callV (pc := 113) (as := [am_I (Int.tdiv a1 9), am_I x5, am_J x8, am_I x24]) (rest := []) C (ct_X3_settleBy l G (Int.tdiv a1 9) x5 x8 x24 S23 S26 hc27) ym_X3_settleBy si_X9_88 im_X3_settleBy se_X3_settleBy sk_1 rfl ⟨Nat.le_of_ble_eq_true rfl, Nat.le_of_ble_eq_true rfl⟩ rfl rfl (Nat.le_of_ble_eq_true rfl) dX9_doJob_113 ⟨Nat.le_refl _, Nat.le_refl _⟩ (fun hrv => av_eq (st2 := []) rfl rfl rfl rfl ?_))
      refine av_goto (pc := 116) (tgt := 172) C dX9_doJob_116 (by decide) ?_
      obtain rfl := am_inj1 hs
      exact av_vret C hr hlocks dX9_doJob_172
    · rw [if_neg hk1] at hs
      by_cases hk2 : (Int.tmod a1 9) = 2
      · rw [if_pos hk2] at hs
        refine av_swi (pc := 43) (k := 2) (tgt := 119) C dX9_doJob_43 (by rw [hk2]; rfl) (by decide) rfl (by decide) ?_
        refine av_aload_n (pc := 119) (j := 5) C dX9_doJob_119 rfl rfl ?_
        refine av_getR (pc := 120) (k := 6) (r := 7) C fl_X9_58 sk_0 rfl dX9_doJob_120 ?_
        refine av_iload_n (pc := 123) (j := 4) C dX9_doJob_123 rfl rfl ?_
        refine av_iload (pc := 124) (j := 1) C dX9_doJob_124 rfl ?_
        refine av_lload (pc := 126) (j := 0) C dX9_doJob_126 rfl ?_
        obtain ⟨S28, hc29, hs⟩ := am_b1_of hs
        refine av_eq (st2 := [am_J x8, am_I x5, am_I (Int.tdiv a1 9), am_R 7]) rfl rfl rfl rfl (av_callV (pc := 128) (as := [am_I (Int.tdiv a1 9), am_I x5, am_J x8]) (rest := []) C (ct_X5_handle l G (Int.tdiv a1 9) x5 x8 S7 S28 hc29) ym_X5_handle si_X9_243 im_X5_handle se_X5_handle sk_7 rfl ⟨Nat.le_of_ble_eq_true rfl, Nat.le_of_ble_eq_true rfl⟩ rfl rfl (Nat.le_of_ble_eq_true rfl) dX9_doJob_128 ⟨Nat.le_refl _, Nat.le_refl _⟩ (fun hrv => av_eq (st2 := []) rfl rfl rfl rfl ?_))
        refine av_goto (pc := 131) (tgt := 172) C dX9_doJob_131 (by decide) ?_
        obtain rfl := am_inj1 hs
        exact av_vret C hr hlocks dX9_doJob_172
      · rw [if_neg hk2] at hs
        by_cases hk3 : (Int.tmod a1 9) = 3
        · rw [if_pos hk3] at hs
          refine av_swi (pc := 43) (k := 3) (tgt := 134) C dX9_doJob_43 (by rw [hk3]; rfl) (by decide) rfl (by decide) ?_
          refine av_aload_n (pc := 134) (j := 5) C dX9_doJob_134 rfl rfl ?_
          refine av_getR (pc := 135) (k := 6) (r := 7) C fl_X9_58 sk_0 rfl dX9_doJob_135 ?_
          refine av_iload_n (pc := 138) (j := 4) C dX9_doJob_138 rfl rfl ?_
          refine av_iload (pc := 139) (j := 1) C dX9_doJob_139 rfl ?_
          refine av_lload (pc := 141) (j := 0) C dX9_doJob_141 rfl ?_
          obtain ⟨S30, hc31, hs⟩ := am_b1_of hs
          refine av_eq (st2 := [am_J x8, am_I x5, am_I (Int.tdiv a1 9), am_R 7]) rfl rfl rfl rfl (av_callV (pc := 143) (as := [am_I (Int.tdiv a1 9), am_I x5, am_J x8]) (rest := []) C (ct_X5_resume l G (Int.tdiv a1 9) x5 x8 S7 S30 hc31) ym_X5_resume si_X9_247 im_X5_resume se_X5_resume sk_7 rfl ⟨Nat.le_of_ble_eq_true rfl, Nat.le_of_ble_eq_true rfl⟩ rfl rfl (Nat.le_of_ble_eq_true rfl) dX9_doJob_143 ⟨Nat.le_refl _, Nat.le_refl _⟩ (fun hrv => av_eq (st2 := []) rfl rfl rfl rfl ?_))
          refine av_goto (pc := 146) (tgt := 172) C dX9_doJob_146 (by decide) ?_
          obtain rfl := am_inj1 hs
          exact av_vret C hr hlocks dX9_doJob_172
        · rw [if_neg hk3] at hs
          refine av_swo (pc := 43) (tgt := 149) C dX9_doJob_43 (by omega) (by decide) ?_
          exact hdef10 hs
set_option maxHeartbeats 4000000 in
set_option maxRecDepth 100000 in
theorem ct_X9_doTask (l : Launch) (G : am_G) (a1 : Int) (S : am_S) (SZ : am_S) (hs : sf_X9_doTask a1 S = some SZ) : am_met l yX9_doTask cX9_doTask 2 none 3 71 G [am_R 0, am_I a1] S none SZ := by
  refine am_enter ym_X9_doTask (Nat.le_of_ble_eq_true rfl) ?_
  intro p e s m args below meth c C hr hlocks
  refine av_eq (lv2 := [(0, am_R 0), (1, am_I a1)]) rfl rfl rfl rfl ?_
  unfold sf_X9_doTask at hs
  refine av_aload_n (pc := 0) (j := 0) C dX9_doTask_0 rfl rfl ?_
  refine av_getR (pc := 1) (k := 6) (r := 7) C fl_X9_58 sk_0 rfl dX9_doTask_1 ?_
  refine av_aload_n (pc := 4) (j := 0) C dX9_doTask_4 rfl rfl ?_
  refine av_getR (pc := 5) (k := 3) (r := 4) C fl_X9_33 sk_0 rfl dX9_doTask_5 ?_
  refine av_iload_n (pc := 8) (j := 1) C dX9_doTask_8 rfl rfl ?_
  obtain ⟨x2, S1, hc3, hs⟩ := am_b2_of hs
  refine av_eq (st2 := [am_I a1, am_R 4, am_R 7]) rfl rfl rfl rfl (av_callV (pc := 9) (as := [am_I a1]) (rest := [am_R 7]) C (ct_X6_functionOf l G a1 S x2 S1 hc3) ym_X6_functionOf si_X9_274 im_X6_functionOf se_X6_functionOf sk_4 rfl ⟨Nat.le_of_ble_eq_true rfl, Nat.le_of_ble_eq_true rfl⟩ rfl rfl (Nat.le_of_ble_eq_true rfl) dX9_doTask_9 ⟨Nat.le_refl _, Nat.le_refl _⟩ (fun hrv => av_eq (st2 := [am_I x2, am_R 7]) rfl rfl rfl rfl ?_))
  refine av_aload_n (pc := 12) (j := 0) C dX9_doTask_12 rfl rfl ?_
  refine av_getR (pc := 13) (k := 3) (r := 4) C fl_X9_33 sk_0 rfl dX9_doTask_13 ?_
  refine av_iload_n (pc := 16) (j := 1) C dX9_doTask_16 rfl rfl ?_
  obtain ⟨x5, S4, hc6, hs⟩ := am_b2_of hs
  refine av_eq (st2 := [am_I a1, am_R 4, am_I x2, am_R 7]) rfl rfl rfl rfl (av_callV (pc := 17) (as := [am_I a1]) (rest := [am_I x2, am_R 7]) C (ct_X6_valueOf l G a1 S1 x5 S4 hc6) ym_X6_valueOf si_X9_277 im_X6_valueOf se_X6_valueOf sk_4 rfl ⟨Nat.le_of_ble_eq_true rfl, Nat.le_of_ble_eq_true rfl⟩ rfl rfl (Nat.le_of_ble_eq_true rfl) dX9_doTask_17 ⟨Nat.le_refl _, Nat.le_refl _⟩ (fun hrv => av_eq (st2 := [am_J x5, am_I x2, am_R 7]) rfl rfl rfl rfl ?_))
  refine av_iconst (pc := 20) C dX9_doTask_20 rfl ?_
  obtain ⟨S7, hc8, hs⟩ := am_b1_of hs
  refine av_eq (st2 := [am_I (-1), am_J x5, am_I x2, am_R 7]) rfl rfl rfl rfl (av_callV (pc := 21) (as := [am_I x2, am_J x5, am_I (-1)]) (rest := []) C (ct_X5_perform l G x2 x5 (-1) S4 S7 hc8) ym_X5_perform si_X9_278 im_X5_perform se_X5_perform sk_7 rfl ⟨Nat.le_of_ble_eq_true rfl, Nat.le_of_ble_eq_true rfl⟩ rfl rfl (Nat.le_of_ble_eq_true rfl) dX9_doTask_21 ⟨Nat.le_refl _, Nat.le_refl _⟩ (fun hrv => av_eq (st2 := []) rfl rfl rfl rfl ?_))
  refine av_aload_n (pc := 24) (j := 0) C dX9_doTask_24 rfl rfl ?_
  refine av_getR (pc := 25) (k := 3) (r := 4) C fl_X9_33 sk_0 rfl dX9_doTask_25 ?_
  refine av_iload_n (pc := 28) (j := 1) C dX9_doTask_28 rfl rfl ?_
  obtain ⟨S9, hc10, hs⟩ := am_b1_of hs
  refine av_eq (st2 := [am_I a1, am_R 4]) rfl rfl rfl rfl (av_callV (pc := 29) (as := [am_I a1]) (rest := []) C (ct_X6_finish l G a1 S7 S9 hc10) ym_X6_finish si_X9_281 im_X6_finish se_X6_finish sk_4 rfl ⟨Nat.le_of_ble_eq_true rfl, Nat.le_of_ble_eq_true rfl⟩ rfl rfl (Nat.le_of_ble_eq_true rfl) dX9_doTask_29 ⟨Nat.le_refl _, Nat.le_refl _⟩ (fun hrv => av_eq (st2 := []) rfl rfl rfl rfl ?_))
  obtain rfl := am_inj1 hs
  exact av_vret C hr hlocks dX9_doTask_32
set_option maxHeartbeats 4000000 in
set_option maxRecDepth 100000 in
theorem wk_X9_run_13 {p : Program} {l : Launch} {e : Env} {s : State} {m : MethodId} {args : Array Value} {below : List Frame} {meth : Method} {c : Code} {G : am_G} (C : am_C p s m args c cX9_run 3 RX9 G) (hr : meth.sig.returnType = (some .int)) (hlocks : meth.locks = false) : ∀ (fu : Nat) (b1 : Int) (b2 : Int) (S : am_S) (x : Int) (SZ : am_S), sf_X9_run_13 fu b1 b2 S = some (x, SZ) → am_V p l e (am_rm 6 146) s m args below meth c (MQ below (am_Q G (some (am_I x)) SZ) args s 0 0 (am_A G)) G (am_A G) s.heap 3 0 0 13 [(0, am_R 0), (1, am_I b1), (2, am_I b2)] [] S := by
  intro fu
  induction fu with
  | zero => intro b1 b2 S x SZ hs; cases hs
  | succ fu ih =>
    intro b1 b2 S x SZ hs
    unfold sf_X9_run_13 at hs
    refine av_iload_n (pc := 13) (j := 2) C dX9_run_13 rfl rfl ?_
    refine av_iload_n (pc := 14) (j := 1) C dX9_run_14 rfl rfl ?_
    refine av_icmp_ge (pc := 15) (tgt := 93) C dX9_run_15 (by decide) (fun hc => ?_) (fun hc => ?_)
    · rw [if_pos hc] at hs
      refine av_iload_n (pc := 93) (j := 2) C dX9_run_93 rfl rfl ?_
      obtain ⟨rfl, rfl⟩ := am_inj2 hs
      exact av_iret C hr hlocks dX9_run_94
    · rw [if_neg hc] at hs
      refine av_aload_n (pc := 18) (j := 0) C dX9_run_18 rfl rfl ?_
      refine av_getR (pc := 19) (k := 0) (r := 1) C fl_X9_12 sk_0 rfl dX9_run_19 ?_
      obtain ⟨x5, S4, hc6, hs⟩ := am_b2_of hs
      refine av_eq (st2 := [am_R 1]) rfl rfl rfl rfl (av_callV (pc := 22) (as := []) (rest := []) C (ct_X3_jobs l G  S x5 S4 hc6) ym_X3_jobs si_X9_145 im_X3_jobs se_X3_jobs sk_1 rfl ⟨Nat.le_of_ble_eq_true rfl, Nat.le_of_ble_eq_true rfl⟩ rfl rfl (Nat.le_of_ble_eq_true rfl) dX9_run_22 ⟨Nat.le_refl _, Nat.le_refl _⟩ (fun hrv => av_eq (st2 := [am_I x5]) rfl rfl rfl rfl ?_))
      refine av_if_gt (pc := 25) (tgt := 38) C dX9_run_25 (by decide) (fun hc => ?_) (fun hc => ?_)
      · rw [if_pos hc] at hs
        refine av_aload_n (pc := 38) (j := 0) C dX9_run_38 rfl rfl ?_
        refine av_getR (pc := 39) (k := 4) (r := 5) C fl_X9_40 sk_0 rfl dX9_run_39 ?_
        obtain ⟨S7, hc8, hs⟩ := am_b1_of hs
        refine av_eq (st2 := [am_R 5]) rfl rfl rfl rfl (av_callV (pc := 42) (as := []) (rest := []) C (ct_X2_beginTurn l G  S4 S7 hc8) ym_X2_beginTurn si_X9_151 im_X2_beginTurn se_X2_beginTurn sk_5 rfl ⟨Nat.le_of_ble_eq_true rfl, Nat.le_of_ble_eq_true rfl⟩ rfl rfl (Nat.le_of_ble_eq_true rfl) dX9_run_42 ⟨Nat.le_refl _, Nat.le_refl _⟩ (fun hrv => av_eq (st2 := []) rfl rfl rfl rfl ?_))
        refine av_aload_n (pc := 45) (j := 0) C dX9_run_45 rfl rfl ?_
        refine av_getR (pc := 46) (k := 0) (r := 1) C fl_X9_12 sk_0 rfl dX9_run_46 ?_
        obtain ⟨x10, S9, hc11, hs⟩ := am_b2_of hs
        refine av_eq (st2 := [am_R 1]) rfl rfl rfl rfl (av_callV (pc := 49) (as := []) (rest := []) C (ct_X3_jobs l G  S7 x10 S9 hc11) ym_X3_jobs si_X9_145 im_X3_jobs se_X3_jobs sk_1 rfl ⟨Nat.le_of_ble_eq_true rfl, Nat.le_of_ble_eq_true rfl⟩ rfl rfl (Nat.le_of_ble_eq_true rfl) dX9_run_49 ⟨Nat.le_refl _, Nat.le_refl _⟩ (fun hrv => av_eq (st2 := [am_I x10]) rfl rfl rfl rfl ?_))
        refine av_if_le (pc := 52) (tgt := 69) C dX9_run_52 (by decide) (fun hc => ?_) (fun hc => ?_)
        · rw [if_pos hc] at hs
          refine av_aload_n (pc := 69) (j := 0) C dX9_run_69 rfl rfl ?_
          refine av_aload_n (pc := 70) (j := 0) C dX9_run_70 rfl rfl ?_
          refine av_getR (pc := 71) (k := 3) (r := 4) C fl_X9_33 sk_0 rfl dX9_run_71 ?_
          obtain ⟨x13, S12, hc14, hs⟩ := am_b2_of hs
          refine av_eq (st2 := [am_R 4, am_R 0]) rfl rfl rfl rfl (av_callV (pc := 74) (as := []) (rest := [am_R 0]) C (ct_X6_dueFirst l G  S9 x13 S12 hc14) ym_X6_dueFirst si_X9_161 im_X6_dueFirst se_X6_dueFirst sk_4 rfl ⟨Nat.le_of_ble_eq_true rfl, Nat.le_of_ble_eq_true rfl⟩ rfl rfl (Nat.le_of_ble_eq_true rfl) dX9_run_74 ⟨Nat.le_refl _, Nat.le_refl _⟩ (fun hrv => av_eq (st2 := [am_I x13, am_R 0]) rfl rfl rfl rfl ?_))
          obtain ⟨S15, hc16, hs⟩ := am_b1_of hs
          refine av_eq (st2 := [am_I x13, am_R 0]) rfl rfl rfl rfl (av_callV (pc := 77) (as := [am_I x13]) (rest := []) C (ct_X9_doTask l G x13 S12 S15 hc16) ym_X9_doTask si_X9_164 im_X9_doTask se_X9_doTask sk_0 rfl ⟨Nat.le_of_ble_eq_true rfl, Nat.le_of_ble_eq_true rfl⟩ rfl rfl (Nat.le_of_ble_eq_true rfl) dX9_run_77 ⟨Nat.le_refl _, Nat.le_refl _⟩ (fun hrv => av_eq (st2 := []) rfl rfl rfl rfl ?_))
          refine av_aload_n (pc := 80) (j := 0) C dX9_run_80 rfl rfl ?_
          refine av_getR (pc := 81) (k := 6) (r := 7) C fl_X9_58 sk_0 rfl dX9_run_81 ?_
          obtain ⟨S17, hc18, hs⟩ := am_b1_of hs
          refine av_eq (st2 := [am_R 7]) rfl rfl rfl rfl (av_callV (pc := 84) (as := []) (rest := []) C (ct_X5_goOn l G  S15 S17 hc18) ym_X5_goOn si_X9_127 im_X5_goOn se_X5_goOn sk_7 rfl ⟨Nat.le_of_ble_eq_true rfl, Nat.le_of_ble_eq_true rfl⟩ rfl rfl (Nat.le_of_ble_eq_true rfl) dX9_run_84 ⟨Nat.le_refl _, Nat.le_refl _⟩ (fun hrv => av_eq (st2 := []) rfl rfl rfl rfl ?_))
          refine av_iinc (pc := 87) (j := 2) (lv2 := [(2, am_I (am_w32 (b2 + 1))), (0, am_R 0), (1, am_I b1)]) C dX9_run_87 rfl (by decide) rfl ?_
          refine av_goto (pc := 90) (tgt := 13) C dX9_run_90 (by decide) ?_
          refine av_lvsub (lv2 := [(0, am_R 0), (1, am_I b1), (2, am_I (am_w32 (b2 + 1)))]) [1, 2, 0] rfl ?_
          exact ih b1 (am_w32 (b2 + 1)) S17 x SZ hs
        · rw [if_neg hc] at hs
          refine av_aload_n (pc := 55) (j := 0) C dX9_run_55 rfl rfl ?_
          refine av_aload_n (pc := 56) (j := 0) C dX9_run_56 rfl rfl ?_
          refine av_getR (pc := 57) (k := 0) (r := 1) C fl_X9_12 sk_0 rfl dX9_run_57 ?_
          obtain ⟨x20, S19, hc21, hs⟩ := am_b2_of hs
          refine av_eq (st2 := [am_R 1, am_R 0]) rfl rfl rfl rfl (av_callV (pc := 60) (as := []) (rest := [am_R 0]) C (ct_X3_takeJob l G  S9 x20 S19 hc21) ym_X3_takeJob si_X9_154 im_X3_takeJob se_X3_takeJob sk_1 rfl ⟨Nat.le_of_ble_eq_true rfl, Nat.le_of_ble_eq_true rfl⟩ rfl rfl (Nat.le_of_ble_eq_true rfl) dX9_run_60 ⟨Nat.le_refl _, Nat.le_refl _⟩ (fun hrv => av_eq (st2 := [am_I x20, am_R 0]) rfl rfl rfl rfl ?_))
          obtain ⟨S22, hc23, hs⟩ := am_b1_of hs
          refine av_eq (st2 := [am_I x20, am_R 0]) rfl rfl rfl rfl (av_callV (pc := 63) (as := [am_I x20]) (rest := []) C (ct_X9_doJob l G x20 S19 S22 hc23) ym_X9_doJob si_X9_157 im_X9_doJob se_X9_doJob sk_0 rfl ⟨Nat.le_of_ble_eq_true rfl, Nat.le_of_ble_eq_true rfl⟩ rfl rfl (Nat.le_of_ble_eq_true rfl) dX9_run_63 ⟨Nat.le_refl _, Nat.le_refl _⟩ (fun hrv => av_eq (st2 := []) rfl rfl rfl rfl ?_))
          refine av_goto (pc := 66) (tgt := 80) C dX9_run_66 (by decide) ?_
          refine av_aload_n (pc := 80) (j := 0) C dX9_run_80 rfl rfl ?_
          refine av_getR (pc := 81) (k := 6) (r := 7) C fl_X9_58 sk_0 rfl dX9_run_81 ?_
          obtain ⟨S24, hc25, hs⟩ := am_b1_of hs
          refine av_eq (st2 := [am_R 7]) rfl rfl rfl rfl (av_callV (pc := 84) (as := []) (rest := []) C (ct_X5_goOn l G  S22 S24 hc25) ym_X5_goOn si_X9_127 im_X5_goOn se_X5_goOn sk_7 rfl ⟨Nat.le_of_ble_eq_true rfl, Nat.le_of_ble_eq_true rfl⟩ rfl rfl (Nat.le_of_ble_eq_true rfl) dX9_run_84 ⟨Nat.le_refl _, Nat.le_refl _⟩ (fun hrv => av_eq (st2 := []) rfl rfl rfl rfl ?_))
          refine av_iinc (pc := 87) (j := 2) (lv2 := [(2, am_I (am_w32 (b2 + 1))), (0, am_R 0), (1, am_I b1)]) C dX9_run_87 rfl (by decide) rfl ?_
          refine av_goto (pc := 90) (tgt := 13) C dX9_run_90 (by decide) ?_
          refine av_lvsub (lv2 := [(0, am_R 0), (1, am_I b1), (2, am_I (am_w32 (b2 + 1)))]) [1, 2, 0] rfl ?_
          exact ih b1 (am_w32 (b2 + 1)) S24 x SZ hs
      · rw [if_neg hc] at hs
        refine av_aload_n (pc := 28) (j := 0) C dX9_run_28 rfl rfl ?_
        refine av_getR (pc := 29) (k := 3) (r := 4) C fl_X9_33 sk_0 rfl dX9_run_29 ?_
        obtain ⟨x27, S26, hc28, hs⟩ := am_b2_of hs
        refine av_eq (st2 := [am_R 4]) rfl rfl rfl rfl (av_callV (pc := 32) (as := []) (rest := []) C (ct_X6_size l G  S4 x27 S26 hc28) ym_X6_size si_X9_148 im_X6_size se_X6_size sk_4 rfl ⟨Nat.le_of_ble_eq_true rfl, Nat.le_of_ble_eq_true rfl⟩ rfl rfl (Nat.le_of_ble_eq_true rfl) dX9_run_32 ⟨Nat.le_refl _, Nat.le_refl _⟩ (fun hrv => av_eq (st2 := [am_I x27]) rfl rfl rfl rfl ?_))
        refine av_if_le (pc := 35) (tgt := 93) C dX9_run_35 (by decide) (fun hc => ?_) (fun hc => ?_)
        · rw [if_pos hc] at hs
          refine av_iload_n (pc := 93) (j := 2) C dX9_run_93 rfl rfl ?_
          obtain ⟨rfl, rfl⟩ := am_inj2 hs
          exact av_iret C hr hlocks dX9_run_94
        · rw [if_neg hc] at hs
          refine av_aload_n (pc := 38) (j := 0) C dX9_run_38 rfl rfl ?_
          refine av_getR (pc := 39) (k := 4) (r := 5) C fl_X9_40 sk_0 rfl dX9_run_39 ?_
          obtain ⟨S29, hc30, hs⟩ := am_b1_of hs
          refine av_eq (st2 := [am_R 5]) rfl rfl rfl rfl (av_callV (pc := 42) (as := []) (rest := []) C (ct_X2_beginTurn l G  S26 S29 hc30) ym_X2_beginTurn si_X9_151 im_X2_beginTurn se_X2_beginTurn sk_5 rfl ⟨Nat.le_of_ble_eq_true rfl, Nat.le_of_ble_eq_true rfl⟩ rfl rfl (Nat.le_of_ble_eq_true rfl) dX9_run_42 ⟨Nat.le_refl _, Nat.le_refl _⟩ (fun hrv => av_eq (st2 := []) rfl rfl rfl rfl ?_))
          refine av_aload_n (pc := 45) (j := 0) C dX9_run_45 rfl rfl ?_
          refine av_getR (pc := 46) (k := 0) (r := 1) C fl_X9_12 sk_0 rfl dX9_run_46 ?_
          obtain ⟨x32, S31, hc33, hs⟩ := am_b2_of hs
          refine av_eq (st2 := [am_R 1]) rfl rfl rfl rfl (av_callV (pc := 49) (as := []) (rest := []) C (ct_X3_jobs l G  S29 x32 S31 hc33) ym_X3_jobs si_X9_145 im_X3_jobs se_X3_jobs sk_1 rfl ⟨Nat.le_of_ble_eq_true rfl, Nat.le_of_ble_eq_true rfl⟩ rfl rfl (Nat.le_of_ble_eq_true rfl) dX9_run_49 ⟨Nat.le_refl _, Nat.le_refl _⟩ (fun hrv => av_eq (st2 := [am_I x32]) rfl rfl rfl rfl ?_))
          refine av_if_le (pc := 52) (tgt := 69) C dX9_run_52 (by decide) (fun hc => ?_) (fun hc => ?_)
          · rw [if_pos hc] at hs
            refine av_aload_n (pc := 69) (j := 0) C dX9_run_69 rfl rfl ?_
            refine av_aload_n (pc := 70) (j := 0) C dX9_run_70 rfl rfl ?_
            refine av_getR (pc := 71) (k := 3) (r := 4) C fl_X9_33 sk_0 rfl dX9_run_71 ?_
            obtain ⟨x35, S34, hc36, hs⟩ := am_b2_of hs
            refine av_eq (st2 := [am_R 4, am_R 0]) rfl rfl rfl rfl (av_callV (pc := 74) (as := []) (rest := [am_R 0]) C (ct_X6_dueFirst l G  S31 x35 S34 hc36) ym_X6_dueFirst si_X9_161 im_X6_dueFirst se_X6_dueFirst sk_4 rfl ⟨Nat.le_of_ble_eq_true rfl, Nat.le_of_ble_eq_true rfl⟩ rfl rfl (Nat.le_of_ble_eq_true rfl) dX9_run_74 ⟨Nat.le_refl _, Nat.le_refl _⟩ (fun hrv => av_eq (st2 := [am_I x35, am_R 0]) rfl rfl rfl rfl ?_))
            obtain ⟨S37, hc38, hs⟩ := am_b1_of hs
            refine av_eq (st2 := [am_I x35, am_R 0]) rfl rfl rfl rfl (av_callV (pc := 77) (as := [am_I x35]) (rest := []) C (ct_X9_doTask l G x35 S34 S37 hc38) ym_X9_doTask si_X9_164 im_X9_doTask se_X9_doTask sk_0 rfl ⟨Nat.le_of_ble_eq_true rfl, Nat.le_of_ble_eq_true rfl⟩ rfl rfl (Nat.le_of_ble_eq_true rfl) dX9_run_77 ⟨Nat.le_refl _, Nat.le_refl _⟩ (fun hrv => av_eq (st2 := []) rfl rfl rfl rfl ?_))
            refine av_aload_n (pc := 80) (j := 0) C dX9_run_80 rfl rfl ?_
            refine av_getR (pc := 81) (k := 6) (r := 7) C fl_X9_58 sk_0 rfl dX9_run_81 ?_
            obtain ⟨S39, hc40, hs⟩ := am_b1_of hs
            refine av_eq (st2 := [am_R 7]) rfl rfl rfl rfl (av_callV (pc := 84) (as := []) (rest := []) C (ct_X5_goOn l G  S37 S39 hc40) ym_X5_goOn si_X9_127 im_X5_goOn se_X5_goOn sk_7 rfl ⟨Nat.le_of_ble_eq_true rfl, Nat.le_of_ble_eq_true rfl⟩ rfl rfl (Nat.le_of_ble_eq_true rfl) dX9_run_84 ⟨Nat.le_refl _, Nat.le_refl _⟩ (fun hrv => av_eq (st2 := []) rfl rfl rfl rfl ?_))
            refine av_iinc (pc := 87) (j := 2) (lv2 := [(2, am_I (am_w32 (b2 + 1))), (0, am_R 0), (1, am_I b1)]) C dX9_run_87 rfl (by decide) rfl ?_
            refine av_goto (pc := 90) (tgt := 13) C dX9_run_90 (by decide) ?_
            refine av_lvsub (lv2 := [(0, am_R 0), (1, am_I b1), (2, am_I (am_w32 (b2 + 1)))]) [1, 2, 0] rfl ?_
            exact ih b1 (am_w32 (b2 + 1)) S39 x SZ hs
          · rw [if_neg hc] at hs
            refine av_aload_n (pc := 55) (j := 0) C dX9_run_55 rfl rfl ?_
            refine av_aload_n (pc := 56) (j := 0) C dX9_run_56 rfl rfl ?_
            refine av_getR (pc := 57) (k := 0) (r := 1) C fl_X9_12 sk_0 rfl dX9_run_57 ?_
            obtain ⟨x42, S41, hc43, hs⟩ := am_b2_of hs
            refine av_eq (st2 := [am_R 1, am_R 0]) rfl rfl rfl rfl (av_callV (pc := 60) (as := []) (rest := [am_R 0]) C (ct_X3_takeJob l G  S31 x42 S41 hc43) ym_X3_takeJob si_X9_154 im_X3_takeJob se_X3_takeJob sk_1 rfl ⟨Nat.le_of_ble_eq_true rfl, Nat.le_of_ble_eq_true rfl⟩ rfl rfl (Nat.le_of_ble_eq_true rfl) dX9_run_60 ⟨Nat.le_refl _, Nat.le_refl _⟩ (fun hrv => av_eq (st2 := [am_I x42, am_R 0]) rfl rfl rfl rfl ?_))
            obtain ⟨S44, hc45, hs⟩ := am_b1_of hs
            refine av_eq (st2 := [am_I x42, am_R 0]) rfl rfl rfl rfl (av_callV (pc := 63) (as := [am_I x42]) (rest := []) C (ct_X9_doJob l G x42 S41 S44 hc45) ym_X9_doJob si_X9_157 im_X9_doJob se_X9_doJob sk_0 rfl ⟨Nat.le_of_ble_eq_true rfl, Nat.le_of_ble_eq_true rfl⟩ rfl rfl (Nat.le_of_ble_eq_true rfl) dX9_run_63 ⟨Nat.le_refl _, Nat.le_refl _⟩ (fun hrv => av_eq (st2 := []) rfl rfl rfl rfl ?_))
            refine av_goto (pc := 66) (tgt := 80) C dX9_run_66 (by decide) ?_
            refine av_aload_n (pc := 80) (j := 0) C dX9_run_80 rfl rfl ?_
            refine av_getR (pc := 81) (k := 6) (r := 7) C fl_X9_58 sk_0 rfl dX9_run_81 ?_
            obtain ⟨S46, hc47, hs⟩ := am_b1_of hs
            refine av_eq (st2 := [am_R 7]) rfl rfl rfl rfl (av_callV (pc := 84) (as := []) (rest := []) C (ct_X5_goOn l G  S44 S46 hc47) ym_X5_goOn si_X9_127 im_X5_goOn se_X5_goOn sk_7 rfl ⟨Nat.le_of_ble_eq_true rfl, Nat.le_of_ble_eq_true rfl⟩ rfl rfl (Nat.le_of_ble_eq_true rfl) dX9_run_84 ⟨Nat.le_refl _, Nat.le_refl _⟩ (fun hrv => av_eq (st2 := []) rfl rfl rfl rfl ?_))
            refine av_iinc (pc := 87) (j := 2) (lv2 := [(2, am_I (am_w32 (b2 + 1))), (0, am_R 0), (1, am_I b1)]) C dX9_run_87 rfl (by decide) rfl ?_
            refine av_goto (pc := 90) (tgt := 13) C dX9_run_90 (by decide) ?_
            refine av_lvsub (lv2 := [(0, am_R 0), (1, am_I b1), (2, am_I (am_w32 (b2 + 1)))]) [1, 2, 0] rfl ?_
            exact ih b1 (am_w32 (b2 + 1)) S46 x SZ hs
set_option maxHeartbeats 4000000 in
set_option maxRecDepth 100000 in
theorem ct_X9_run (l : Launch) (G : am_G) (a1 : Int) (S : am_S) (x : Int) (SZ : am_S) (hs : sf_X9_run a1 S = some (x, SZ)) : am_met l yX9_run cX9_run 3 (some .int) 6 146 G [am_R 0, am_I a1] S (some (am_I x)) SZ := by
  refine am_enter ym_X9_run (Nat.le_of_ble_eq_true rfl) ?_
  intro p e s m args below meth c C hr hlocks
  refine av_eq (lv2 := [(0, am_R 0), (1, am_I a1)]) rfl rfl rfl rfl ?_
  unfold sf_X9_run at hs
  refine av_iload_n (pc := 0) (j := 1) C dX9_run_0 rfl rfl ?_
  refine av_bipush (pc := 1) C dX9_run_1 rfl ?_
  obtain ⟨x2, S1, hc3, hs⟩ := am_b2_of hs
  refine av_eq (st2 := [am_I 61, am_I a1]) rfl rfl rfl rfl (av_callS (pc := 3) (as := [am_I a1, am_I 61]) (rest := []) C (ct_X9_isWithin l G a1 61 S x2 S1 hc3) ym_X9_isWithin si_X9_99 st_X9_isWithin ⟨Nat.le_of_ble_eq_true rfl, Nat.le_of_ble_eq_true rfl⟩ rfl rfl (Nat.le_of_ble_eq_true rfl) dX9_run_3 ⟨Nat.le_refl _, Nat.le_refl _⟩ (fun hrv => av_eq (st2 := [am_I x2]) rfl rfl rfl rfl ?_))
  refine av_if_ne (pc := 6) (tgt := 11) C dX9_run_6 (by decide) (fun hc => ?_) (fun hc => ?_)
  · rw [if_neg hc] at hs
    refine av_iconst (pc := 11) C dX9_run_11 rfl ?_
    refine av_istore_n (pc := 12) (i := 2) (lv2 := [(2, am_I 0), (0, am_R 0), (1, am_I a1)]) C dX9_run_12 rfl (by decide) rfl ?_
    refine av_lvsub (lv2 := [(0, am_R 0), (1, am_I a1), (2, am_I 0)]) [1, 2, 0] rfl ?_
    exact wk_X9_run_13 C hr hlocks 1000 a1 0 S1 x SZ hs
  · rw [if_pos (Decidable.not_not.mp hc)] at hs
    refine av_iconst (pc := 9) C dX9_run_9 rfl ?_
    obtain ⟨rfl, rfl⟩ := am_inj2 hs
    exact av_iret C hr hlocks dX9_run_10
set_option maxHeartbeats 4000000 in
set_option maxRecDepth 100000 in
theorem ct_X9_forget (l : Launch) (G : am_G) (S : am_S) (x : Int) (SZ : am_S) (hs : sf_X9_forget  S = some (x, SZ)) : am_met l yX9_forget cX9_forget 2 (some .int) 2 43 G [am_R 0] S (some (am_I x)) SZ := by
  refine am_enter ym_X9_forget (Nat.le_of_ble_eq_true rfl) ?_
  intro p e s m args below meth c C hr hlocks
  refine av_eq (lv2 := [(0, am_R 0)]) rfl rfl rfl rfl ?_
  unfold sf_X9_forget at hs
  refine av_aload_n (pc := 0) (j := 0) C dX9_forget_0 rfl rfl ?_
  refine av_getR (pc := 1) (k := 0) (r := 1) C fl_X9_12 sk_0 rfl dX9_forget_1 ?_
  obtain ⟨x2, S1, hc3, hs⟩ := am_b2_of hs
  refine av_eq (st2 := [am_R 1]) rfl rfl rfl rfl (av_callV (pc := 4) (as := []) (rest := []) C (ct_X3_made l G  S x2 S1 hc3) ym_X3_made si_X9_167 im_X3_made se_X3_made sk_1 rfl ⟨Nat.le_of_ble_eq_true rfl, Nat.le_of_ble_eq_true rfl⟩ rfl rfl (Nat.le_of_ble_eq_true rfl) dX9_forget_4 ⟨Nat.le_refl _, Nat.le_refl _⟩ (fun hrv => av_eq (st2 := [am_I x2]) rfl rfl rfl rfl ?_))
  refine av_istore_n (pc := 7) (i := 1) (lv2 := [(1, am_I x2), (0, am_R 0)]) C dX9_forget_7 rfl (by decide) rfl ?_
  refine av_aload_n (pc := 8) (j := 1) C dX9_forget_8 rfl rfl ?_
  refine av_getR (pc := 9) (k := 0) (r := 1) C fl_X9_12 sk_0 rfl dX9_forget_9 ?_
  obtain ⟨S4, hc5, hs⟩ := am_b1_of hs
  refine av_eq (st2 := [am_R 1]) rfl rfl rfl rfl (av_callV (pc := 12) (as := []) (rest := []) C (ct_X3_clear l G  S1 S4 hc5) ym_X3_clear si_X9_170 im_X3_clear se_X3_clear sk_1 rfl ⟨Nat.le_of_ble_eq_true rfl, Nat.le_of_ble_eq_true rfl⟩ rfl rfl (Nat.le_of_ble_eq_true rfl) dX9_forget_12 ⟨Nat.le_refl _, Nat.le_refl _⟩ (fun hrv => av_eq (st2 := []) rfl rfl rfl rfl ?_))
  refine av_aload_n (pc := 15) (j := 1) C dX9_forget_15 rfl rfl ?_
  refine av_getR (pc := 16) (k := 1) (r := 2) C fl_X9_19 sk_0 rfl dX9_forget_16 ?_
  obtain ⟨S6, hc7, hs⟩ := am_b1_of hs
  refine av_eq (st2 := [am_R 2]) rfl rfl rfl rfl (av_callV (pc := 19) (as := []) (rest := []) C (ct_X7_clear l G  S4 S6 hc7) ym_X7_clear si_X9_173 im_X7_clear se_X7_clear sk_2 rfl ⟨Nat.le_of_ble_eq_true rfl, Nat.le_of_ble_eq_true rfl⟩ rfl rfl (Nat.le_of_ble_eq_true rfl) dX9_forget_19 ⟨Nat.le_refl _, Nat.le_refl _⟩ (fun hrv => av_eq (st2 := []) rfl rfl rfl rfl ?_))
  refine av_aload_n (pc := 22) (j := 1) C dX9_forget_22 rfl rfl ?_
  refine av_getR (pc := 23) (k := 3) (r := 4) C fl_X9_33 sk_0 rfl dX9_forget_23 ?_
  obtain ⟨S8, hc9, hs⟩ := am_b1_of hs
  refine av_eq (st2 := [am_R 4]) rfl rfl rfl rfl (av_callV (pc := 26) (as := []) (rest := []) C (ct_X6_clear l G  S6 S8 hc9) ym_X6_clear si_X9_174 im_X6_clear se_X6_clear sk_4 rfl ⟨Nat.le_of_ble_eq_true rfl, Nat.le_of_ble_eq_true rfl⟩ rfl rfl (Nat.le_of_ble_eq_true rfl) dX9_forget_26 ⟨Nat.le_refl _, Nat.le_refl _⟩ (fun hrv => av_eq (st2 := []) rfl rfl rfl rfl ?_))
  refine av_aload_n (pc := 29) (j := 1) C dX9_forget_29 rfl rfl ?_
  refine av_getR (pc := 30) (k := 4) (r := 5) C fl_X9_40 sk_0 rfl dX9_forget_30 ?_
  obtain ⟨S10, hc11, hs⟩ := am_b1_of hs
  refine av_eq (st2 := [am_R 5]) rfl rfl rfl rfl (av_callV (pc := 33) (as := []) (rest := []) C (ct_X2_clear l G  S8 S10 hc11) ym_X2_clear si_X9_175 im_X2_clear se_X2_clear sk_5 rfl ⟨Nat.le_of_ble_eq_true rfl, Nat.le_of_ble_eq_true rfl⟩ rfl rfl (Nat.le_of_ble_eq_true rfl) dX9_forget_33 ⟨Nat.le_refl _, Nat.le_refl _⟩ (fun hrv => av_eq (st2 := []) rfl rfl rfl rfl ?_))
  refine av_aload_n (pc := 36) (j := 1) C dX9_forget_36 rfl rfl ?_
  refine av_getR (pc := 37) (k := 5) (r := 6) C fl_X9_49 sk_0 rfl dX9_forget_37 ?_
  obtain ⟨S12, hc13, hs⟩ := am_b1_of hs
  refine av_eq (st2 := [am_R 6]) rfl rfl rfl rfl (av_callV (pc := 40) (as := []) (rest := []) C (ct_X1_clear l G  S10 S12 hc13) ym_X1_clear si_X9_176 im_X1_clear se_X1_clear sk_6 rfl ⟨Nat.le_of_ble_eq_true rfl, Nat.le_of_ble_eq_true rfl⟩ rfl rfl (Nat.le_of_ble_eq_true rfl) dX9_forget_40 ⟨Nat.le_refl _, Nat.le_refl _⟩ (fun hrv => av_eq (st2 := []) rfl rfl rfl rfl ?_))
  refine av_aload_n (pc := 43) (j := 1) C dX9_forget_43 rfl rfl ?_
  refine av_getR (pc := 44) (k := 6) (r := 7) C fl_X9_58 sk_0 rfl dX9_forget_44 ?_
  obtain ⟨S14, hc15, hs⟩ := am_b1_of hs
  refine av_eq (st2 := [am_R 7]) rfl rfl rfl rfl (av_callV (pc := 47) (as := []) (rest := []) C (ct_X5_clear l G  S12 S14 hc15) ym_X5_clear si_X9_177 im_X5_clear se_X5_clear sk_7 rfl ⟨Nat.le_of_ble_eq_true rfl, Nat.le_of_ble_eq_true rfl⟩ rfl rfl (Nat.le_of_ble_eq_true rfl) dX9_forget_47 ⟨Nat.le_refl _, Nat.le_refl _⟩ (fun hrv => av_eq (st2 := []) rfl rfl rfl rfl ?_))
  refine av_iload_n (pc := 50) (j := 0) C dX9_forget_50 rfl rfl ?_
  obtain ⟨rfl, rfl⟩ := am_inj2 hs
  exact av_iret C hr hlocks dX9_forget_51
set_option maxHeartbeats 4000000 in
set_option maxRecDepth 100000 in
theorem wk_X9_state_29 {p : Program} {l : Launch} {e : Env} {s : State} {m : MethodId} {args : Array Value} {below : List Frame} {meth : Method} {c : Code} {G : am_G} (C : am_C p s m args c cX9_state 4 RX9 G) (hr : meth.sig.returnType = (some .int)) (hlocks : meth.locks = false) (b1 : Int) (b2 : Int) (t0 : Int) (S : am_S) (x : Int) (SZ : am_S) (hs : sf_X9_state_29 b1 b2 t0 S = some (x, SZ)) : am_V p l e (am_rm 2 42) s m args below meth c (MQ below (am_Q G (some (am_I x)) SZ) args s 0 0 (am_A G)) G (am_A G) s.heap 4 0 0 29 [(0, am_R 0), (1, am_I b1), (2, am_I b2)] [am_I t0] S := by
  unfold sf_X9_state_29 at hs
  refine av_istore_n (pc := 29) (i := 3) (lv2 := [(3, am_I t0), (0, am_R 0), (1, am_I b1), (2, am_I b2)]) C dX9_state_29 rfl (by decide) rfl ?_
  refine av_iload_n (pc := 30) (j := 3) C dX9_state_30 rfl rfl ?_
  have hdef7 : (hs : (some ((-1), S)) = some (x, SZ)) → am_V p l e (am_rm 2 42) s m args below meth c (MQ below (am_Q G (some (am_I x)) SZ) args s 0 0 (am_A G)) G (am_A G) s.heap 4 0 0 194 [(3, am_I t0), (0, am_R 0), (1, am_I b1), (2, am_I b2)] [] S := by
    intro hs
    refine av_iconst (pc := 194) C dX9_state_194 rfl ?_
    obtain ⟨rfl, rfl⟩ := am_inj2 hs
    exact av_iret C hr hlocks dX9_state_195
  by_cases hk0 : b2 = 0
  · rw [if_pos hk0] at hs
    refine av_swi (pc := 31) (k := 0) (tgt := 76) C dX9_state_31 (by rw [hk0]; rfl) (by decide) rfl (by decide) ?_
    refine av_aload_n (pc := 76) (j := 1) C dX9_state_76 rfl rfl ?_
    refine av_getR (pc := 77) (k := 0) (r := 1) C fl_X9_12 sk_0 rfl dX9_state_77 ?_
    refine av_iload_n (pc := 80) (j := 2) C dX9_state_80 rfl rfl ?_
    obtain ⟨x9, S8, hc10, hs⟩ := am_b2_of hs
    refine av_eq (st2 := [am_I b1, am_R 1]) rfl rfl rfl rfl (av_callV (pc := 81) (as := [am_I b1]) (rest := []) C (ct_X3_statusOf l G b1 S x9 S8 hc10) ym_X3_statusOf si_X9_178 im_X3_statusOf se_X3_statusOf sk_1 rfl ⟨Nat.le_of_ble_eq_true rfl, Nat.le_of_ble_eq_true rfl⟩ rfl rfl (Nat.le_of_ble_eq_true rfl) dX9_state_81 ⟨Nat.le_refl _, Nat.le_refl _⟩ (fun hrv => av_eq (st2 := [am_I x9]) rfl rfl rfl rfl ?_))
    obtain ⟨rfl, rfl⟩ := am_inj2 hs
    exact av_iret C hr hlocks dX9_state_84
  · rw [if_neg hk0] at hs
    by_cases hk1 : b2 = 1
    · rw [if_pos hk1] at hs
      refine av_swi (pc := 31) (k := 1) (tgt := 85) C dX9_state_31 (by rw [hk1]; rfl) (by decide) rfl (by decide) ?_
      refine av_iload_n (pc := 85) (j := 0) C dX9_state_85 rfl rfl ?_
      refine av_if_eq (pc := 86) (tgt := 93) C dX9_state_86 (by decide) (fun hc => ?_) (fun hc => ?_)
      · rw [if_pos hc] at hs
        refine av_aload_n (pc := 93) (j := 1) C dX9_state_93 rfl rfl ?_
        refine av_getR (pc := 94) (k := 0) (r := 1) C fl_X9_12 sk_0 rfl dX9_state_94 ?_
        refine av_iload_n (pc := 97) (j := 2) C dX9_state_97 rfl rfl ?_
        obtain ⟨x12, S11, hc13, hs⟩ := am_b2_of hs
        refine av_eq (st2 := [am_I b1, am_R 1]) rfl rfl rfl rfl (av_callV (pc := 98) (as := [am_I b1]) (rest := []) C (ct_X3_valueOf l G b1 S x12 S11 hc13) ym_X3_valueOf si_X9_181 im_X3_valueOf se_X3_valueOf sk_1 rfl ⟨Nat.le_of_ble_eq_true rfl, Nat.le_of_ble_eq_true rfl⟩ rfl rfl (Nat.le_of_ble_eq_true rfl) dX9_state_98 ⟨Nat.le_refl _, Nat.le_refl _⟩ (fun hrv => av_eq (st2 := [am_J x12]) rfl rfl rfl rfl ?_))
        obtain ⟨x15, S14, hc16, hs⟩ := am_b2_of hs
        refine av_eq (st2 := [am_J x12]) rfl rfl rfl rfl (av_callS (pc := 101) (as := [am_J x12]) (rest := []) C (ct_X8_sortOf l G x12 S11 x15 S14 hc16) ym_X8_sortOf si_X9_185 st_X8_sortOf ⟨Nat.le_of_ble_eq_true rfl, Nat.le_of_ble_eq_true rfl⟩ rfl rfl (Nat.le_of_ble_eq_true rfl) dX9_state_101 ⟨Nat.le_refl _, Nat.le_refl _⟩ (fun hrv => av_eq (st2 := [am_I x15]) rfl rfl rfl rfl ?_))
        obtain ⟨rfl, rfl⟩ := am_inj2 hs
        exact av_iret C hr hlocks dX9_state_104
      · rw [if_neg hc] at hs
        refine av_iconst (pc := 89) C dX9_state_89 rfl ?_
        refine av_goto (pc := 90) (tgt := 104) C dX9_state_90 (by decide) ?_
        obtain ⟨rfl, rfl⟩ := am_inj2 hs
        exact av_iret C hr hlocks dX9_state_104
    · rw [if_neg hk1] at hs
      by_cases hk2 : b2 = 2
      · rw [if_pos hk2] at hs
        refine av_swi (pc := 31) (k := 2) (tgt := 105) C dX9_state_31 (by rw [hk2]; rfl) (by decide) rfl (by decide) ?_
        refine av_iload_n (pc := 105) (j := 0) C dX9_state_105 rfl rfl ?_
        refine av_if_eq (pc := 106) (tgt := 113) C dX9_state_106 (by decide) (fun hc => ?_) (fun hc => ?_)
        · rw [if_pos hc] at hs
          refine av_aload_n (pc := 113) (j := 1) C dX9_state_113 rfl rfl ?_
          refine av_getR (pc := 114) (k := 0) (r := 1) C fl_X9_12 sk_0 rfl dX9_state_114 ?_
          refine av_iload_n (pc := 117) (j := 2) C dX9_state_117 rfl rfl ?_
          obtain ⟨x18, S17, hc19, hs⟩ := am_b2_of hs
          refine av_eq (st2 := [am_I b1, am_R 1]) rfl rfl rfl rfl (av_callV (pc := 118) (as := [am_I b1]) (rest := []) C (ct_X3_valueOf l G b1 S x18 S17 hc19) ym_X3_valueOf si_X9_181 im_X3_valueOf se_X3_valueOf sk_1 rfl ⟨Nat.le_of_ble_eq_true rfl, Nat.le_of_ble_eq_true rfl⟩ rfl rfl (Nat.le_of_ble_eq_true rfl) dX9_state_118 ⟨Nat.le_refl _, Nat.le_refl _⟩ (fun hrv => av_eq (st2 := [am_J x18]) rfl rfl rfl rfl ?_))
          obtain ⟨x21, S20, hc22, hs⟩ := am_b2_of hs
          refine av_eq (st2 := [am_J x18]) rfl rfl rfl rfl (av_callS (pc := 121) (as := [am_J x18]) (rest := []) C (ct_X8_numberOf l G x18 S17 x21 S20 hc22) ym_X8_numberOf si_X9_188 st_X8_numberOf ⟨Nat.le_of_ble_eq_true rfl, Nat.le_of_ble_eq_true rfl⟩ rfl rfl (Nat.le_of_ble_eq_true rfl) dX9_state_121 ⟨Nat.le_refl _, Nat.le_refl _⟩ (fun hrv => av_eq (st2 := [am_I x21]) rfl rfl rfl rfl ?_))
          obtain ⟨rfl, rfl⟩ := am_inj2 hs
          exact av_iret C hr hlocks dX9_state_124
        · rw [if_neg hc] at hs
          refine av_iconst (pc := 109) C dX9_state_109 rfl ?_
          refine av_goto (pc := 110) (tgt := 124) C dX9_state_110 (by decide) ?_
          obtain ⟨rfl, rfl⟩ := am_inj2 hs
          exact av_iret C hr hlocks dX9_state_124
      · rw [if_neg hk2] at hs
        by_cases hk3 : b2 = 3
        · rw [if_pos hk3] at hs
          refine av_swi (pc := 31) (k := 3) (tgt := 125) C dX9_state_31 (by rw [hk3]; rfl) (by decide) rfl (by decide) ?_
          refine av_aload_n (pc := 125) (j := 1) C dX9_state_125 rfl rfl ?_
          refine av_getR (pc := 126) (k := 0) (r := 1) C fl_X9_12 sk_0 rfl dX9_state_126 ?_
          refine av_iload_n (pc := 129) (j := 2) C dX9_state_129 rfl rfl ?_
          obtain ⟨x24, S23, hc25, hs⟩ := am_b2_of hs
          refine av_eq (st2 := [am_I b1, am_R 1]) rfl rfl rfl rfl (av_callV (pc := 130) (as := [am_I b1]) (rest := []) C (ct_X3_isLoose l G b1 S x24 S23 hc25) ym_X3_isLoose si_X9_191 im_X3_isLoose se_X3_isLoose sk_1 rfl ⟨Nat.le_of_ble_eq_true rfl, Nat.le_of_ble_eq_true rfl⟩ rfl rfl (Nat.le_of_ble_eq_true rfl) dX9_state_130 ⟨Nat.le_refl _, Nat.le_refl _⟩ (fun hrv => av_eq (st2 := [am_I x24]) rfl rfl rfl rfl ?_))
          refine av_if_eq (pc := 133) (tgt := 140) C dX9_state_133 (by decide) (fun hc => ?_) (fun hc => ?_)
          · rw [if_pos hc] at hs
            refine av_iconst (pc := 140) C dX9_state_140 rfl ?_
            obtain ⟨rfl, rfl⟩ := am_inj2 hs
            exact av_iret C hr hlocks dX9_state_141
          · rw [if_neg hc] at hs
            refine av_iconst (pc := 136) C dX9_state_136 rfl ?_
            refine av_goto (pc := 137) (tgt := 141) C dX9_state_137 (by decide) ?_
            obtain ⟨rfl, rfl⟩ := am_inj2 hs
            exact av_iret C hr hlocks dX9_state_141
        · rw [if_neg hk3] at hs
          by_cases hk4 : b2 = 4
          · rw [if_pos hk4] at hs
            refine av_swi (pc := 31) (k := 4) (tgt := 142) C dX9_state_31 (by rw [hk4]; rfl) (by decide) rfl (by decide) ?_
            refine av_aload_n (pc := 142) (j := 1) C dX9_state_142 rfl rfl ?_
            refine av_getR (pc := 143) (k := 0) (r := 1) C fl_X9_12 sk_0 rfl dX9_state_143 ?_
            refine av_iload_n (pc := 146) (j := 2) C dX9_state_146 rfl rfl ?_
            obtain ⟨x27, S26, hc28, hs⟩ := am_b2_of hs
            refine av_eq (st2 := [am_I b1, am_R 1]) rfl rfl rfl rfl (av_callV (pc := 147) (as := [am_I b1]) (rest := []) C (ct_X3_reactionsOf l G b1 S x27 S26 hc28) ym_X3_reactionsOf si_X9_194 im_X3_reactionsOf se_X3_reactionsOf sk_1 rfl ⟨Nat.le_of_ble_eq_true rfl, Nat.le_of_ble_eq_true rfl⟩ rfl rfl (Nat.le_of_ble_eq_true rfl) dX9_state_147 ⟨Nat.le_refl _, Nat.le_refl _⟩ (fun hrv => av_eq (st2 := [am_I x27]) rfl rfl rfl rfl ?_))
            obtain ⟨rfl, rfl⟩ := am_inj2 hs
            exact av_iret C hr hlocks dX9_state_150
          · rw [if_neg hk4] at hs
            by_cases hk5 : b2 = 5
            · rw [if_pos hk5] at hs
              refine av_swi (pc := 31) (k := 5) (tgt := 151) C dX9_state_31 (by rw [hk5]; rfl) (by decide) rfl (by decide) ?_
              refine av_aload_n (pc := 151) (j := 1) C dX9_state_151 rfl rfl ?_
              refine av_getR (pc := 152) (k := 0) (r := 1) C fl_X9_12 sk_0 rfl dX9_state_152 ?_
              refine av_iload_n (pc := 155) (j := 2) C dX9_state_155 rfl rfl ?_
              obtain ⟨x30, S29, hc31, hs⟩ := am_b2_of hs
              refine av_eq (st2 := [am_I b1, am_R 1]) rfl rfl rfl rfl (av_callV (pc := 156) (as := [am_I b1]) (rest := []) C (ct_X3_lastKeyOf l G b1 S x30 S29 hc31) ym_X3_lastKeyOf si_X9_197 im_X3_lastKeyOf se_X3_lastKeyOf sk_1 rfl ⟨Nat.le_of_ble_eq_true rfl, Nat.le_of_ble_eq_true rfl⟩ rfl rfl (Nat.le_of_ble_eq_true rfl) dX9_state_156 ⟨Nat.le_refl _, Nat.le_refl _⟩ (fun hrv => av_eq (st2 := [am_I x30]) rfl rfl rfl rfl ?_))
              obtain ⟨rfl, rfl⟩ := am_inj2 hs
              exact av_iret C hr hlocks dX9_state_159
            · rw [if_neg hk5] at hs
              by_cases hk6 : b2 = 6
              · rw [if_pos hk6] at hs
                refine av_swi (pc := 31) (k := 6) (tgt := 160) C dX9_state_31 (by rw [hk6]; rfl) (by decide) rfl (by decide) ?_
                refine av_aload_n (pc := 160) (j := 1) C dX9_state_160 rfl rfl ?_
                refine av_getR (pc := 161) (k := 0) (r := 1) C fl_X9_12 sk_0 rfl dX9_state_161 ?_
                refine av_iload_n (pc := 164) (j := 2) C dX9_state_164 rfl rfl ?_
                obtain ⟨x33, S32, hc34, hs⟩ := am_b2_of hs
                refine av_eq (st2 := [am_I b1, am_R 1]) rfl rfl rfl rfl (av_callV (pc := 165) (as := [am_I b1]) (rest := []) C (ct_X3_isKeyUsed l G b1 S x33 S32 hc34) ym_X3_isKeyUsed si_X9_200 im_X3_isKeyUsed se_X3_isKeyUsed sk_1 rfl ⟨Nat.le_of_ble_eq_true rfl, Nat.le_of_ble_eq_true rfl⟩ rfl rfl (Nat.le_of_ble_eq_true rfl) dX9_state_165 ⟨Nat.le_refl _, Nat.le_refl _⟩ (fun hrv => av_eq (st2 := [am_I x33]) rfl rfl rfl rfl ?_))
                refine av_if_eq (pc := 168) (tgt := 175) C dX9_state_168 (by decide) (fun hc => ?_) (fun hc => ?_)
                · rw [if_pos hc] at hs
                  refine av_iconst (pc := 175) C dX9_state_175 rfl ?_
                  obtain ⟨rfl, rfl⟩ := am_inj2 hs
                  exact av_iret C hr hlocks dX9_state_176
                · rw [if_neg hc] at hs
                  refine av_iconst (pc := 171) C dX9_state_171 rfl ?_
                  refine av_goto (pc := 172) (tgt := 176) C dX9_state_172 (by decide) ?_
                  obtain ⟨rfl, rfl⟩ := am_inj2 hs
                  exact av_iret C hr hlocks dX9_state_176
              · rw [if_neg hk6] at hs
                by_cases hk7 : b2 = 7
                · rw [if_pos hk7] at hs
                  refine av_swi (pc := 31) (k := 7) (tgt := 177) C dX9_state_31 (by rw [hk7]; rfl) (by decide) rfl (by decide) ?_
                  refine av_aload_n (pc := 177) (j := 1) C dX9_state_177 rfl rfl ?_
                  refine av_getR (pc := 178) (k := 6) (r := 7) C fl_X9_58 sk_0 rfl dX9_state_178 ?_
                  refine av_iload_n (pc := 181) (j := 2) C dX9_state_181 rfl rfl ?_
                  obtain ⟨x36, S35, hc37, hs⟩ := am_b2_of hs
                  refine av_eq (st2 := [am_I b1, am_R 7]) rfl rfl rfl rfl (av_callV (pc := 182) (as := [am_I b1]) (rest := []) C (ct_X5_isStopped l G b1 S x36 S35 hc37) ym_X5_isStopped si_X9_203 im_X5_isStopped se_X5_isStopped sk_7 rfl ⟨Nat.le_of_ble_eq_true rfl, Nat.le_of_ble_eq_true rfl⟩ rfl rfl (Nat.le_of_ble_eq_true rfl) dX9_state_182 ⟨Nat.le_refl _, Nat.le_refl _⟩ (fun hrv => av_eq (st2 := [am_I x36]) rfl rfl rfl rfl ?_))
                  refine av_if_eq (pc := 185) (tgt := 192) C dX9_state_185 (by decide) (fun hc => ?_) (fun hc => ?_)
                  · rw [if_pos hc] at hs
                    refine av_iconst (pc := 192) C dX9_state_192 rfl ?_
                    obtain ⟨rfl, rfl⟩ := am_inj2 hs
                    exact av_iret C hr hlocks dX9_state_193
                  · rw [if_neg hc] at hs
                    refine av_iconst (pc := 188) C dX9_state_188 rfl ?_
                    refine av_goto (pc := 189) (tgt := 193) C dX9_state_189 (by decide) ?_
                    obtain ⟨rfl, rfl⟩ := am_inj2 hs
                    exact av_iret C hr hlocks dX9_state_193
                · rw [if_neg hk7] at hs
                  refine av_swo (pc := 31) (tgt := 194) C dX9_state_31 (by omega) (by decide) ?_
                  exact hdef7 hs
set_option maxHeartbeats 4000000 in
set_option maxRecDepth 100000 in
theorem ct_X9_state (l : Launch) (G : am_G) (a1 : Int) (a2 : Int) (S : am_S) (x : Int) (SZ : am_S) (hs : sf_X9_state a1 a2 S = some (x, SZ)) : am_met l yX9_state cX9_state 4 (some .int) 2 42 G [am_R 0, am_I a1, am_I a2] S (some (am_I x)) SZ := by
  refine am_enter ym_X9_state (Nat.le_of_ble_eq_true rfl) ?_
  intro p e s m args below meth c C hr hlocks
  refine av_eq (lv2 := [(0, am_R 0), (1, am_I a1), (2, am_I a2)]) rfl rfl rfl rfl ?_
  unfold sf_X9_state at hs
  refine av_aload_n (pc := 0) (j := 0) C dX9_state_0 rfl rfl ?_
  refine av_getR (pc := 1) (k := 0) (r := 1) C fl_X9_12 sk_0 rfl dX9_state_1 ?_
  refine av_iload_n (pc := 4) (j := 1) C dX9_state_4 rfl rfl ?_
  obtain ⟨x2, S1, hc3, hs⟩ := am_b2_of hs
  refine av_eq (st2 := [am_I a1, am_R 1]) rfl rfl rfl rfl (av_callV (pc := 5) (as := [am_I a1]) (rest := []) C (ct_X3_has l G a1 S x2 S1 hc3) ym_X3_has si_X9_74 im_X3_has se_X3_has sk_1 rfl ⟨Nat.le_of_ble_eq_true rfl, Nat.le_of_ble_eq_true rfl⟩ rfl rfl (Nat.le_of_ble_eq_true rfl) dX9_state_5 ⟨Nat.le_refl _, Nat.le_refl _⟩ (fun hrv => av_eq (st2 := [am_I x2]) rfl rfl rfl rfl ?_))
  refine av_if_ne (pc := 8) (tgt := 13) C dX9_state_8 (by decide) (fun hc => ?_) (fun hc => ?_)
  · rw [if_neg hc] at hs
    refine av_aload_n (pc := 13) (j := 0) C dX9_state_13 rfl rfl ?_
    refine av_getR (pc := 14) (k := 0) (r := 1) C fl_X9_12 sk_0 rfl dX9_state_14 ?_
    refine av_iload_n (pc := 17) (j := 1) C dX9_state_17 rfl rfl ?_
    obtain ⟨x5, S4, hc6, hs⟩ := am_b2_of hs
    refine av_eq (st2 := [am_I a1, am_R 1]) rfl rfl rfl rfl (av_callV (pc := 18) (as := [am_I a1]) (rest := []) C (ct_X3_statusOf l G a1 S1 x5 S4 hc6) ym_X3_statusOf si_X9_178 im_X3_statusOf se_X3_statusOf sk_1 rfl ⟨Nat.le_of_ble_eq_true rfl, Nat.le_of_ble_eq_true rfl⟩ rfl rfl (Nat.le_of_ble_eq_true rfl) dX9_state_18 ⟨Nat.le_refl _, Nat.le_refl _⟩ (fun hrv => av_eq (st2 := [am_I x5]) rfl rfl rfl rfl ?_))
    refine av_if_ne (pc := 21) (tgt := 28) C dX9_state_21 (by decide) (fun hc => ?_) (fun hc => ?_)
    · rw [if_neg hc] at hs
      refine av_iconst (pc := 28) C dX9_state_28 rfl ?_
      exact wk_X9_state_29 C hr hlocks a1 a2 0 S4 x SZ hs
    · rw [if_pos (Decidable.not_not.mp hc)] at hs
      refine av_iconst (pc := 24) C dX9_state_24 rfl ?_
      refine av_goto (pc := 25) (tgt := 29) C dX9_state_25 (by decide) ?_
      exact wk_X9_state_29 C hr hlocks a1 a2 1 S4 x SZ hs
  · rw [if_pos (Decidable.not_not.mp hc)] at hs
    refine av_iconst (pc := 11) C dX9_state_11 rfl ?_
    obtain ⟨rfl, rfl⟩ := am_inj2 hs
    exact av_iret C hr hlocks dX9_state_12
set_option maxHeartbeats 4000000 in
set_option maxRecDepth 100000 in
theorem ct_X9_noted (l : Launch) (G : am_G) (a1 : Int) (a2 : Int) (S : am_S) (x : Int) (SZ : am_S) (hs : sf_X9_noted a1 a2 S = some (x, SZ)) : am_met l yX9_noted cX9_noted 3 (some .long) 2 42 G [am_R 0, am_I a1, am_I a2] S (some (am_J x)) SZ := by
  refine am_enter ym_X9_noted (Nat.le_of_ble_eq_true rfl) ?_
  intro p e s m args below meth c C hr hlocks
  refine av_eq (lv2 := [(0, am_R 0), (1, am_I a1), (2, am_I a2)]) rfl rfl rfl rfl ?_
  unfold sf_X9_noted at hs
  refine av_iload_n (pc := 0) (j := 1) C dX9_noted_0 rfl rfl ?_
  refine av_aload_n (pc := 1) (j := 0) C dX9_noted_1 rfl rfl ?_
  refine av_getR (pc := 2) (k := 4) (r := 5) C fl_X9_40 sk_0 rfl dX9_noted_2 ?_
  obtain ⟨x2, S1, hc3, hs⟩ := am_b2_of hs
  refine av_eq (st2 := [am_R 5, am_I a1]) rfl rfl rfl rfl (av_callV (pc := 5) (as := []) (rest := [am_I a1]) C (ct_X2_kept l G  S x2 S1 hc3) ym_X2_kept si_X9_206 im_X2_kept se_X2_kept sk_5 rfl ⟨Nat.le_of_ble_eq_true rfl, Nat.le_of_ble_eq_true rfl⟩ rfl rfl (Nat.le_of_ble_eq_true rfl) dX9_noted_5 ⟨Nat.le_refl _, Nat.le_refl _⟩ (fun hrv => av_eq (st2 := [am_I x2, am_I a1]) rfl rfl rfl rfl ?_))
  obtain ⟨x5, S4, hc6, hs⟩ := am_b2_of hs
  refine av_eq (st2 := [am_I x2, am_I a1]) rfl rfl rfl rfl (av_callS (pc := 8) (as := [am_I a1, am_I x2]) (rest := []) C (ct_X9_isWithin l G a1 x2 S1 x5 S4 hc6) ym_X9_isWithin si_X9_99 st_X9_isWithin ⟨Nat.le_of_ble_eq_true rfl, Nat.le_of_ble_eq_true rfl⟩ rfl rfl (Nat.le_of_ble_eq_true rfl) dX9_noted_8 ⟨Nat.le_refl _, Nat.le_refl _⟩ (fun hrv => av_eq (st2 := [am_I x5]) rfl rfl rfl rfl ?_))
  refine av_if_ne (pc := 11) (tgt := 18) C dX9_noted_11 (by decide) (fun hc => ?_) (fun hc => ?_)
  · rw [if_neg hc] at hs
    refine av_iload_n (pc := 18) (j := 2) C dX9_noted_18 rfl rfl ?_
    have hdef7 : (hs : (some (1099511627776, S4)) = some (x, SZ)) → am_V p l e (am_rm 2 42) s m args below meth c (MQ below (am_Q G (some (am_J x)) SZ) args s 0 0 (am_A G)) G (am_A G) s.heap 3 0 0 80 [(0, am_R 0), (1, am_I a1), (2, am_I a2)] [] S4 := by
      intro hs
      refine av_ldc2 (pc := 80) C co_X9_209 (by unfold am_r64; omega) dX9_noted_80 ?_
      obtain ⟨rfl, rfl⟩ := am_inj2 hs
      exact av_lret C hr hlocks dX9_noted_83
    by_cases hk0 : a2 = 0
    · rw [if_pos hk0] at hs
      refine av_swi (pc := 19) (k := 0) (tgt := 44) C dX9_noted_19 (by rw [hk0]; rfl) (by decide) rfl (by decide) ?_
      refine av_aload_n (pc := 44) (j := 0) C dX9_noted_44 rfl rfl ?_
      refine av_getR (pc := 45) (k := 4) (r := 5) C fl_X9_40 sk_0 rfl dX9_noted_45 ?_
      refine av_iload_n (pc := 48) (j := 1) C dX9_noted_48 rfl rfl ?_
      obtain ⟨x9, S8, hc10, hs⟩ := am_b2_of hs
      refine av_eq (st2 := [am_I a1, am_R 5]) rfl rfl rfl rfl (av_callV (pc := 49) (as := [am_I a1]) (rest := []) C (ct_X2_valueOf l G a1 S4 x9 S8 hc10) ym_X2_valueOf si_X9_211 im_X2_valueOf se_X2_valueOf sk_5 rfl ⟨Nat.le_of_ble_eq_true rfl, Nat.le_of_ble_eq_true rfl⟩ rfl rfl (Nat.le_of_ble_eq_true rfl) dX9_noted_49 ⟨Nat.le_refl _, Nat.le_refl _⟩ (fun hrv => av_eq (st2 := [am_J x9]) rfl rfl rfl rfl ?_))
      obtain ⟨x12, S11, hc13, hs⟩ := am_b2_of hs
      refine av_eq (st2 := [am_J x9]) rfl rfl rfl rfl (av_callS (pc := 52) (as := [am_J x9]) (rest := []) C (ct_X8_numberOf l G x9 S8 x12 S11 hc13) ym_X8_numberOf si_X9_188 st_X8_numberOf ⟨Nat.le_of_ble_eq_true rfl, Nat.le_of_ble_eq_true rfl⟩ rfl rfl (Nat.le_of_ble_eq_true rfl) dX9_noted_52 ⟨Nat.le_refl _, Nat.le_refl _⟩ (fun hrv => av_eq (st2 := [am_I x12]) rfl rfl rfl rfl ?_))
      refine av_i2l (pc := 55) C dX9_noted_55 ?_
      obtain ⟨rfl, rfl⟩ := am_inj2 hs
      exact av_lret C hr hlocks dX9_noted_56
    · rw [if_neg hk0] at hs
      by_cases hk1 : a2 = 1
      · rw [if_pos hk1] at hs
        refine av_swi (pc := 19) (k := 1) (tgt := 57) C dX9_noted_19 (by rw [hk1]; rfl) (by decide) rfl (by decide) ?_
        refine av_aload_n (pc := 57) (j := 0) C dX9_noted_57 rfl rfl ?_
        refine av_getR (pc := 58) (k := 4) (r := 5) C fl_X9_40 sk_0 rfl dX9_noted_58 ?_
        refine av_iload_n (pc := 61) (j := 1) C dX9_noted_61 rfl rfl ?_
        obtain ⟨x15, S14, hc16, hs⟩ := am_b2_of hs
        refine av_eq (st2 := [am_I a1, am_R 5]) rfl rfl rfl rfl (av_callV (pc := 62) (as := [am_I a1]) (rest := []) C (ct_X2_valueOf l G a1 S4 x15 S14 hc16) ym_X2_valueOf si_X9_211 im_X2_valueOf se_X2_valueOf sk_5 rfl ⟨Nat.le_of_ble_eq_true rfl, Nat.le_of_ble_eq_true rfl⟩ rfl rfl (Nat.le_of_ble_eq_true rfl) dX9_noted_62 ⟨Nat.le_refl _, Nat.le_refl _⟩ (fun hrv => av_eq (st2 := [am_J x15]) rfl rfl rfl rfl ?_))
        obtain ⟨x18, S17, hc19, hs⟩ := am_b2_of hs
        refine av_eq (st2 := [am_J x15]) rfl rfl rfl rfl (av_callS (pc := 65) (as := [am_J x15]) (rest := []) C (ct_X8_sortOf l G x15 S14 x18 S17 hc19) ym_X8_sortOf si_X9_185 st_X8_sortOf ⟨Nat.le_of_ble_eq_true rfl, Nat.le_of_ble_eq_true rfl⟩ rfl rfl (Nat.le_of_ble_eq_true rfl) dX9_noted_65 ⟨Nat.le_refl _, Nat.le_refl _⟩ (fun hrv => av_eq (st2 := [am_I x18]) rfl rfl rfl rfl ?_))
        refine av_i2l (pc := 68) C dX9_noted_68 ?_
        obtain ⟨rfl, rfl⟩ := am_inj2 hs
        exact av_lret C hr hlocks dX9_noted_69
      · rw [if_neg hk1] at hs
        by_cases hk2 : a2 = 2
        · rw [if_pos hk2] at hs
          refine av_swi (pc := 19) (k := 2) (tgt := 70) C dX9_noted_19 (by rw [hk2]; rfl) (by decide) rfl (by decide) ?_
          refine av_aload_n (pc := 70) (j := 0) C dX9_noted_70 rfl rfl ?_
          refine av_getR (pc := 71) (k := 4) (r := 5) C fl_X9_40 sk_0 rfl dX9_noted_71 ?_
          refine av_iload_n (pc := 74) (j := 1) C dX9_noted_74 rfl rfl ?_
          obtain ⟨x21, S20, hc22, hs⟩ := am_b2_of hs
          refine av_eq (st2 := [am_I a1, am_R 5]) rfl rfl rfl rfl (av_callV (pc := 75) (as := [am_I a1]) (rest := []) C (ct_X2_turnOf l G a1 S4 x21 S20 hc22) ym_X2_turnOf si_X9_212 im_X2_turnOf se_X2_turnOf sk_5 rfl ⟨Nat.le_of_ble_eq_true rfl, Nat.le_of_ble_eq_true rfl⟩ rfl rfl (Nat.le_of_ble_eq_true rfl) dX9_noted_75 ⟨Nat.le_refl _, Nat.le_refl _⟩ (fun hrv => av_eq (st2 := [am_I x21]) rfl rfl rfl rfl ?_))
          refine av_i2l (pc := 78) C dX9_noted_78 ?_
          obtain ⟨rfl, rfl⟩ := am_inj2 hs
          exact av_lret C hr hlocks dX9_noted_79
        · rw [if_neg hk2] at hs
          refine av_swo (pc := 19) (tgt := 80) C dX9_noted_19 (by omega) (by decide) ?_
          exact hdef7 hs
  · rw [if_pos (Decidable.not_not.mp hc)] at hs
    refine av_ldc2 (pc := 14) C co_X9_209 (by unfold am_r64; omega) dX9_noted_14 ?_
    obtain ⟨rfl, rfl⟩ := am_inj2 hs
    exact av_lret C hr hlocks dX9_noted_17
set_option maxHeartbeats 4000000 in
set_option maxRecDepth 100000 in
theorem ct_X9_count (l : Launch) (G : am_G) (a1 : Int) (S : am_S) (x : Int) (SZ : am_S) (hs : sf_X9_count a1 S = some (x, SZ)) : am_met l yX9_count cX9_count 2 (some .int) 3 64 G [am_R 0, am_I a1] S (some (am_I x)) SZ := by
  refine am_enter ym_X9_count (Nat.le_of_ble_eq_true rfl) ?_
  intro p e s m args below meth c C hr hlocks
  refine av_eq (lv2 := [(0, am_R 0), (1, am_I a1)]) rfl rfl rfl rfl ?_
  unfold sf_X9_count at hs
  refine av_iload_n (pc := 0) (j := 1) C dX9_count_0 rfl rfl ?_
  have hdef1 : (hs : (some ((-1), S)) = some (x, SZ)) → am_V p l e (am_rm 3 64) s m args below meth c (MQ below (am_Q G (some (am_I x)) SZ) args s 0 0 (am_A G)) G (am_A G) s.heap 2 0 0 112 [(0, am_R 0), (1, am_I a1)] [] S := by
    intro hs
    refine av_iconst (pc := 112) C dX9_count_112 rfl ?_
    obtain ⟨rfl, rfl⟩ := am_inj2 hs
    exact av_iret C hr hlocks dX9_count_113
  by_cases hk0 : a1 = 0
  · rw [if_pos hk0] at hs
    refine av_swi (pc := 1) (k := 0) (tgt := 48) C dX9_count_1 (by rw [hk0]; rfl) (by decide) rfl (by decide) ?_
    refine av_aload_n (pc := 48) (j := 0) C dX9_count_48 rfl rfl ?_
    refine av_getR (pc := 49) (k := 0) (r := 1) C fl_X9_12 sk_0 rfl dX9_count_49 ?_
    obtain ⟨x3, S2, hc4, hs⟩ := am_b2_of hs
    refine av_eq (st2 := [am_R 1]) rfl rfl rfl rfl (av_callV (pc := 52) (as := []) (rest := []) C (ct_X3_made l G  S x3 S2 hc4) ym_X3_made si_X9_167 im_X3_made se_X3_made sk_1 rfl ⟨Nat.le_of_ble_eq_true rfl, Nat.le_of_ble_eq_true rfl⟩ rfl rfl (Nat.le_of_ble_eq_true rfl) dX9_count_52 ⟨Nat.le_refl _, Nat.le_refl _⟩ (fun hrv => av_eq (st2 := [am_I x3]) rfl rfl rfl rfl ?_))
    obtain ⟨rfl, rfl⟩ := am_inj2 hs
    exact av_iret C hr hlocks dX9_count_55
  · rw [if_neg hk0] at hs
    by_cases hk1 : a1 = 1
    · rw [if_pos hk1] at hs
      refine av_swi (pc := 1) (k := 1) (tgt := 56) C dX9_count_1 (by rw [hk1]; rfl) (by decide) rfl (by decide) ?_
      refine av_aload_n (pc := 56) (j := 0) C dX9_count_56 rfl rfl ?_
      refine av_getR (pc := 57) (k := 0) (r := 1) C fl_X9_12 sk_0 rfl dX9_count_57 ?_
      obtain ⟨x6, S5, hc7, hs⟩ := am_b2_of hs
      refine av_eq (st2 := [am_R 1]) rfl rfl rfl rfl (av_callV (pc := 60) (as := []) (rest := []) C (ct_X3_jobs l G  S x6 S5 hc7) ym_X3_jobs si_X9_145 im_X3_jobs se_X3_jobs sk_1 rfl ⟨Nat.le_of_ble_eq_true rfl, Nat.le_of_ble_eq_true rfl⟩ rfl rfl (Nat.le_of_ble_eq_true rfl) dX9_count_60 ⟨Nat.le_refl _, Nat.le_refl _⟩ (fun hrv => av_eq (st2 := [am_I x6]) rfl rfl rfl rfl ?_))
      obtain ⟨rfl, rfl⟩ := am_inj2 hs
      exact av_iret C hr hlocks dX9_count_63
    · rw [if_neg hk1] at hs
      by_cases hk2 : a1 = 2
      · rw [if_pos hk2] at hs
        refine av_swi (pc := 1) (k := 2) (tgt := 64) C dX9_count_1 (by rw [hk2]; rfl) (by decide) rfl (by decide) ?_
        refine av_aload_n (pc := 64) (j := 0) C dX9_count_64 rfl rfl ?_
        refine av_getR (pc := 65) (k := 4) (r := 5) C fl_X9_40 sk_0 rfl dX9_count_65 ?_
        obtain ⟨x9, S8, hc10, hs⟩ := am_b2_of hs
        refine av_eq (st2 := [am_R 5]) rfl rfl rfl rfl (av_callV (pc := 68) (as := []) (rest := []) C (ct_X2_turns l G  S x9 S8 hc10) ym_X2_turns si_X9_215 im_X2_turns se_X2_turns sk_5 rfl ⟨Nat.le_of_ble_eq_true rfl, Nat.le_of_ble_eq_true rfl⟩ rfl rfl (Nat.le_of_ble_eq_true rfl) dX9_count_68 ⟨Nat.le_refl _, Nat.le_refl _⟩ (fun hrv => av_eq (st2 := [am_I x9]) rfl rfl rfl rfl ?_))
        obtain ⟨rfl, rfl⟩ := am_inj2 hs
        exact av_iret C hr hlocks dX9_count_71
      · rw [if_neg hk2] at hs
        by_cases hk3 : a1 = 3
        · rw [if_pos hk3] at hs
          refine av_swi (pc := 1) (k := 3) (tgt := 72) C dX9_count_1 (by rw [hk3]; rfl) (by decide) rfl (by decide) ?_
          refine av_aload_n (pc := 72) (j := 0) C dX9_count_72 rfl rfl ?_
          refine av_getR (pc := 73) (k := 3) (r := 4) C fl_X9_33 sk_0 rfl dX9_count_73 ?_
          obtain ⟨x12, S11, hc13, hs⟩ := am_b2_of hs
          refine av_eq (st2 := [am_R 4]) rfl rfl rfl rfl (av_callV (pc := 76) (as := []) (rest := []) C (ct_X6_size l G  S x12 S11 hc13) ym_X6_size si_X9_148 im_X6_size se_X6_size sk_4 rfl ⟨Nat.le_of_ble_eq_true rfl, Nat.le_of_ble_eq_true rfl⟩ rfl rfl (Nat.le_of_ble_eq_true rfl) dX9_count_76 ⟨Nat.le_refl _, Nat.le_refl _⟩ (fun hrv => av_eq (st2 := [am_I x12]) rfl rfl rfl rfl ?_))
          obtain ⟨rfl, rfl⟩ := am_inj2 hs
          exact av_iret C hr hlocks dX9_count_79
        · rw [if_neg hk3] at hs
          by_cases hk4 : a1 = 4
          · rw [if_pos hk4] at hs
            refine av_swi (pc := 1) (k := 4) (tgt := 80) C dX9_count_1 (by rw [hk4]; rfl) (by decide) rfl (by decide) ?_
            refine av_aload_n (pc := 80) (j := 0) C dX9_count_80 rfl rfl ?_
            refine av_getR (pc := 81) (k := 3) (r := 4) C fl_X9_33 sk_0 rfl dX9_count_81 ?_
            obtain ⟨x15, S14, hc16, hs⟩ := am_b2_of hs
            refine av_eq (st2 := [am_R 4]) rfl rfl rfl rfl (av_callV (pc := 84) (as := []) (rest := []) C (ct_X6_time l G  S x15 S14 hc16) ym_X6_time si_X9_218 im_X6_time se_X6_time sk_4 rfl ⟨Nat.le_of_ble_eq_true rfl, Nat.le_of_ble_eq_true rfl⟩ rfl rfl (Nat.le_of_ble_eq_true rfl) dX9_count_84 ⟨Nat.le_refl _, Nat.le_refl _⟩ (fun hrv => av_eq (st2 := [am_I x15]) rfl rfl rfl rfl ?_))
            obtain ⟨rfl, rfl⟩ := am_inj2 hs
            exact av_iret C hr hlocks dX9_count_87
          · rw [if_neg hk4] at hs
            by_cases hk5 : a1 = 5
            · rw [if_pos hk5] at hs
              refine av_swi (pc := 1) (k := 5) (tgt := 88) C dX9_count_1 (by rw [hk5]; rfl) (by decide) rfl (by decide) ?_
              refine av_aload_n (pc := 88) (j := 0) C dX9_count_88 rfl rfl ?_
              refine av_getR (pc := 89) (k := 4) (r := 5) C fl_X9_40 sk_0 rfl dX9_count_89 ?_
              obtain ⟨x18, S17, hc19, hs⟩ := am_b2_of hs
              refine av_eq (st2 := [am_R 5]) rfl rfl rfl rfl (av_callV (pc := 92) (as := []) (rest := []) C (ct_X2_total l G  S x18 S17 hc19) ym_X2_total si_X9_221 im_X2_total se_X2_total sk_5 rfl ⟨Nat.le_of_ble_eq_true rfl, Nat.le_of_ble_eq_true rfl⟩ rfl rfl (Nat.le_of_ble_eq_true rfl) dX9_count_92 ⟨Nat.le_refl _, Nat.le_refl _⟩ (fun hrv => av_eq (st2 := [am_I x18]) rfl rfl rfl rfl ?_))
              obtain ⟨rfl, rfl⟩ := am_inj2 hs
              exact av_iret C hr hlocks dX9_count_95
            · rw [if_neg hk5] at hs
              by_cases hk6 : a1 = 6
              · rw [if_pos hk6] at hs
                refine av_swi (pc := 1) (k := 6) (tgt := 96) C dX9_count_1 (by rw [hk6]; rfl) (by decide) rfl (by decide) ?_
                refine av_aload_n (pc := 96) (j := 0) C dX9_count_96 rfl rfl ?_
                refine av_getR (pc := 97) (k := 0) (r := 1) C fl_X9_12 sk_0 rfl dX9_count_97 ?_
                obtain ⟨x21, S20, hc22, hs⟩ := am_b2_of hs
                refine av_eq (st2 := [am_R 1]) rfl rfl rfl rfl (av_callV (pc := 100) (as := []) (rest := []) C (ct_X3_loose l G  S x21 S20 hc22) ym_X3_loose si_X9_224 im_X3_loose se_X3_loose sk_1 rfl ⟨Nat.le_of_ble_eq_true rfl, Nat.le_of_ble_eq_true rfl⟩ rfl rfl (Nat.le_of_ble_eq_true rfl) dX9_count_100 ⟨Nat.le_refl _, Nat.le_refl _⟩ (fun hrv => av_eq (st2 := [am_I x21]) rfl rfl rfl rfl ?_))
                obtain ⟨rfl, rfl⟩ := am_inj2 hs
                exact av_iret C hr hlocks dX9_count_103
              · rw [if_neg hk6] at hs
                by_cases hk7 : a1 = 7
                · rw [if_pos hk7] at hs
                  refine av_swi (pc := 1) (k := 7) (tgt := 104) C dX9_count_1 (by rw [hk7]; rfl) (by decide) rfl (by decide) ?_
                  refine av_aload_n (pc := 104) (j := 0) C dX9_count_104 rfl rfl ?_
                  refine av_getR (pc := 105) (k := 5) (r := 6) C fl_X9_49 sk_0 rfl dX9_count_105 ?_
                  obtain ⟨x24, S23, hc25, hs⟩ := am_b2_of hs
                  refine av_eq (st2 := [am_R 6]) rfl rfl rfl rfl (av_callV (pc := 108) (as := []) (rest := []) C (ct_X1_items l G  S x24 S23 hc25) ym_X1_items si_X9_227 im_X1_items se_X1_items sk_6 rfl ⟨Nat.le_of_ble_eq_true rfl, Nat.le_of_ble_eq_true rfl⟩ rfl rfl (Nat.le_of_ble_eq_true rfl) dX9_count_108 ⟨Nat.le_refl _, Nat.le_refl _⟩ (fun hrv => av_eq (st2 := [am_I x24]) rfl rfl rfl rfl ?_))
                  obtain ⟨rfl, rfl⟩ := am_inj2 hs
                  exact av_iret C hr hlocks dX9_count_111
                · rw [if_neg hk7] at hs
                  refine av_swo (pc := 1) (tgt := 112) C dX9_count_1 (by omega) (by decide) ?_
                  exact hdef1 hs
