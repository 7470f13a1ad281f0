set_option maxHeartbeats 4000000 in
set_option maxRecDepth 100000 in
theorem ct_X9_isWithin (l : Launch) (G : am_G) (a1 : Int) (a2 : Int) (S : am_S) (x : Int) (SZ : am_S) (hs : sf_X9_isWithin a1 a2 S = some (x, SZ)) : am_met l yX9_isWithin cX9_isWithin 2 (some .boolean) 0 0 G [am_I a1, am_I a2] S (some (am_I x)) SZ := by
  refine am_enter ym_X9_isWithin (Nat.le_of_ble_eq_true rfl) ?_
  intro p e s m args below meth c C hr hlocks
  refine av_eq (lv2 := [(0, am_I a1), (1, am_I a2)]) rfl rfl rfl rfl ?_
  unfold sf_X9_isWithin at hs
  refine av_iload_n (pc := 0) (j := 0) C dX9_isWithin_0 rfl rfl ?_
  refine av_if_lt (pc := 1) (tgt := 13) C dX9_isWithin_1 (by decide) (fun hc => ?_) (fun hc => ?_)
  · rw [if_pos hc] at hs
    refine av_iconst (pc := 13) C dX9_isWithin_13 rfl ?_
    obtain ⟨rfl, rfl⟩ := am_inj2 hs
    exact av_zret C (by decide) hr hlocks dX9_isWithin_14
  · rw [if_neg hc] at hs
    refine av_iload_n (pc := 4) (j := 0) C dX9_isWithin_4 rfl rfl ?_
    refine av_iload_n (pc := 5) (j := 1) C dX9_isWithin_5 rfl rfl ?_
    refine av_icmp_ge (pc := 6) (tgt := 13) C dX9_isWithin_6 (by decide) (fun hc => ?_) (fun hc => ?_)
    · rw [if_pos hc] at hs
      refine av_iconst (pc := 13) C dX9_isWithin_13 rfl ?_
      obtain ⟨rfl, rfl⟩ := am_inj2 hs
      exact av_zret C (by decide) hr hlocks dX9_isWithin_14
    · rw [if_neg hc] at hs
      refine av_iconst (pc := 9) C dX9_isWithin_9 rfl ?_
      refine av_goto (pc := 10) (tgt := 14) C dX9_isWithin_10 (by decide) ?_
      obtain ⟨rfl, rfl⟩ := am_inj2 hs
      exact av_zret C (by decide) hr hlocks dX9_isWithin_14
set_option maxHeartbeats 4000000 in
set_option maxRecDepth 100000 in
theorem ct_X8_exists (l : Launch) (G : am_G) (a1 : Int) (a2 : Int) (a3 : Int) (S : am_S) (x : Int) (SZ : am_S) (hs : sf_X8_exists a1 a2 a3 S = some (x, SZ)) : am_met l yX8_exists cX8_exists 3 (some .boolean) 1 21 G [am_I a1, am_I a2, am_I a3] S (some (am_I x)) SZ := by
  refine am_enter ym_X8_exists (Nat.le_of_ble_eq_true rfl) ?_
  intro p e s m args below meth c C hr hlocks
  refine av_eq (lv2 := [(0, am_I a1), (1, am_I a2), (2, am_I a3)]) rfl rfl rfl rfl ?_
  unfold sf_X8_exists at hs
  refine av_iload_n (pc := 0) (j := 0) C dX8_exists_0 rfl rfl ?_
  have hdef1 : (hs : (some (0, S)) = some (x, SZ)) → am_V p l e (am_rm 1 21) s m args below meth c (MQ below (am_Q G (some (am_I x)) SZ) args s 0 0 (am_A G)) G (am_A G) s.heap 3 0 0 42 [(0, am_I a1), (1, am_I a2), (2, am_I a3)] [] S := by
    intro hs
    refine av_iconst (pc := 42) C dX8_exists_42 rfl ?_
    obtain ⟨rfl, rfl⟩ := am_inj2 hs
    exact av_zret C (by decide) hr hlocks dX8_exists_43
  by_cases hk0 : a1 = 0
  · rw [if_pos hk0] at hs
    refine av_swi (pc := 1) (k := 0) (tgt := 28) C dX8_exists_1 (by rw [hk0]; rfl) (by decide) rfl (by decide) ?_
    refine av_iconst (pc := 28) C dX8_exists_28 rfl ?_
    obtain ⟨rfl, rfl⟩ := am_inj2 hs
    exact av_zret C (by decide) hr hlocks dX8_exists_29
  · rw [if_neg hk0] at hs
    by_cases hk1 : a1 = 1
    · rw [if_pos hk1] at hs
      refine av_swi (pc := 1) (k := 1) (tgt := 30) C dX8_exists_1 (by rw [hk1]; rfl) (by decide) rfl (by decide) ?_
      refine av_iload_n (pc := 30) (j := 1) C dX8_exists_30 rfl rfl ?_
      refine av_iload_n (pc := 31) (j := 2) C dX8_exists_31 rfl rfl ?_
      obtain ⟨x3, S2, hc4, hs⟩ := am_b2_of hs
      refine av_eq (st2 := [am_I a3, am_I a2]) rfl rfl rfl rfl (av_callSN (pc := 32) (as := [am_I a2, am_I a3]) (rest := []) C (ct_X9_isWithin l G a2 a3 S x3 S2 hc4) ym_X9_isWithin si_X8_11 st_X9_isWithin ⟨Nat.le_of_ble_eq_true rfl, Nat.le_of_ble_eq_true rfl⟩ rfl rfl (Nat.le_of_ble_eq_true rfl) dX8_exists_32 ⟨Nat.le_refl _, Nat.le_refl _⟩ (fun hrv => av_eq (st2 := [am_I x3]) rfl rfl rfl rfl ?_))
      obtain ⟨hz, hs⟩ := am_gz_of hs
      obtain ⟨rfl, rfl⟩ := am_inj2 hs
      exact av_zret C hz hr hlocks dX8_exists_35
    · rw [if_neg hk1] at hs
      by_cases hk2 : a1 = 2
      · rw [if_pos hk2] at hs
        refine av_swi (pc := 1) (k := 2) (tgt := 36) C dX8_exists_1 (by rw [hk2]; rfl) (by decide) rfl (by decide) ?_
        refine av_iload_n (pc := 36) (j := 1) C dX8_exists_36 rfl rfl ?_
        refine av_iconst (pc := 37) C dX8_exists_37 rfl ?_
        obtain ⟨x6, S5, hc7, hs⟩ := am_b2_of hs
        refine av_eq (st2 := [am_I 4, am_I a2]) rfl rfl rfl rfl (av_callSN (pc := 38) (as := [am_I a2, am_I 4]) (rest := []) C (ct_X9_isWithin l G a2 4 S x6 S5 hc7) ym_X9_isWithin si_X8_11 st_X9_isWithin ⟨Nat.le_of_ble_eq_true rfl, Nat.le_of_ble_eq_true rfl⟩ rfl rfl (Nat.le_of_ble_eq_true rfl) dX8_exists_38 ⟨Nat.le_refl _, Nat.le_refl _⟩ (fun hrv => av_eq (st2 := [am_I x6]) rfl rfl rfl rfl ?_))
        obtain ⟨hz, hs⟩ := am_gz_of hs
        obtain ⟨rfl, rfl⟩ := am_inj2 hs
        exact av_zret C hz hr hlocks dX8_exists_41
      · rw [if_neg hk2] at hs
        refine av_swo (pc := 1) (tgt := 42) C dX8_exists_1 (by omega) (by decide) ?_
        exact hdef1 hs
set_option maxHeartbeats 4000000 in
set_option maxRecDepth 100000 in
theorem ct_X9_isFunction (l : Launch) (G : am_G) (a1 : Int) (S : am_S) (x : Int) (SZ : am_S) (hs : sf_X9_isFunction a1 S = some (x, SZ)) : am_met l yX9_isFunction cX9_isFunction 1 (some .boolean) 1 21 G [am_I a1] S (some (am_I x)) SZ := by
  refine am_enter ym_X9_isFunction (Nat.le_of_ble_eq_true rfl) ?_
  intro p e s m args below meth c C hr hlocks
  refine av_eq (lv2 := [(0, am_I a1)]) rfl rfl rfl rfl ?_
  unfold sf_X9_isFunction at hs
  refine av_iload_n (pc := 0) (j := 0) C dX9_isFunction_0 rfl rfl ?_
  refine av_bipush (pc := 1) C dX9_isFunction_1 rfl ?_
  obtain ⟨x2, S1, hc3, hs⟩ := am_b2_of hs
  refine av_eq (st2 := [am_I 10, am_I a1]) rfl rfl rfl rfl (av_callS (pc := 3) (as := [am_I a1, am_I 10]) (rest := []) C (ct_X9_isWithin l G a1 10 S x2 S1 hc3) ym_X9_isWithin si_X9_99 st_X9_isWithin ⟨Nat.le_of_ble_eq_true rfl, Nat.le_of_ble_eq_true rfl⟩ rfl rfl (Nat.le_of_ble_eq_true rfl) dX9_isFunction_3 ⟨Nat.le_refl _, Nat.le_refl _⟩ (fun hrv => av_eq (st2 := [am_I x2]) rfl rfl rfl rfl ?_))
  obtain ⟨hz, hs⟩ := am_gz_of hs
  obtain ⟨rfl, rfl⟩ := am_inj2 hs
  exact av_zret C hz hr hlocks dX9_isFunction_6
set_option maxHeartbeats 4000000 in
set_option maxRecDepth 100000 in
theorem ct_X0_mayBeStep (l : Launch) (G : am_G) (a1 : Int) (a2 : Int) (a3 : Int) (S : am_S) (x : Int) (SZ : am_S) (hs : sf_X0_mayBeStep a1 a2 a3 S = some (x, SZ)) : am_met l yX0_mayBeStep cX0_mayBeStep 3 (some .boolean) 2 43 G [am_I a1, am_I a2, am_I a3] S (some (am_I x)) SZ := by
  refine am_enter ym_X0_mayBeStep (Nat.le_of_ble_eq_true rfl) ?_
  intro p e s m args below meth c C hr hlocks
  refine av_eq (lv2 := [(0, am_I a1), (1, am_I a2), (2, am_I a3)]) rfl rfl rfl rfl ?_
  unfold sf_X0_mayBeStep at hs
  refine av_iload_n (pc := 0) (j := 0) C dX0_mayBeStep_0 rfl rfl ?_
  have hdef1 : (hs : (am_b2 (sf_X9_isWithin a1 15 S) (fun x3 S2 => (am_gz x3 (some (x3, S2))))) = some (x, SZ)) → am_V p l e (am_rm 2 43) s m args below meth c (MQ below (am_Q G (some (am_I x)) SZ) args s 0 0 (am_A G)) G (am_A G) s.heap 3 0 0 95 [(0, am_I a1), (1, am_I a2), (2, am_I a3)] [] S := by
    intro hs
    refine av_iload_n (pc := 95) (j := 0) C dX0_mayBeStep_95 rfl rfl ?_
    refine av_bipush (pc := 96) C dX0_mayBeStep_96 rfl ?_
    obtain ⟨x3, S2, hc4, hs⟩ := am_b2_of hs
    refine av_eq (st2 := [am_I 15, am_I a1]) rfl rfl rfl rfl (av_callSN (pc := 98) (as := [am_I a1, am_I 15]) (rest := []) C (ct_X9_isWithin l G a1 15 S x3 S2 hc4) ym_X9_isWithin si_X0_36 st_X9_isWithin ⟨Nat.le_of_ble_eq_true rfl, Nat.le_of_ble_eq_true rfl⟩ rfl rfl (Nat.le_of_ble_eq_true rfl) dX0_mayBeStep_98 ⟨Nat.le_refl _, Nat.le_refl _⟩ (fun hrv => av_eq (st2 := [am_I x3]) rfl rfl rfl rfl ?_))
    obtain ⟨hz, hs⟩ := am_gz_of hs
    obtain ⟨rfl, rfl⟩ := am_inj2 hs
    exact av_zret C hz hr hlocks dX0_mayBeStep_101
  by_cases hk0 : a1 = 2
  · rw [if_pos hk0] at hs
    refine av_swi (pc := 1) (k := 0) (tgt := 68) C dX0_mayBeStep_1 (by rw [hk0]; rfl) (by decide) rfl (by decide) ?_
    refine av_iload_n (pc := 68) (j := 1) C dX0_mayBeStep_68 rfl rfl ?_
    refine av_iload_n (pc := 69) (j := 2) C dX0_mayBeStep_69 rfl rfl ?_
    refine av_bipush (pc := 70) C dX0_mayBeStep_70 rfl ?_
    obtain ⟨x6, S5, hc7, hs⟩ := am_b2_of hs
    refine av_eq (st2 := [am_I 100, am_I a3, am_I a2]) rfl rfl rfl rfl (av_callS (pc := 72) (as := [am_I a2, am_I a3, am_I 100]) (rest := []) C (ct_X8_exists l G a2 a3 100 S x6 S5 hc7) ym_X8_exists si_X0_26 st_X8_exists ⟨Nat.le_of_ble_eq_true rfl, Nat.le_of_ble_eq_true rfl⟩ rfl rfl (Nat.le_of_ble_eq_true rfl) dX0_mayBeStep_72 ⟨Nat.le_refl _, Nat.le_refl _⟩ (fun hrv => av_eq (st2 := [am_I x6]) rfl rfl rfl rfl ?_))
    obtain ⟨hz, hs⟩ := am_gz_of hs
    obtain ⟨rfl, rfl⟩ := am_inj2 hs
    exact av_zret C hz hr hlocks dX0_mayBeStep_75
  · rw [if_neg hk0] at hs
    by_cases hk1 : a1 = 3
    · refine av_swi (pc := 1) (k := 1) (tgt := 95) C dX0_mayBeStep_1 (by rw [hk1]; rfl) (by decide) rfl (by decide) ?_
      rw [if_neg (show ¬ a1 = 8 by omega)] at hs
      rw [if_neg (show ¬ a1 = 9 by omega)] at hs
      rw [if_neg (show ¬ a1 = 10 by omega)] at hs
      rw [if_neg (show ¬ a1 = 11 by omega)] at hs
      rw [if_neg (show ¬ a1 = 12 by omega)] at hs
      rw [if_neg (show ¬ a1 = 13 by omega)] at hs
      rw [if_neg (show ¬ a1 = 14 by omega)] at hs
      exact hdef1 hs
    · skip
      by_cases hk2 : a1 = 4
      · refine av_swi (pc := 1) (k := 2) (tgt := 95) C dX0_mayBeStep_1 (by rw [hk2]; rfl) (by decide) rfl (by decide) ?_
        rw [if_neg (show ¬ a1 = 8 by omega)] at hs
        rw [if_neg (show ¬ a1 = 9 by omega)] at hs
        rw [if_neg (show ¬ a1 = 10 by omega)] at hs
        rw [if_neg (show ¬ a1 = 11 by omega)] at hs
        rw [if_neg (show ¬ a1 = 12 by omega)] at hs
        rw [if_neg (show ¬ a1 = 13 by omega)] at hs
        rw [if_neg (show ¬ a1 = 14 by omega)] at hs
        exact hdef1 hs
      · skip
        by_cases hk3 : a1 = 5
        · refine av_swi (pc := 1) (k := 3) (tgt := 95) C dX0_mayBeStep_1 (by rw [hk3]; rfl) (by decide) rfl (by decide) ?_
          rw [if_neg (show ¬ a1 = 8 by omega)] at hs
          rw [if_neg (show ¬ a1 = 9 by omega)] at hs
          rw [if_neg (show ¬ a1 = 10 by omega)] at hs
          rw [if_neg (show ¬ a1 = 11 by omega)] at hs
          rw [if_neg (show ¬ a1 = 12 by omega)] at hs
          rw [if_neg (show ¬ a1 = 13 by omega)] at hs
          rw [if_neg (show ¬ a1 = 14 by omega)] at hs
          exact hdef1 hs
        · skip
          by_cases hk4 : a1 = 6
          · refine av_swi (pc := 1) (k := 4) (tgt := 95) C dX0_mayBeStep_1 (by rw [hk4]; rfl) (by decide) rfl (by decide) ?_
            rw [if_neg (show ¬ a1 = 8 by omega)] at hs
            rw [if_neg (show ¬ a1 = 9 by omega)] at hs
            rw [if_neg (show ¬ a1 = 10 by omega)] at hs
            rw [if_neg (show ¬ a1 = 11 by omega)] at hs
            rw [if_neg (show ¬ a1 = 12 by omega)] at hs
            rw [if_neg (show ¬ a1 = 13 by omega)] at hs
            rw [if_neg (show ¬ a1 = 14 by omega)] at hs
            exact hdef1 hs
          · skip
            by_cases hk5 : a1 = 7
            · refine av_swi (pc := 1) (k := 5) (tgt := 95) C dX0_mayBeStep_1 (by rw [hk5]; rfl) (by decide) rfl (by decide) ?_
              rw [if_neg (show ¬ a1 = 8 by omega)] at hs
              rw [if_neg (show ¬ a1 = 9 by omega)] at hs
              rw [if_neg (show ¬ a1 = 10 by omega)] at hs
              rw [if_neg (show ¬ a1 = 11 by omega)] at hs
              rw [if_neg (show ¬ a1 = 12 by omega)] at hs
              rw [if_neg (show ¬ a1 = 13 by omega)] at hs
              rw [if_neg (show ¬ a1 = 14 by omega)] at hs
              exact hdef1 hs
            · skip
              by_cases hk6 : a1 = 8
              · rw [if_pos hk6] at hs
                refine av_swi (pc := 1) (k := 6) (tgt := 76) C dX0_mayBeStep_1 (by rw [hk6]; rfl) (by decide) rfl (by decide) ?_
                refine av_iload_n (pc := 76) (j := 2) C dX0_mayBeStep_76 rfl rfl ?_
                obtain ⟨x9, S8, hc10, hs⟩ := am_b2_of hs
                refine av_eq (st2 := [am_I a3]) rfl rfl rfl rfl (av_callSN (pc := 77) (as := [am_I a3]) (rest := []) C (ct_X9_isFunction l G a3 S x9 S8 hc10) ym_X9_isFunction si_X0_32 st_X9_isFunction ⟨Nat.le_of_ble_eq_true rfl, Nat.le_of_ble_eq_true rfl⟩ rfl rfl (Nat.le_of_ble_eq_true rfl) dX0_mayBeStep_77 ⟨Nat.le_refl _, Nat.le_refl _⟩ (fun hrv => av_eq (st2 := [am_I x9]) rfl rfl rfl rfl ?_))
                obtain ⟨hz, hs⟩ := am_gz_of hs
                obtain ⟨rfl, rfl⟩ := am_inj2 hs
                exact av_zret C hz hr hlocks dX0_mayBeStep_80
              · rw [if_neg hk6] at hs
                by_cases hk7 : a1 = 9
                · rw [if_pos hk7] at hs
                  refine av_swi (pc := 1) (k := 7) (tgt := 88) C dX0_mayBeStep_1 (by rw [hk7]; rfl) (by decide) rfl (by decide) ?_
                  refine av_iload_n (pc := 88) (j := 2) C dX0_mayBeStep_88 rfl rfl ?_
                  refine av_bipush (pc := 89) C dX0_mayBeStep_89 rfl ?_
                  obtain ⟨x12, S11, hc13, hs⟩ := am_b2_of hs
                  refine av_eq (st2 := [am_I 100, am_I a3]) rfl rfl rfl rfl (av_callSN (pc := 91) (as := [am_I a3, am_I 100]) (rest := []) C (ct_X9_isWithin l G a3 100 S x12 S11 hc13) ym_X9_isWithin si_X0_36 st_X9_isWithin ⟨Nat.le_of_ble_eq_true rfl, Nat.le_of_ble_eq_true rfl⟩ rfl rfl (Nat.le_of_ble_eq_true rfl) dX0_mayBeStep_91 ⟨Nat.le_refl _, Nat.le_refl _⟩ (fun hrv => av_eq (st2 := [am_I x12]) rfl rfl rfl rfl ?_))
                  obtain ⟨hz, hs⟩ := am_gz_of hs
                  obtain ⟨rfl, rfl⟩ := am_inj2 hs
                  exact av_zret C hz hr hlocks dX0_mayBeStep_94
                · rw [if_neg hk7] at hs
                  by_cases hk8 : a1 = 10
                  · rw [if_pos hk8] at hs
                    refine av_swi (pc := 1) (k := 8) (tgt := 88) C dX0_mayBeStep_1 (by rw [hk8]; rfl) (by decide) rfl (by decide) ?_
                    refine av_iload_n (pc := 88) (j := 2) C dX0_mayBeStep_88 rfl rfl ?_
                    refine av_bipush (pc := 89) C dX0_mayBeStep_89 rfl ?_
                    obtain ⟨x15, S14, hc16, hs⟩ := am_b2_of hs
                    refine av_eq (st2 := [am_I 100, am_I a3]) rfl rfl rfl rfl (av_callSN (pc := 91) (as := [am_I a3, am_I 100]) (rest := []) C (ct_X9_isWithin l G a3 100 S x15 S14 hc16) ym_X9_isWithin si_X0_36 st_X9_isWithin ⟨Nat.le_of_ble_eq_true rfl, Nat.le_of_ble_eq_true rfl⟩ rfl rfl (Nat.le_of_ble_eq_true rfl) dX0_mayBeStep_91 ⟨Nat.le_refl _, Nat.le_refl _⟩ (fun hrv => av_eq (st2 := [am_I x15]) rfl rfl rfl rfl ?_))
                    obtain ⟨hz, hs⟩ := am_gz_of hs
                    obtain ⟨rfl, rfl⟩ := am_inj2 hs
                    exact av_zret C hz hr hlocks dX0_mayBeStep_94
                  · rw [if_neg hk8] at hs
                    by_cases hk9 : a1 = 11
                    · rw [if_pos hk9] at hs
                      refine av_swi (pc := 1) (k := 9) (tgt := 76) C dX0_mayBeStep_1 (by rw [hk9]; rfl) (by decide) rfl (by decide) ?_
                      refine av_iload_n (pc := 76) (j := 2) C dX0_mayBeStep_76 rfl rfl ?_
                      obtain ⟨x18, S17, hc19, hs⟩ := am_b2_of hs
                      refine av_eq (st2 := [am_I a3]) rfl rfl rfl rfl (av_callSN (pc := 77) (as := [am_I a3]) (rest := []) C (ct_X9_isFunction l G a3 S x18 S17 hc19) ym_X9_isFunction si_X0_32 st_X9_isFunction ⟨Nat.le_of_ble_eq_true rfl, Nat.le_of_ble_eq_true rfl⟩ rfl rfl (Nat.le_of_ble_eq_true rfl) dX0_mayBeStep_77 ⟨Nat.le_refl _, Nat.le_refl _⟩ (fun hrv => av_eq (st2 := [am_I x18]) rfl rfl rfl rfl ?_))
                      obtain ⟨hz, hs⟩ := am_gz_of hs
                      obtain ⟨rfl, rfl⟩ := am_inj2 hs
                      exact av_zret C hz hr hlocks dX0_mayBeStep_80
                    · rw [if_neg hk9] at hs
                      by_cases hk10 : a1 = 12
                      · rw [if_pos hk10] at hs
                        refine av_swi (pc := 1) (k := 10) (tgt := 76) C dX0_mayBeStep_1 (by rw [hk10]; rfl) (by decide) rfl (by decide) ?_
                        refine av_iload_n (pc := 76) (j := 2) C dX0_mayBeStep_76 rfl rfl ?_
                        obtain ⟨x21, S20, hc22, hs⟩ := am_b2_of hs
                        refine av_eq (st2 := [am_I a3]) rfl rfl rfl rfl (av_callSN (pc := 77) (as := [am_I a3]) (rest := []) C (ct_X9_isFunction l G a3 S x21 S20 hc22) ym_X9_isFunction si_X0_32 st_X9_isFunction ⟨Nat.le_of_ble_eq_true rfl, Nat.le_of_ble_eq_true rfl⟩ rfl rfl (Nat.le_of_ble_eq_true rfl) dX0_mayBeStep_77 ⟨Nat.le_refl _, Nat.le_refl _⟩ (fun hrv => av_eq (st2 := [am_I x21]) rfl rfl rfl rfl ?_))
                        obtain ⟨hz, hs⟩ := am_gz_of hs
                        obtain ⟨rfl, rfl⟩ := am_inj2 hs
                        exact av_zret C hz hr hlocks dX0_mayBeStep_80
                      · rw [if_neg hk10] at hs
                        by_cases hk11 : a1 = 13
                        · rw [if_pos hk11] at hs
                          refine av_swi (pc := 1) (k := 11) (tgt := 81) C dX0_mayBeStep_1 (by rw [hk11]; rfl) (by decide) rfl (by decide) ?_
                          refine av_iload_n (pc := 81) (j := 2) C dX0_mayBeStep_81 rfl rfl ?_
                          refine av_bipush (pc := 82) C dX0_mayBeStep_82 rfl ?_
                          obtain ⟨x24, S23, hc25, hs⟩ := am_b2_of hs
                          refine av_eq (st2 := [am_I 11, am_I a3]) rfl rfl rfl rfl (av_callSN (pc := 84) (as := [am_I a3, am_I 11]) (rest := []) C (ct_X9_isWithin l G a3 11 S x24 S23 hc25) ym_X9_isWithin si_X0_36 st_X9_isWithin ⟨Nat.le_of_ble_eq_true rfl, Nat.le_of_ble_eq_true rfl⟩ rfl rfl (Nat.le_of_ble_eq_true rfl) dX0_mayBeStep_84 ⟨Nat.le_refl _, Nat.le_refl _⟩ (fun hrv => av_eq (st2 := [am_I x24]) rfl rfl rfl rfl ?_))
                          obtain ⟨hz, hs⟩ := am_gz_of hs
                          obtain ⟨rfl, rfl⟩ := am_inj2 hs
                          exact av_zret C hz hr hlocks dX0_mayBeStep_87
                        · rw [if_neg hk11] at hs
                          by_cases hk12 : a1 = 14
                          · rw [if_pos hk12] at hs
                            refine av_swi (pc := 1) (k := 12) (tgt := 81) C dX0_mayBeStep_1 (by rw [hk12]; rfl) (by decide) rfl (by decide) ?_
                            refine av_iload_n (pc := 81) (j := 2) C dX0_mayBeStep_81 rfl rfl ?_
                            refine av_bipush (pc := 82) C dX0_mayBeStep_82 rfl ?_
                            obtain ⟨x27, S26, hc28, hs⟩ := am_b2_of hs
                            refine av_eq (st2 := [am_I 11, am_I a3]) rfl rfl rfl rfl (av_callSN (pc := 84) (as := [am_I a3, am_I 11]) (rest := []) C (ct_X9_isWithin l G a3 11 S x27 S26 hc28) ym_X9_isWithin si_X0_36 st_X9_isWithin ⟨Nat.le_of_ble_eq_true rfl, Nat.le_of_ble_eq_true rfl⟩ rfl rfl (Nat.le_of_ble_eq_true rfl) dX0_mayBeStep_84 ⟨Nat.le_refl _, Nat.le_refl _⟩ (fun hrv => av_eq (st2 := [am_I x27]) rfl rfl rfl rfl ?_))
                            obtain ⟨hz, hs⟩ := am_gz_of hs
                            obtain ⟨rfl, rfl⟩ := am_inj2 hs
                            exact av_zret C hz hr hlocks dX0_mayBeStep_87
                          · rw [if_neg hk12] at hs
                            refine av_swo (pc := 1) (tgt := 95) C dX0_mayBeStep_1 (by omega) (by decide) ?_
                            exact hdef1 hs
set_option maxHeartbeats 4000000 in
set_option maxRecDepth 100000 in
theorem ct_X4_at (l : Launch) (G : am_G) (o a n : Nat) (hk : am_sk[o]? = some (.inl (4, [some a]))) (ha : am_sk[a]? = some (.inr (2, n))) (hrn : am_rok (n : Int) = true) (a1 : Int) (S : am_S) (x : Int) (SZ : am_S) (hs : sf_X4_at a n a1 S = some (x, SZ)) : am_met l yX4_at cX4_at 2 (some .int) 0 0 G [am_R o, am_I a1] S (some (am_I x)) SZ := by
  refine am_enter ym_X4_at (Nat.le_of_ble_eq_true rfl) ?_
  intro p e s m args below meth c C hr hlocks
  refine av_eq (lv2 := [(0, am_R o), (1, am_I a1)]) rfl rfl rfl rfl ?_
  unfold sf_X4_at at hs
  refine av_iload_n (pc := 0) (j := 1) C dX4_at_0 rfl rfl ?_
  refine av_if_lt (pc := 1) (tgt := 23) C dX4_at_1 (by decide) (fun hc => ?_) (fun hc => ?_)
  · rw [if_pos hc] at hs
    refine av_iconst (pc := 23) C dX4_at_23 rfl ?_
    obtain ⟨rfl, rfl⟩ := am_inj2 hs
    exact av_iret C hr hlocks dX4_at_24
  · rw [if_neg hc] at hs
    refine av_iload_n (pc := 4) (j := 1) C dX4_at_4 rfl rfl ?_
    refine av_aload_n (pc := 5) (j := 0) C dX4_at_5 rfl rfl ?_
    refine av_getR (pc := 6) (k := 0) (r := a) (fl := [some a]) C fl_X4_7 hk rfl dX4_at_6 ?_
    refine av_alen (pc := 9) C ha (by decide) hrn dX4_at_9 ?_
    refine av_icmp_ge (pc := 10) (tgt := 23) C dX4_at_10 (by decide) (fun hc => ?_) (fun hc => ?_)
    · rw [if_pos hc] at hs
      refine av_iconst (pc := 23) C dX4_at_23 rfl ?_
      obtain ⟨rfl, rfl⟩ := am_inj2 hs
      exact av_iret C hr hlocks dX4_at_24
    · rw [if_neg hc] at hs
      refine av_aload_n (pc := 13) (j := 0) C dX4_at_13 rfl rfl ?_
      refine av_getR (pc := 14) (k := 0) (r := a) (fl := [some a]) C fl_X4_7 hk rfl dX4_at_14 ?_
      refine av_iload_n (pc := 17) (j := 1) C dX4_at_17 rfl rfl ?_
      obtain ⟨hb, hs⟩ := am_gd_of hs
      refine av_lald (pc := 18) C ha hb dX4_at_18 ?_
      refine av_l2i (pc := 19) C dX4_at_19 ?_
      refine av_goto (pc := 20) (tgt := 24) C dX4_at_20 (by decide) ?_
      obtain ⟨rfl, rfl⟩ := am_inj2 hs
      exact av_iret C hr hlocks dX4_at_24
set_option maxHeartbeats 4000000 in
set_option maxRecDepth 100000 in
theorem ct_X0_isFull (l : Launch) (G : am_G) (a1 : Int) (S : am_S) (x : Int) (SZ : am_S) (hs : sf_X0_isFull a1 S = some (x, SZ)) : am_met l yX0_isFull cX0_isFull 2 (some .boolean) 1 21 G [am_R 3, am_I a1] S (some (am_I x)) SZ := by
  refine am_enter ym_X0_isFull (Nat.le_of_ble_eq_true rfl) ?_
  intro p e s m args below meth c C hr hlocks
  refine av_eq (lv2 := [(0, am_R 3), (1, am_I a1)]) rfl rfl rfl rfl ?_
  unfold sf_X0_isFull at hs
  refine av_aload_n (pc := 0) (j := 0) C dX0_isFull_0 rfl rfl ?_
  refine av_getR (pc := 1) (k := 0) (r := 22) C fl_X0_14 sk_3 rfl dX0_isFull_1 ?_
  refine av_iload_n (pc := 4) (j := 1) C dX0_isFull_4 rfl rfl ?_
  obtain ⟨x2, S1, hc3, hs⟩ := am_b2_of hs
  refine av_eq (st2 := [am_I a1, am_R 22]) rfl rfl rfl rfl (av_callV (pc := 5) (as := [am_I a1]) (rest := []) C (ct_X4_at l G 22 55 10 sk_22 sk_55 rfl a1 S x2 S1 hc3) ym_X4_at si_X0_40 im_X4_at se_X4_at sk_22 rfl ⟨Nat.le_of_ble_eq_true rfl, Nat.le_of_ble_eq_true rfl⟩ rfl rfl (Nat.le_of_ble_eq_true rfl) dX0_isFull_5 ⟨Nat.le_refl _, Nat.le_refl _⟩ (fun hrv => av_eq (st2 := [am_I x2]) rfl rfl rfl rfl ?_))
  refine av_bipush (pc := 8) C dX0_isFull_8 rfl ?_
  refine av_icmp_lt (pc := 10) (tgt := 17) C dX0_isFull_10 (by decide) (fun hc => ?_) (fun hc => ?_)
  · rw [if_pos hc] at hs
    refine av_iconst (pc := 17) C dX0_isFull_17 rfl ?_
    obtain ⟨rfl, rfl⟩ := am_inj2 hs
    exact av_zret C (by decide) hr hlocks dX0_isFull_18
  · rw [if_neg hc] at hs
    refine av_iconst (pc := 13) C dX0_isFull_13 rfl ?_
    refine av_goto (pc := 14) (tgt := 18) C dX0_isFull_14 (by decide) ?_
    obtain ⟨rfl, rfl⟩ := am_inj2 hs
    exact av_zret C (by decide) hr hlocks dX0_isFull_18
set_option maxHeartbeats 4000000 in
set_option maxRecDepth 100000 in
theorem ct_X4_put (l : Launch) (G : am_G) (o a n : Nat) (hk : am_sk[o]? = some (.inl (4, [some a]))) (ha : am_sk[a]? = some (.inr (2, n))) (hrn : am_rok (n : Int) = true) (a1 : Int) (a2 : Int) (S : am_S) (SZ : am_S) (hs : sf_X4_put a n a1 a2 S = some SZ) : am_met l yX4_put cX4_put 4 none 0 0 G [am_R o, am_I a1, am_J a2] S none SZ := by
  refine am_enter ym_X4_put (Nat.le_of_ble_eq_true rfl) ?_
  intro p e s m args below meth c C hr hlocks
  refine av_eq (lv2 := [(0, am_R o), (1, am_I a1), (2, am_J a2)]) rfl rfl rfl rfl ?_
  unfold sf_X4_put at hs
  refine av_iload_n (pc := 0) (j := 1) C dX4_put_0 rfl rfl ?_
  refine av_if_lt (pc := 1) (tgt := 20) C dX4_put_1 (by decide) (fun hc => ?_) (fun hc => ?_)
  · rw [if_pos hc] at hs
    obtain rfl := am_inj1 hs
    exact av_vret C hr hlocks dX4_put_20
  · rw [if_neg hc] at hs
    refine av_iload_n (pc := 4) (j := 1) C dX4_put_4 rfl rfl ?_
    refine av_aload_n (pc := 5) (j := 0) C dX4_put_5 rfl rfl ?_
    refine av_getR (pc := 6) (k := 0) (r := a) (fl := [some a]) C fl_X4_7 hk rfl dX4_put_6 ?_
    refine av_alen (pc := 9) C ha (by decide) hrn dX4_put_9 ?_
    refine av_icmp_ge (pc := 10) (tgt := 20) C dX4_put_10 (by decide) (fun hc => ?_) (fun hc => ?_)
    · rw [if_pos hc] at hs
      obtain rfl := am_inj1 hs
      exact av_vret C hr hlocks dX4_put_20
    · rw [if_neg hc] at hs
      refine av_aload_n (pc := 13) (j := 0) C dX4_put_13 rfl rfl ?_
      refine av_getR (pc := 14) (k := 0) (r := a) (fl := [some a]) C fl_X4_7 hk rfl dX4_put_14 ?_
      refine av_iload_n (pc := 17) (j := 1) C dX4_put_17 rfl rfl ?_
      refine av_lload_n (pc := 18) (j := 2) C dX4_put_18 rfl rfl ?_
      obtain ⟨hb, hs⟩ := am_gd_of hs
      obtain ⟨S1, eS1, hs⟩ := am_let_of hs
      refine av_last (pc := 19) C ha hb dX4_put_19 ?_
      refine av_eq rfl rfl rfl eS1 ?_
      obtain rfl := am_inj1 hs
      exact av_vret C hr hlocks dX4_put_20
set_option maxHeartbeats 4000000 in
set_option maxRecDepth 100000 in
theorem ct_X0_add (l : Launch) (G : am_G) (a1 : Int) (a2 : Int) (a3 : Int) (S : am_S) (x : Int) (SZ : am_S) (hs : sf_X0_add a1 a2 a3 S = some (x, SZ)) : am_met l yX0_add cX0_add 6 (some .int) 1 23 G [am_R 3, am_I a1, am_I a2, am_J a3] S (some (am_I x)) SZ := by
  refine am_enter ym_X0_add (Nat.le_of_ble_eq_true rfl) ?_
  intro p e s m args below meth c C hr hlocks
  refine av_eq (lv2 := [(0, am_R 3), (1, am_I a1), (2, am_I a2), (3, am_J a3)]) rfl rfl rfl rfl ?_
  unfold sf_X0_add at hs
  refine av_aload_n (pc := 0) (j := 0) C dX0_add_0 rfl rfl ?_
  refine av_getR (pc := 1) (k := 0) (r := 22) C fl_X0_14 sk_3 rfl dX0_add_1 ?_
  refine av_iload_n (pc := 4) (j := 1) C dX0_add_4 rfl rfl ?_
  obtain ⟨x2, S1, hc3, hs⟩ := am_b2_of hs
  refine av_eq (st2 := [am_I a1, am_R 22]) rfl rfl rfl rfl (av_callV (pc := 5) (as := [am_I a1]) (rest := []) C (ct_X4_at l G 22 55 10 sk_22 sk_55 rfl a1 S x2 S1 hc3) ym_X4_at si_X0_40 im_X4_at se_X4_at sk_22 rfl ⟨Nat.le_of_ble_eq_true rfl, Nat.le_of_ble_eq_true rfl⟩ rfl rfl (Nat.le_of_ble_eq_true rfl) dX0_add_5 ⟨Nat.le_refl _, Nat.le_refl _⟩ (fun hrv => av_eq (st2 := [am_I x2]) rfl rfl rfl rfl ?_))
  refine av_istore (pc := 8) (i := 5) (lv2 := [(5, am_I x2), (0, am_R 3), (1, am_I a1), (2, am_I a2), (3, am_J a3)]) C dX0_add_8 (by decide) rfl ?_
  refine av_aload_n (pc := 10) (j := 1) C dX0_add_10 rfl rfl ?_
  refine av_getR (pc := 11) (k := 1) (r := 23) C fl_X0_20 sk_3 rfl dX0_add_11 ?_
  refine av_iload_n (pc := 14) (j := 2) C dX0_add_14 rfl rfl ?_
  refine av_bipush (pc := 15) C dX0_add_15 rfl ?_
  refine av_imul (pc := 17) C dX0_add_17 ?_
  refine av_iload (pc := 18) (j := 0) C dX0_add_18 rfl ?_
  refine av_iadd (pc := 20) C dX0_add_20 ?_
  refine av_iload_n (pc := 21) (j := 3) C dX0_add_21 rfl rfl ?_
  refine av_i2l (pc := 22) C dX0_add_22 ?_
  obtain ⟨S4, hc5, hs⟩ := am_b1_of hs
  refine av_eq (st2 := [am_J a2, am_I (am_w32 ((am_w32 (a1 * 10)) + x2)), am_R 23]) rfl rfl rfl rfl (av_callV (pc := 23) (as := [am_I (am_w32 ((am_w32 (a1 * 10)) + x2)), am_J a2]) (rest := []) C (ct_X4_put l G 23 56 100 sk_23 sk_56 rfl (am_w32 ((am_w32 (a1 * 10)) + x2)) a2 S1 S4 hc5) ym_X4_put si_X0_44 im_X4_put se_X4_put sk_23 rfl ⟨Nat.le_of_ble_eq_true rfl, Nat.le_of_ble_eq_true rfl⟩ rfl rfl (Nat.le_of_ble_eq_true rfl) dX0_add_23 ⟨Nat.le_refl _, Nat.le_refl _⟩ (fun hrv => av_eq (st2 := []) rfl rfl rfl rfl ?_))
  refine av_aload_n (pc := 26) (j := 1) C dX0_add_26 rfl rfl ?_
  refine av_getR (pc := 27) (k := 2) (r := 24) C fl_X0_23 sk_3 rfl dX0_add_27 ?_
  refine av_iload_n (pc := 30) (j := 2) C dX0_add_30 rfl rfl ?_
  refine av_bipush (pc := 31) C dX0_add_31 rfl ?_
  refine av_imul (pc := 33) C dX0_add_33 ?_
  refine av_iload (pc := 34) (j := 0) C dX0_add_34 rfl ?_
  refine av_iadd (pc := 36) C dX0_add_36 ?_
  refine av_lload_n (pc := 37) (j := 4) C dX0_add_37 rfl rfl ?_
  obtain ⟨S6, hc7, hs⟩ := am_b1_of hs
  refine av_eq (st2 := [am_J a3, am_I (am_w32 ((am_w32 (a1 * 10)) + x2)), am_R 24]) rfl rfl rfl rfl (av_callV (pc := 38) (as := [am_I (am_w32 ((am_w32 (a1 * 10)) + x2)), am_J a3]) (rest := []) C (ct_X4_put l G 24 57 100 sk_24 sk_57 rfl (am_w32 ((am_w32 (a1 * 10)) + x2)) a3 S4 S6 hc7) ym_X4_put si_X0_44 im_X4_put se_X4_put sk_24 rfl ⟨Nat.le_of_ble_eq_true rfl, Nat.le_of_ble_eq_true rfl⟩ rfl rfl (Nat.le_of_ble_eq_true rfl) dX0_add_38 ⟨Nat.le_refl _, Nat.le_refl _⟩ (fun hrv => av_eq (st2 := []) rfl rfl rfl rfl ?_))
  refine av_aload_n (pc := 41) (j := 1) C dX0_add_41 rfl rfl ?_
  refine av_getR (pc := 42) (k := 0) (r := 22) C fl_X0_14 sk_3 rfl dX0_add_42 ?_
  refine av_iload_n (pc := 45) (j := 2) C dX0_add_45 rfl rfl ?_
  refine av_iload (pc := 46) (j := 0) C dX0_add_46 rfl ?_
  refine av_iconst (pc := 48) C dX0_add_48 rfl ?_
  refine av_iadd (pc := 49) C dX0_add_49 ?_
  refine av_i2l (pc := 50) C dX0_add_50 ?_
  obtain ⟨S8, hc9, hs⟩ := am_b1_of hs
  refine av_eq (st2 := [am_J (am_w32 (x2 + 1)), am_I a1, am_R 22]) rfl rfl rfl rfl (av_callV (pc := 51) (as := [am_I a1, am_J (am_w32 (x2 + 1))]) (rest := []) C (ct_X4_put l G 22 55 10 sk_22 sk_55 rfl a1 (am_w32 (x2 + 1)) S6 S8 hc9) ym_X4_put si_X0_44 im_X4_put se_X4_put sk_22 rfl ⟨Nat.le_of_ble_eq_true rfl, Nat.le_of_ble_eq_true rfl⟩ rfl rfl (Nat.le_of_ble_eq_true rfl) dX0_add_51 ⟨Nat.le_refl _, Nat.le_refl _⟩ (fun hrv => av_eq (st2 := []) rfl rfl rfl rfl ?_))
  refine av_iload (pc := 54) (j := 0) C dX0_add_54 rfl ?_
  refine av_iconst (pc := 56) C dX0_add_56 rfl ?_
  refine av_iadd (pc := 57) C dX0_add_57 ?_
  obtain ⟨rfl, rfl⟩ := am_inj2 hs
  exact av_iret C hr hlocks dX0_add_58
set_option maxHeartbeats 4000000 in
set_option maxRecDepth 100000 in
theorem ct_X0_removeAll (l : Launch) (G : am_G) (a1 : Int) (S : am_S) (x : Int) (SZ : am_S) (hs : sf_X0_removeAll a1 S = some (x, SZ)) : am_met l yX0_removeAll cX0_removeAll 3 (some .int) 1 23 G [am_R 3, am_I a1] S (some (am_I x)) SZ := by
  refine am_enter ym_X0_removeAll (Nat.le_of_ble_eq_true rfl) ?_
  intro p e s m args below meth c C hr hlocks
  refine av_eq (lv2 := [(0, am_R 3), (1, am_I a1)]) rfl rfl rfl rfl ?_
  unfold sf_X0_removeAll at hs
  refine av_aload_n (pc := 0) (j := 0) C dX0_removeAll_0 rfl rfl ?_
  refine av_getR (pc := 1) (k := 0) (r := 22) C fl_X0_14 sk_3 rfl dX0_removeAll_1 ?_
  refine av_iload_n (pc := 4) (j := 1) C dX0_removeAll_4 rfl rfl ?_
  obtain ⟨x2, S1, hc3, hs⟩ := am_b2_of hs
  refine av_eq (st2 := [am_I a1, am_R 22]) rfl rfl rfl rfl (av_callV (pc := 5) (as := [am_I a1]) (rest := []) C (ct_X4_at l G 22 55 10 sk_22 sk_55 rfl a1 S x2 S1 hc3) ym_X4_at si_X0_40 im_X4_at se_X4_at sk_22 rfl ⟨Nat.le_of_ble_eq_true rfl, Nat.le_of_ble_eq_true rfl⟩ rfl rfl (Nat.le_of_ble_eq_true rfl) dX0_removeAll_5 ⟨Nat.le_refl _, Nat.le_refl _⟩ (fun hrv => av_eq (st2 := [am_I x2]) rfl rfl rfl rfl ?_))
  refine av_istore_n (pc := 8) (i := 2) (lv2 := [(2, am_I x2), (0, am_R 3), (1, am_I a1)]) C dX0_removeAll_8 rfl (by decide) rfl ?_
  refine av_aload_n (pc := 9) (j := 1) C dX0_removeAll_9 rfl rfl ?_
  refine av_getR (pc := 10) (k := 0) (r := 22) C fl_X0_14 sk_3 rfl dX0_removeAll_10 ?_
  refine av_iload_n (pc := 13) (j := 2) C dX0_removeAll_13 rfl rfl ?_
  refine av_lconst (pc := 14) (x := 0) C dX0_removeAll_14 rfl rfl ?_
  obtain ⟨S4, hc5, hs⟩ := am_b1_of hs
  refine av_eq (st2 := [am_J 0, am_I a1, am_R 22]) rfl rfl rfl rfl (av_callV (pc := 15) (as := [am_I a1, am_J 0]) (rest := []) C (ct_X4_put l G 22 55 10 sk_22 sk_55 rfl a1 0 S1 S4 hc5) ym_X4_put si_X0_44 im_X4_put se_X4_put sk_22 rfl ⟨Nat.le_of_ble_eq_true rfl, Nat.le_of_ble_eq_true rfl⟩ rfl rfl (Nat.le_of_ble_eq_true rfl) dX0_removeAll_15 ⟨Nat.le_refl _, Nat.le_refl _⟩ (fun hrv => av_eq (st2 := []) rfl rfl rfl rfl ?_))
  refine av_iload_n (pc := 18) (j := 0) C dX0_removeAll_18 rfl rfl ?_
  obtain ⟨rfl, rfl⟩ := am_inj2 hs
  exact av_iret C hr hlocks dX0_removeAll_19
set_option maxHeartbeats 4000000 in
set_option maxRecDepth 100000 in
theorem ct_X0_sizeOf (l : Launch) (G : am_G) (a1 : Int) (S : am_S) (x : Int) (SZ : am_S) (hs : sf_X0_sizeOf a1 S = some (x, SZ)) : am_met l yX0_sizeOf cX0_sizeOf 2 (some .int) 1 21 G [am_R 3, am_I a1] S (some (am_I x)) SZ := by
  refine am_enter ym_X0_sizeOf (Nat.le_of_ble_eq_true rfl) ?_
  intro p e s m args below meth c C hr hlocks
  refine av_eq (lv2 := [(0, am_R 3), (1, am_I a1)]) rfl rfl rfl rfl ?_
  unfold sf_X0_sizeOf at hs
  refine av_aload_n (pc := 0) (j := 0) C dX0_sizeOf_0 rfl rfl ?_
  refine av_getR (pc := 1) (k := 0) (r := 22) C fl_X0_14 sk_3 rfl dX0_sizeOf_1 ?_
  refine av_iload_n (pc := 4) (j := 1) C dX0_sizeOf_4 rfl rfl ?_
  obtain ⟨x2, S1, hc3, hs⟩ := am_b2_of hs
  refine av_eq (st2 := [am_I a1, am_R 22]) rfl rfl rfl rfl (av_callV (pc := 5) (as := [am_I a1]) (rest := []) C (ct_X4_at l G 22 55 10 sk_22 sk_55 rfl a1 S x2 S1 hc3) ym_X4_at si_X0_40 im_X4_at se_X4_at sk_22 rfl ⟨Nat.le_of_ble_eq_true rfl, Nat.le_of_ble_eq_true rfl⟩ rfl rfl (Nat.le_of_ble_eq_true rfl) dX0_sizeOf_5 ⟨Nat.le_refl _, Nat.le_refl _⟩ (fun hrv => av_eq (st2 := [am_I x2]) rfl rfl rfl rfl ?_))
  obtain ⟨rfl, rfl⟩ := am_inj2 hs
  exact av_iret C hr hlocks dX0_sizeOf_8
set_option maxHeartbeats 4000000 in
set_option maxRecDepth 100000 in
theorem ct_X0_kindOf (l : Launch) (G : am_G) (a1 : Int) (a2 : Int) (S : am_S) (x : Int) (SZ : am_S) (hs : sf_X0_kindOf a1 a2 S = some (x, SZ)) : am_met l yX0_kindOf cX0_kindOf 3 (some .int) 1 21 G [am_R 3, am_I a1, am_I a2] S (some (am_I x)) SZ := by
  refine am_enter ym_X0_kindOf (Nat.le_of_ble_eq_true rfl) ?_
  intro p e s m args below meth c C hr hlocks
  refine av_eq (lv2 := [(0, am_R 3), (1, am_I a1), (2, am_I a2)]) rfl rfl rfl rfl ?_
  unfold sf_X0_kindOf at hs
  refine av_aload_n (pc := 0) (j := 0) C dX0_kindOf_0 rfl rfl ?_
  refine av_getR (pc := 1) (k := 1) (r := 23) C fl_X0_20 sk_3 rfl dX0_kindOf_1 ?_
  refine av_iload_n (pc := 4) (j := 1) C dX0_kindOf_4 rfl rfl ?_
  refine av_bipush (pc := 5) C dX0_kindOf_5 rfl ?_
  refine av_imul (pc := 7) C dX0_kindOf_7 ?_
  refine av_iload_n (pc := 8) (j := 2) C dX0_kindOf_8 rfl rfl ?_
  refine av_iadd (pc := 9) C dX0_kindOf_9 ?_
  obtain ⟨x2, S1, hc3, hs⟩ := am_b2_of hs
  refine av_eq (st2 := [am_I (am_w32 ((am_w32 (a1 * 10)) + a2)), am_R 23]) rfl rfl rfl rfl (av_callV (pc := 10) (as := [am_I (am_w32 ((am_w32 (a1 * 10)) + a2))]) (rest := []) C (ct_X4_at l G 23 56 100 sk_23 sk_56 rfl (am_w32 ((am_w32 (a1 * 10)) + a2)) S x2 S1 hc3) ym_X4_at si_X0_40 im_X4_at se_X4_at sk_23 rfl ⟨Nat.le_of_ble_eq_true rfl, Nat.le_of_ble_eq_true rfl⟩ rfl rfl (Nat.le_of_ble_eq_true rfl) dX0_kindOf_10 ⟨Nat.le_refl _, Nat.le_refl _⟩ (fun hrv => av_eq (st2 := [am_I x2]) rfl rfl rfl rfl ?_))
  obtain ⟨rfl, rfl⟩ := am_inj2 hs
  exact av_iret C hr hlocks dX0_kindOf_13
set_option maxHeartbeats 4000000 in
set_option maxRecDepth 100000 in
theorem ct_X4_valueAt (l : Launch) (G : am_G) (o a n : Nat) (hk : am_sk[o]? = some (.inl (4, [some a]))) (ha : am_sk[a]? = some (.inr (2, n))) (hrn : am_rok (n : Int) = true) (a1 : Int) (S : am_S) (x : Int) (SZ : am_S) (hs : sf_X4_valueAt a n a1 S = some (x, SZ)) : am_met l yX4_valueAt cX4_valueAt 2 (some .long) 0 0 G [am_R o, am_I a1] S (some (am_J x)) SZ := by
  refine am_enter ym_X4_valueAt (Nat.le_of_ble_eq_true rfl) ?_
  intro p e s m args below meth c C hr hlocks
  refine av_eq (lv2 := [(0, am_R o), (1, am_I a1)]) rfl rfl rfl rfl ?_
  unfold sf_X4_valueAt at hs
  refine av_iload_n (pc := 0) (j := 1) C dX4_valueAt_0 rfl rfl ?_
  refine av_if_lt (pc := 1) (tgt := 22) C dX4_valueAt_1 (by decide) (fun hc => ?_) (fun hc => ?_)
  · rw [if_pos hc] at hs
    refine av_lconst (pc := 22) (x := 0) C dX4_valueAt_22 rfl rfl ?_
    obtain ⟨rfl, rfl⟩ := am_inj2 hs
    exact av_lret C hr hlocks dX4_valueAt_23
  · rw [if_neg hc] at hs
    refine av_iload_n (pc := 4) (j := 1) C dX4_valueAt_4 rfl rfl ?_
    refine av_aload_n (pc := 5) (j := 0) C dX4_valueAt_5 rfl rfl ?_
    refine av_getR (pc := 6) (k := 0) (r := a) (fl := [some a]) C fl_X4_7 hk rfl dX4_valueAt_6 ?_
    refine av_alen (pc := 9) C ha (by decide) hrn dX4_valueAt_9 ?_
    refine av_icmp_ge (pc := 10) (tgt := 22) C dX4_valueAt_10 (by decide) (fun hc => ?_) (fun hc => ?_)
    · rw [if_pos hc] at hs
      refine av_lconst (pc := 22) (x := 0) C dX4_valueAt_22 rfl rfl ?_
      obtain ⟨rfl, rfl⟩ := am_inj2 hs
      exact av_lret C hr hlocks dX4_valueAt_23
    · rw [if_neg hc] at hs
      refine av_aload_n (pc := 13) (j := 0) C dX4_valueAt_13 rfl rfl ?_
      refine av_getR (pc := 14) (k := 0) (r := a) (fl := [some a]) C fl_X4_7 hk rfl dX4_valueAt_14 ?_
      refine av_iload_n (pc := 17) (j := 1) C dX4_valueAt_17 rfl rfl ?_
      obtain ⟨hb, hs⟩ := am_gd_of hs
      refine av_lald (pc := 18) C ha hb dX4_valueAt_18 ?_
      refine av_goto (pc := 19) (tgt := 23) C dX4_valueAt_19 (by decide) ?_
      obtain ⟨rfl, rfl⟩ := am_inj2 hs
      exact av_lret C hr hlocks dX4_valueAt_23
set_option maxHeartbeats 4000000 in
set_option maxRecDepth 100000 in
theorem ct_X0_valueOf (l : Launch) (G : am_G) (a1 : Int) (a2 : Int) (S : am_S) (x : Int) (SZ : am_S) (hs : sf_X0_valueOf a1 a2 S = some (x, SZ)) : am_met l yX0_valueOf cX0_valueOf 3 (some .long) 1 21 G [am_R 3, am_I a1, am_I a2] S (some (am_J x)) SZ := by
  refine am_enter ym_X0_valueOf (Nat.le_of_ble_eq_true rfl) ?_
  intro p e s m args below meth c C hr hlocks
  refine av_eq (lv2 := [(0, am_R 3), (1, am_I a1), (2, am_I a2)]) rfl rfl rfl rfl ?_
  unfold sf_X0_valueOf at hs
  refine av_aload_n (pc := 0) (j := 0) C dX0_valueOf_0 rfl rfl ?_
  refine av_getR (pc := 1) (k := 2) (r := 24) C fl_X0_23 sk_3 rfl dX0_valueOf_1 ?_
  refine av_iload_n (pc := 4) (j := 1) C dX0_valueOf_4 rfl rfl ?_
  refine av_bipush (pc := 5) C dX0_valueOf_5 rfl ?_
  refine av_imul (pc := 7) C dX0_valueOf_7 ?_
  refine av_iload_n (pc := 8) (j := 2) C dX0_valueOf_8 rfl rfl ?_
  refine av_iadd (pc := 9) C dX0_valueOf_9 ?_
  obtain ⟨x2, S1, hc3, hs⟩ := am_b2_of hs
  refine av_eq (st2 := [am_I (am_w32 ((am_w32 (a1 * 10)) + a2)), am_R 24]) rfl rfl rfl rfl (av_callV (pc := 10) (as := [am_I (am_w32 ((am_w32 (a1 * 10)) + a2))]) (rest := []) C (ct_X4_valueAt l G 24 57 100 sk_24 sk_57 rfl (am_w32 ((am_w32 (a1 * 10)) + a2)) S x2 S1 hc3) ym_X4_valueAt si_X0_48 im_X4_valueAt se_X4_valueAt sk_24 rfl ⟨Nat.le_of_ble_eq_true rfl, Nat.le_of_ble_eq_true rfl⟩ rfl rfl (Nat.le_of_ble_eq_true rfl) dX0_valueOf_10 ⟨Nat.le_refl _, Nat.le_refl _⟩ (fun hrv => av_eq (st2 := [am_J x2]) rfl rfl rfl rfl ?_))
  obtain ⟨rfl, rfl⟩ := am_inj2 hs
  exact av_lret C hr hlocks dX0_valueOf_13
set_option maxHeartbeats 4000000 in
set_option maxRecDepth 100000 in
theorem wk_X0_behindTry_8 {p : Program} {l : Launch} {e : Env} {s : State} {m : MethodId} {args : Array Value} {below : List Frame} {meth : Method} {c : Code} {G : am_G} (C : am_C p s m args c cX0_behindTry 7 RX0 G) (hr : meth.sig.returnType = (some .int)) (hlocks : meth.locks = false) : ∀ (fu : Nat) (b1 : Int) (b2 : Int) (b3 : Int) (b4 : Int) (b5 : Int) (S : am_S) (x : Int) (SZ : am_S), sf_X0_behindTry_8 fu b1 b2 b3 b4 b5 S = some (x, SZ) → am_V p l e (am_rm 2 43) s m args below meth c (MQ below (am_Q G (some (am_I x)) SZ) args s 0 0 (am_A G)) G (am_A G) s.heap 7 0 0 8 [(0, am_R 3), (1, am_I b1), (2, am_I b2), (3, am_I b3), (4, am_I b4), (5, am_I b5)] [] S := by
  intro fu
  induction fu with
  | zero => intro b1 b2 b3 b4 b5 S x SZ hs; cases hs
  | succ fu ih =>
    intro b1 b2 b3 b4 b5 S x SZ hs
    unfold sf_X0_behindTry_8 at hs
    refine av_iload (pc := 8) (j := 5) C dX0_behindTry_8 rfl ?_
    refine av_aload_n (pc := 10) (j := 0) C dX0_behindTry_10 rfl rfl ?_
    refine av_getR (pc := 11) (k := 0) (r := 22) C fl_X0_14 sk_3 rfl dX0_behindTry_11 ?_
    refine av_iload_n (pc := 14) (j := 1) C dX0_behindTry_14 rfl rfl ?_
    obtain ⟨x2, S1, hc3, hs⟩ := am_b2_of hs
    refine av_eq (st2 := [am_I b1, am_R 22, am_I b5]) rfl rfl rfl rfl (av_callV (pc := 15) (as := [am_I b1]) (rest := [am_I b5]) C (ct_X4_at l G 22 55 10 sk_22 sk_55 rfl b1 S x2 S1 hc3) ym_X4_at si_X0_40 im_X4_at se_X4_at sk_22 rfl ⟨Nat.le_of_ble_eq_true rfl, Nat.le_of_ble_eq_true rfl⟩ rfl rfl (Nat.le_of_ble_eq_true rfl) dX0_behindTry_15 ⟨Nat.le_refl _, Nat.le_refl _⟩ (fun hrv => av_eq (st2 := [am_I x2, am_I b5]) rfl rfl rfl rfl ?_))
    refine av_icmp_ge (pc := 18) (tgt := 111) C dX0_behindTry_18 (by decide) (fun hc => ?_) (fun hc => ?_)
    · rw [if_pos hc] at hs
      refine av_iconst (pc := 111) C dX0_behindTry_111 rfl ?_
      obtain ⟨rfl, rfl⟩ := am_inj2 hs
      exact av_iret C hr hlocks dX0_behindTry_112
    · rw [if_neg hc] at hs
      refine av_aload_n (pc := 21) (j := 0) C dX0_behindTry_21 rfl rfl ?_
      refine av_iload_n (pc := 22) (j := 1) C dX0_behindTry_22 rfl rfl ?_
      refine av_iload (pc := 23) (j := 5) C dX0_behindTry_23 rfl ?_
      obtain ⟨x5, S4, hc6, hs⟩ := am_b2_of hs
      refine av_eq (st2 := [am_I b5, am_I b1, am_R 3]) rfl rfl rfl rfl (av_callV (pc := 25) (as := [am_I b1, am_I b5]) (rest := []) C (ct_X0_kindOf l G b1 b5 S1 x5 S4 hc6) ym_X0_kindOf si_X0_52 im_X0_kindOf se_X0_kindOf sk_3 rfl ⟨Nat.le_of_ble_eq_true rfl, Nat.le_of_ble_eq_true rfl⟩ rfl rfl (Nat.le_of_ble_eq_true rfl) dX0_behindTry_25 ⟨Nat.le_refl _, Nat.le_refl _⟩ (fun hrv => av_eq (st2 := [am_I x5]) rfl rfl rfl rfl ?_))
      refine av_istore (pc := 28) (i := 6) (lv2 := [(6, am_I x5), (0, am_R 3), (1, am_I b1), (2, am_I b2), (3, am_I b3), (4, am_I b4), (5, am_I b5)]) C dX0_behindTry_28 (by decide) rfl ?_
      refine av_iload (pc := 30) (j := 0) C dX0_behindTry_30 rfl ?_
      refine av_bipush (pc := 32) C dX0_behindTry_32 rfl ?_
      refine av_icmp_ne (pc := 34) (tgt := 49) C dX0_behindTry_34 (by decide) (fun hc => ?_) (fun hc => ?_)
      · rw [if_neg hc] at hs
        refine av_iload (pc := 49) (j := 0) C dX0_behindTry_49 rfl ?_
        refine av_bipush (pc := 51) C dX0_behindTry_51 rfl ?_
        refine av_icmp_ne (pc := 53) (tgt := 62) C dX0_behindTry_53 (by decide) (fun hc => ?_) (fun hc => ?_)
        · rw [if_neg hc] at hs
          refine av_iload (pc := 62) (j := 0) C dX0_behindTry_62 rfl ?_
          refine av_bipush (pc := 64) C dX0_behindTry_64 rfl ?_
          refine av_icmp_ne (pc := 66) (tgt := 80) C dX0_behindTry_66 (by decide) (fun hc => ?_) (fun hc => ?_)
          · rw [if_neg hc] at hs
            refine av_iload (pc := 80) (j := 0) C dX0_behindTry_80 rfl ?_
            refine av_bipush (pc := 82) C dX0_behindTry_82 rfl ?_
            refine av_icmp_ne (pc := 84) (tgt := 105) C dX0_behindTry_84 (by decide) (fun hc => ?_) (fun hc => ?_)
            · rw [if_neg hc] at hs
              refine av_iinc (pc := 105) (j := 6) (lv2 := [(5, am_I (am_w32 (b5 + 1))), (6, am_I x5), (0, am_R 3), (1, am_I b1), (2, am_I b2), (3, am_I b3), (4, am_I b4)]) C dX0_behindTry_105 rfl (by decide) rfl ?_
              refine av_goto (pc := 108) (tgt := 8) C dX0_behindTry_108 (by decide) ?_
              refine av_lvsub (lv2 := [(0, am_R 3), (1, am_I b1), (2, am_I b2), (3, am_I b3), (4, am_I b4), (5, am_I (am_w32 (b5 + 1)))]) [2, 3, 4, 5, 6, 0] rfl ?_
              exact ih b1 b2 b3 b4 (am_w32 (b5 + 1)) S4 x SZ hs
            · rw [if_pos (Decidable.not_not.mp hc)] at hs
              refine av_iload_n (pc := 87) (j := 4) C dX0_behindTry_87 rfl rfl ?_
              refine av_if_le (pc := 88) (tgt := 105) C dX0_behindTry_88 (by decide) (fun hc => ?_) (fun hc => ?_)
              · rw [if_pos hc] at hs
                refine av_iinc (pc := 105) (j := 6) (lv2 := [(5, am_I (am_w32 (b5 + 1))), (6, am_I x5), (0, am_R 3), (1, am_I b1), (2, am_I b2), (3, am_I b3), (4, am_I b4)]) C dX0_behindTry_105 rfl (by decide) rfl ?_
                refine av_goto (pc := 108) (tgt := 8) C dX0_behindTry_108 (by decide) ?_
                refine av_lvsub (lv2 := [(0, am_R 3), (1, am_I b1), (2, am_I b2), (3, am_I b3), (4, am_I b4), (5, am_I (am_w32 (b5 + 1)))]) [2, 3, 4, 5, 6, 0] rfl ?_
                exact ih b1 b2 b3 b4 (am_w32 (b5 + 1)) S4 x SZ hs
              · rw [if_neg hc] at hs
                refine av_iload (pc := 91) (j := 6) C dX0_behindTry_91 rfl ?_
                refine av_iload_n (pc := 93) (j := 3) C dX0_behindTry_93 rfl rfl ?_
                refine av_icmp_le (pc := 94) (tgt := 102) C dX0_behindTry_94 (by decide) (fun hc => ?_) (fun hc => ?_)
                · rw [if_pos hc] at hs
                  refine av_iinc (pc := 102) (j := 4) (lv2 := [(3, am_I (am_w32 (b3 + (-1)))), (6, am_I x5), (0, am_R 3), (1, am_I b1), (2, am_I b2), (4, am_I b4), (5, am_I b5)]) C dX0_behindTry_102 rfl (by decide) rfl ?_
                  refine av_iinc (pc := 105) (j := 6) (lv2 := [(5, am_I (am_w32 (b5 + 1))), (3, am_I (am_w32 (b3 + (-1)))), (6, am_I x5), (0, am_R 3), (1, am_I b1), (2, am_I b2), (4, am_I b4)]) C dX0_behindTry_105 rfl (by decide) rfl ?_
                  refine av_goto (pc := 108) (tgt := 8) C dX0_behindTry_108 (by decide) ?_
                  refine av_lvsub (lv2 := [(0, am_R 3), (1, am_I b1), (2, am_I b2), (3, am_I (am_w32 (b3 + (-1)))), (4, am_I b4), (5, am_I (am_w32 (b5 + 1)))]) [3, 4, 5, 1, 6, 0] rfl ?_
                  exact ih b1 b2 (am_w32 (b3 + (-1))) b4 (am_w32 (b5 + 1)) S4 x SZ hs
                · rw [if_neg hc] at hs
                  refine av_iload (pc := 97) (j := 6) C dX0_behindTry_97 rfl ?_
                  refine av_iconst (pc := 99) C dX0_behindTry_99 rfl ?_
                  refine av_iadd (pc := 100) C dX0_behindTry_100 ?_
                  obtain ⟨rfl, rfl⟩ := am_inj2 hs
                  exact av_iret C hr hlocks dX0_behindTry_101
          · rw [if_pos (Decidable.not_not.mp hc)] at hs
            refine av_iload (pc := 69) (j := 5) C dX0_behindTry_69 rfl ?_
            refine av_if_le (pc := 71) (tgt := 80) C dX0_behindTry_71 (by decide) (fun hc => ?_) (fun hc => ?_)
            · rw [if_pos hc] at hs
              refine av_iload (pc := 80) (j := 0) C dX0_behindTry_80 rfl ?_
              refine av_bipush (pc := 82) C dX0_behindTry_82 rfl ?_
              refine av_icmp_ne (pc := 84) (tgt := 105) C dX0_behindTry_84 (by decide) (fun hc => ?_) (fun hc => ?_)
              · rw [if_neg hc] at hs
                refine av_iinc (pc := 105) (j := 6) (lv2 := [(5, am_I (am_w32 (b5 + 1))), (6, am_I x5), (0, am_R 3), (1, am_I b1), (2, am_I b2), (3, am_I b3), (4, am_I b4)]) C dX0_behindTry_105 rfl (by decide) rfl ?_
                refine av_goto (pc := 108) (tgt := 8) C dX0_behindTry_108 (by decide) ?_
                refine av_lvsub (lv2 := [(0, am_R 3), (1, am_I b1), (2, am_I b2), (3, am_I b3), (4, am_I b4), (5, am_I (am_w32 (b5 + 1)))]) [2, 3, 4, 5, 6, 0] rfl ?_
                exact ih b1 b2 b3 b4 (am_w32 (b5 + 1)) S4 x SZ hs
              · rw [if_pos (Decidable.not_not.mp hc)] at hs
                refine av_iload_n (pc := 87) (j := 4) C dX0_behindTry_87 rfl rfl ?_
                refine av_if_le (pc := 88) (tgt := 105) C dX0_behindTry_88 (by decide) (fun hc => ?_) (fun hc => ?_)
                · rw [if_pos hc] at hs
                  refine av_iinc (pc := 105) (j := 6) (lv2 := [(5, am_I (am_w32 (b5 + 1))), (6, am_I x5), (0, am_R 3), (1, am_I b1), (2, am_I b2), (3, am_I b3), (4, am_I b4)]) C dX0_behindTry_105 rfl (by decide) rfl ?_
                  refine av_goto (pc := 108) (tgt := 8) C dX0_behindTry_108 (by decide) ?_
                  refine av_lvsub (lv2 := [(0, am_R 3), (1, am_I b1), (2, am_I b2), (3, am_I b3), (4, am_I b4), (5, am_I (am_w32 (b5 + 1)))]) [2, 3, 4, 5, 6, 0] rfl ?_
                  exact ih b1 b2 b3 b4 (am_w32 (b5 + 1)) S4 x SZ hs
                · rw [if_neg hc] at hs
                  refine av_iload (pc := 91) (j := 6) C dX0_behindTry_91 rfl ?_
                  refine av_iload_n (pc := 93) (j := 3) C dX0_behindTry_93 rfl rfl ?_
                  refine av_icmp_le (pc := 94) (tgt := 102) C dX0_behindTry_94 (by decide) (fun hc => ?_) (fun hc => ?_)
                  · rw [if_pos hc] at hs
                    refine av_iinc (pc := 102) (j := 4) (lv2 := [(3, am_I (am_w32 (b3 + (-1)))), (6, am_I x5), (0, am_R 3), (1, am_I b1), (2, am_I b2), (4, am_I b4), (5, am_I b5)]) C dX0_behindTry_102 rfl (by decide) rfl ?_
                    refine av_iinc (pc := 105) (j := 6) (lv2 := [(5, am_I (am_w32 (b5 + 1))), (3, am_I (am_w32 (b3 + (-1)))), (6, am_I x5), (0, am_R 3), (1, am_I b1), (2, am_I b2), (4, am_I b4)]) C dX0_behindTry_105 rfl (by decide) rfl ?_
                    refine av_goto (pc := 108) (tgt := 8) C dX0_behindTry_108 (by decide) ?_
                    refine av_lvsub (lv2 := [(0, am_R 3), (1, am_I b1), (2, am_I b2), (3, am_I (am_w32 (b3 + (-1)))), (4, am_I b4), (5, am_I (am_w32 (b5 + 1)))]) [3, 4, 5, 1, 6, 0] rfl ?_
                    exact ih b1 b2 (am_w32 (b3 + (-1))) b4 (am_w32 (b5 + 1)) S4 x SZ hs
                  · rw [if_neg hc] at hs
                    refine av_iload (pc := 97) (j := 6) C dX0_behindTry_97 rfl ?_
                    refine av_iconst (pc := 99) C dX0_behindTry_99 rfl ?_
                    refine av_iadd (pc := 100) C dX0_behindTry_100 ?_
                    obtain ⟨rfl, rfl⟩ := am_inj2 hs
                    exact av_iret C hr hlocks dX0_behindTry_101
            · rw [if_neg hc] at hs
              refine av_iinc (pc := 74) (j := 5) (lv2 := [(4, am_I (am_w32 (b4 + (-1)))), (6, am_I x5), (0, am_R 3), (1, am_I b1), (2, am_I b2), (3, am_I b3), (5, am_I b5)]) C dX0_behindTry_74 rfl (by decide) rfl ?_
              refine av_goto (pc := 77) (tgt := 105) C dX0_behindTry_77 (by decide) ?_
              refine av_iinc (pc := 105) (j := 6) (lv2 := [(5, am_I (am_w32 (b5 + 1))), (4, am_I (am_w32 (b4 + (-1)))), (6, am_I x5), (0, am_R 3), (1, am_I b1), (2, am_I b2), (3, am_I b3)]) C dX0_behindTry_105 rfl (by decide) rfl ?_
              refine av_goto (pc := 108) (tgt := 8) C dX0_behindTry_108 (by decide) ?_
              refine av_lvsub (lv2 := [(0, am_R 3), (1, am_I b1), (2, am_I b2), (3, am_I b3), (4, am_I (am_w32 (b4 + (-1)))), (5, am_I (am_w32 (b5 + 1)))]) [3, 4, 5, 6, 1, 0] rfl ?_
              exact ih b1 b2 b3 (am_w32 (b4 + (-1))) (am_w32 (b5 + 1)) S4 x SZ hs
        · rw [if_pos (Decidable.not_not.mp hc)] at hs
          refine av_iinc (pc := 56) (j := 5) (lv2 := [(4, am_I (am_w32 (b4 + 1))), (6, am_I x5), (0, am_R 3), (1, am_I b1), (2, am_I b2), (3, am_I b3), (5, am_I b5)]) C dX0_behindTry_56 rfl (by decide) rfl ?_
          refine av_goto (pc := 59) (tgt := 105) C dX0_behindTry_59 (by decide) ?_
          refine av_iinc (pc := 105) (j := 6) (lv2 := [(5, am_I (am_w32 (b5 + 1))), (4, am_I (am_w32 (b4 + 1))), (6, am_I x5), (0, am_R 3), (1, am_I b1), (2, am_I b2), (3, am_I b3)]) C dX0_behindTry_105 rfl (by decide) rfl ?_
          refine av_goto (pc := 108) (tgt := 8) C dX0_behindTry_108 (by decide) ?_
          refine av_lvsub (lv2 := [(0, am_R 3), (1, am_I b1), (2, am_I b2), (3, am_I b3), (4, am_I (am_w32 (b4 + 1))), (5, am_I (am_w32 (b5 + 1)))]) [3, 4, 5, 6, 1, 0] rfl ?_
          exact ih b1 b2 b3 (am_w32 (b4 + 1)) (am_w32 (b5 + 1)) S4 x SZ hs
      · rw [if_pos (Decidable.not_not.mp hc)] at hs
        refine av_iload (pc := 37) (j := 6) C dX0_behindTry_37 rfl ?_
        refine av_iload_n (pc := 39) (j := 3) C dX0_behindTry_39 rfl rfl ?_
        refine av_icmp_ge (pc := 40) (tgt := 49) C dX0_behindTry_40 (by decide) (fun hc => ?_) (fun hc => ?_)
        · rw [if_pos hc] at hs
          refine av_iload (pc := 49) (j := 0) C dX0_behindTry_49 rfl ?_
          refine av_bipush (pc := 51) C dX0_behindTry_51 rfl ?_
          refine av_icmp_ne (pc := 53) (tgt := 62) C dX0_behindTry_53 (by decide) (fun hc => ?_) (fun hc => ?_)
          · rw [if_neg hc] at hs
            refine av_iload (pc := 62) (j := 0) C dX0_behindTry_62 rfl ?_
            refine av_bipush (pc := 64) C dX0_behindTry_64 rfl ?_
            refine av_icmp_ne (pc := 66) (tgt := 80) C dX0_behindTry_66 (by decide) (fun hc => ?_) (fun hc => ?_)
            · rw [if_neg hc] at hs
              refine av_iload (pc := 80) (j := 0) C dX0_behindTry_80 rfl ?_
              refine av_bipush (pc := 82) C dX0_behindTry_82 rfl ?_
              refine av_icmp_ne (pc := 84) (tgt := 105) C dX0_behindTry_84 (by decide) (fun hc => ?_) (fun hc => ?_)
              · rw [if_neg hc] at hs
                refine av_iinc (pc := 105) (j := 6) (lv2 := [(5, am_I (am_w32 (b5 + 1))), (6, am_I x5), (0, am_R 3), (1, am_I b1), (2, am_I b2), (3, am_I b3), (4, am_I b4)]) C dX0_behindTry_105 rfl (by decide) rfl ?_
                refine av_goto (pc := 108) (tgt := 8) C dX0_behindTry_108 (by decide) ?_
                refine av_lvsub (lv2 := [(0, am_R 3), (1, am_I b1), (2, am_I b2), (3, am_I b3), (4, am_I b4), (5, am_I (am_w32 (b5 + 1)))]) [2, 3, 4, 5, 6, 0] rfl ?_
                exact ih b1 b2 b3 b4 (am_w32 (b5 + 1)) S4 x SZ hs
              · rw [if_pos (Decidable.not_not.mp hc)] at hs
                refine av_iload_n (pc := 87) (j := 4) C dX0_behindTry_87 rfl rfl ?_
                refine av_if_le (pc := 88) (tgt := 105) C dX0_behindTry_88 (by decide) (fun hc => ?_) (fun hc => ?_)
                · rw [if_pos hc] at hs
                  refine av_iinc (pc := 105) (j := 6) (lv2 := [(5, am_I (am_w32 (b5 + 1))), (6, am_I x5), (0, am_R 3), (1, am_I b1), (2, am_I b2), (3, am_I b3), (4, am_I b4)]) C dX0_behindTry_105 rfl (by decide) rfl ?_
                  refine av_goto (pc := 108) (tgt := 8) C dX0_behindTry_108 (by decide) ?_
                  refine av_lvsub (lv2 := [(0, am_R 3), (1, am_I b1), (2, am_I b2), (3, am_I b3), (4, am_I b4), (5, am_I (am_w32 (b5 + 1)))]) [2, 3, 4, 5, 6, 0] rfl ?_
                  exact ih b1 b2 b3 b4 (am_w32 (b5 + 1)) S4 x SZ hs
                · rw [if_neg hc] at hs
                  refine av_iload (pc := 91) (j := 6) C dX0_behindTry_91 rfl ?_
                  refine av_iload_n (pc := 93) (j := 3) C dX0_behindTry_93 rfl rfl ?_
                  refine av_icmp_le (pc := 94) (tgt := 102) C dX0_behindTry_94 (by decide) (fun hc => ?_) (fun hc => ?_)
                  · rw [if_pos hc] at hs
                    refine av_iinc (pc := 102) (j := 4) (lv2 := [(3, am_I (am_w32 (b3 + (-1)))), (6, am_I x5), (0, am_R 3), (1, am_I b1), (2, am_I b2), (4, am_I b4), (5, am_I b5)]) C dX0_behindTry_102 rfl (by decide) rfl ?_
                    refine av_iinc (pc := 105) (j := 6) (lv2 := [(5, am_I (am_w32 (b5 + 1))), (3, am_I (am_w32 (b3 + (-1)))), (6, am_I x5), (0, am_R 3), (1, am_I b1), (2, am_I b2), (4, am_I b4)]) C dX0_behindTry_105 rfl (by decide) rfl ?_
                    refine av_goto (pc := 108) (tgt := 8) C dX0_behindTry_108 (by decide) ?_
                    refine av_lvsub (lv2 := [(0, am_R 3), (1, am_I b1), (2, am_I b2), (3, am_I (am_w32 (b3 + (-1)))), (4, am_I b4), (5, am_I (am_w32 (b5 + 1)))]) [3, 4, 5, 1, 6, 0] rfl ?_
                    exact ih b1 b2 (am_w32 (b3 + (-1))) b4 (am_w32 (b5 + 1)) S4 x SZ hs
                  · rw [if_neg hc] at hs
                    refine av_iload (pc := 97) (j := 6) C dX0_behindTry_97 rfl ?_
                    refine av_iconst (pc := 99) C dX0_behindTry_99 rfl ?_
                    refine av_iadd (pc := 100) C dX0_behindTry_100 ?_
                    obtain ⟨rfl, rfl⟩ := am_inj2 hs
                    exact av_iret C hr hlocks dX0_behindTry_101
            · rw [if_pos (Decidable.not_not.mp hc)] at hs
              refine av_iload (pc := 69) (j := 5) C dX0_behindTry_69 rfl ?_
              refine av_if_le (pc := 71) (tgt := 80) C dX0_behindTry_71 (by decide) (fun hc => ?_) (fun hc => ?_)
              · rw [if_pos hc] at hs
                refine av_iload (pc := 80) (j := 0) C dX0_behindTry_80 rfl ?_
                refine av_bipush (pc := 82) C dX0_behindTry_82 rfl ?_
                refine av_icmp_ne (pc := 84) (tgt := 105) C dX0_behindTry_84 (by decide) (fun hc => ?_) (fun hc => ?_)
                · rw [if_neg hc] at hs
                  refine av_iinc (pc := 105) (j := 6) (lv2 := [(5, am_I (am_w32 (b5 + 1))), (6, am_I x5), (0, am_R 3), (1, am_I b1), (2, am_I b2), (3, am_I b3), (4, am_I b4)]) C dX0_behindTry_105 rfl (by decide) rfl ?_
                  refine av_goto (pc := 108) (tgt := 8) C dX0_behindTry_108 (by decide) ?_
                  refine av_lvsub (lv2 := [(0, am_R 3), (1, am_I b1), (2, am_I b2), (3, am_I b3), (4, am_I b4), (5, am_I (am_w32 (b5 + 1)))]) [2, 3, 4, 5, 6, 0] rfl ?_
                  exact ih b1 b2 b3 b4 (am_w32 (b5 + 1)) S4 x SZ hs
                · rw [if_pos (Decidable.not_not.mp hc)] at hs
                  refine av_iload_n (pc := 87) (j := 4) C dX0_behindTry_87 rfl rfl ?_
                  refine av_if_le (pc := 88) (tgt := 105) C dX0_behindTry_88 (by decide) (fun hc => ?_) (fun hc => ?_)
                  · rw [if_pos hc] at hs
                    refine av_iinc (pc := 105) (j := 6) (lv2 := [(5, am_I (am_w32 (b5 + 1))), (6, am_I x5), (0, am_R 3), (1, am_I b1), (2, am_I b2), (3, am_I b3), (4, am_I b4)]) C dX0_behindTry_105 rfl (by decide) rfl ?_
                    refine av_goto (pc := 108) (tgt := 8) C dX0_behindTry_108 (by decide) ?_
                    refine av_lvsub (lv2 := [(0, am_R 3), (1, am_I b1), (2, am_I b2), (3, am_I b3), (4, am_I b4), (5, am_I (am_w32 (b5 + 1)))]) [2, 3, 4, 5, 6, 0] rfl ?_
                    exact ih b1 b2 b3 b4 (am_w32 (b5 + 1)) S4 x SZ hs
                  · rw [if_neg hc] at hs
                    refine av_iload (pc := 91) (j := 6) C dX0_behindTry_91 rfl ?_
                    refine av_iload_n (pc := 93) (j := 3) C dX0_behindTry_93 rfl rfl ?_
                    refine av_icmp_le (pc := 94) (tgt := 102) C dX0_behindTry_94 (by decide) (fun hc => ?_) (fun hc => ?_)
                    · rw [if_pos hc] at hs
                      refine av_iinc (pc := 102) (j := 4) (lv2 := [(3, am_I (am_w32 (b3 + (-1)))), (6, am_I x5), (0, am_R 3), (1, am_I b1), (2, am_I b2), (4, am_I b4), (5, am_I b5)]) C dX0_behindTry_102 rfl (by decide) rfl ?_
                      refine av_iinc (pc := 105) (j := 6) (lv2 := [(5, am_I (am_w32 (b5 + 1))), (3, am_I (am_w32 (b3 + (-1)))), (6, am_I x5), (0, am_R 3), (1, am_I b1), (2, am_I b2), (4, am_I b4)]) C dX0_behindTry_105 rfl (by decide) rfl ?_
                      refine av_goto (pc := 108) (tgt := 8) C dX0_behindTry_108 (by decide) ?_
                      refine av_lvsub (lv2 := [(0, am_R 3), (1, am_I b1), (2, am_I b2), (3, am_I (am_w32 (b3 + (-1)))), (4, am_I b4), (5, am_I (am_w32 (b5 + 1)))]) [3, 4, 5, 1, 6, 0] rfl ?_
                      exact ih b1 b2 (am_w32 (b3 + (-1))) b4 (am_w32 (b5 + 1)) S4 x SZ hs
                    · rw [if_neg hc] at hs
                      refine av_iload (pc := 97) (j := 6) C dX0_behindTry_97 rfl ?_
                      refine av_iconst (pc := 99) C dX0_behindTry_99 rfl ?_
                      refine av_iadd (pc := 100) C dX0_behindTry_100 ?_
                      obtain ⟨rfl, rfl⟩ := am_inj2 hs
                      exact av_iret C hr hlocks dX0_behindTry_101
              · rw [if_neg hc] at hs
                refine av_iinc (pc := 74) (j := 5) (lv2 := [(4, am_I (am_w32 (b4 + (-1)))), (6, am_I x5), (0, am_R 3), (1, am_I b1), (2, am_I b2), (3, am_I b3), (5, am_I b5)]) C dX0_behindTry_74 rfl (by decide) rfl ?_
                refine av_goto (pc := 77) (tgt := 105) C dX0_behindTry_77 (by decide) ?_
                refine av_iinc (pc := 105) (j := 6) (lv2 := [(5, am_I (am_w32 (b5 + 1))), (4, am_I (am_w32 (b4 + (-1)))), (6, am_I x5), (0, am_R 3), (1, am_I b1), (2, am_I b2), (3, am_I b3)]) C dX0_behindTry_105 rfl (by decide) rfl ?_
                refine av_goto (pc := 108) (tgt := 8) C dX0_behindTry_108 (by decide) ?_
                refine av_lvsub (lv2 := [(0, am_R 3), (1, am_I b1), (2, am_I b2), (3, am_I b3), (4, am_I (am_w32 (b4 + (-1)))), (5, am_I (am_w32 (b5 + 1)))]) [3, 4, 5, 6, 1, 0] rfl ?_
                exact ih b1 b2 b3 (am_w32 (b4 + (-1))) (am_w32 (b5 + 1)) S4 x SZ hs
          · rw [if_pos (Decidable.not_not.mp hc)] at hs
            refine av_iinc (pc := 56) (j := 5) (lv2 := [(4, am_I (am_w32 (b4 + 1))), (6, am_I x5), (0, am_R 3), (1, am_I b1), (2, am_I b2), (3, am_I b3), (5, am_I b5)]) C dX0_behindTry_56 rfl (by decide) rfl ?_
            refine av_goto (pc := 59) (tgt := 105) C dX0_behindTry_59 (by decide) ?_
            refine av_iinc (pc := 105) (j := 6) (lv2 := [(5, am_I (am_w32 (b5 + 1))), (4, am_I (am_w32 (b4 + 1))), (6, am_I x5), (0, am_R 3), (1, am_I b1), (2, am_I b2), (3, am_I b3)]) C dX0_behindTry_105 rfl (by decide) rfl ?_
            refine av_goto (pc := 108) (tgt := 8) C dX0_behindTry_108 (by decide) ?_
            refine av_lvsub (lv2 := [(0, am_R 3), (1, am_I b1), (2, am_I b2), (3, am_I b3), (4, am_I (am_w32 (b4 + 1))), (5, am_I (am_w32 (b5 + 1)))]) [3, 4, 5, 6, 1, 0] rfl ?_
            exact ih b1 b2 b3 (am_w32 (b4 + 1)) (am_w32 (b5 + 1)) S4 x SZ hs
        · rw [if_neg hc] at hs
          refine av_iinc (pc := 43) (j := 4) (lv2 := [(3, am_I (am_w32 (b3 + 1))), (6, am_I x5), (0, am_R 3), (1, am_I b1), (2, am_I b2), (4, am_I b4), (5, am_I b5)]) C dX0_behindTry_43 rfl (by decide) rfl ?_
          refine av_goto (pc := 46) (tgt := 105) C dX0_behindTry_46 (by decide) ?_
          refine av_iinc (pc := 105) (j := 6) (lv2 := [(5, am_I (am_w32 (b5 + 1))), (3, am_I (am_w32 (b3 + 1))), (6, am_I x5), (0, am_R 3), (1, am_I b1), (2, am_I b2), (4, am_I b4)]) C dX0_behindTry_105 rfl (by decide) rfl ?_
          refine av_goto (pc := 108) (tgt := 8) C dX0_behindTry_108 (by decide) ?_
          refine av_lvsub (lv2 := [(0, am_R 3), (1, am_I b1), (2, am_I b2), (3, am_I (am_w32 (b3 + 1))), (4, am_I b4), (5, am_I (am_w32 (b5 + 1)))]) [3, 4, 5, 1, 6, 0] rfl ?_
          exact ih b1 b2 (am_w32 (b3 + 1)) b4 (am_w32 (b5 + 1)) S4 x SZ hs
set_option maxHeartbeats 4000000 in
set_option maxRecDepth 100000 in
theorem ct_X0_behindTry (l : Launch) (G : am_G) (a1 : Int) (a2 : Int) (S : am_S) (x : Int) (SZ : am_S) (hs : sf_X0_behindTry a1 a2 S = some (x, SZ)) : am_met l yX0_behindTry cX0_behindTry 7 (some .int) 2 43 G [am_R 3, am_I a1, am_I a2] S (some (am_I x)) SZ := by
  refine am_enter ym_X0_behindTry (Nat.le_of_ble_eq_true rfl) ?_
  intro p e s m args below meth c C hr hlocks
  refine av_eq (lv2 := [(0, am_R 3), (1, am_I a1), (2, am_I a2)]) rfl rfl rfl rfl ?_
  unfold sf_X0_behindTry at hs
  refine av_iconst (pc := 0) C dX0_behindTry_0 rfl ?_
  refine av_istore_n (pc := 1) (i := 3) (lv2 := [(3, am_I 0), (0, am_R 3), (1, am_I a1), (2, am_I a2)]) C dX0_behindTry_1 rfl (by decide) rfl ?_
  refine av_iconst (pc := 2) C dX0_behindTry_2 rfl ?_
  refine av_istore (pc := 3) (i := 4) (lv2 := [(4, am_I 0), (3, am_I 0), (0, am_R 3), (1, am_I a1), (2, am_I a2)]) C dX0_behindTry_3 (by decide) rfl ?_
  refine av_iconst (pc := 5) C dX0_behindTry_5 rfl ?_
  refine av_istore (pc := 6) (i := 5) (lv2 := [(5, am_I 0), (4, am_I 0), (3, am_I 0), (0, am_R 3), (1, am_I a1), (2, am_I a2)]) C dX0_behindTry_6 (by decide) rfl ?_
  refine av_lvsub (lv2 := [(0, am_R 3), (1, am_I a1), (2, am_I a2), (3, am_I 0), (4, am_I 0), (5, am_I 0)]) [3, 4, 5, 2, 1, 0] rfl ?_
  exact wk_X0_behindTry_8 C hr hlocks 1000 a1 a2 0 0 0 S x SZ hs
set_option maxHeartbeats 4000000 in
set_option maxRecDepth 100000 in
theorem ct_X1_clear (l : Launch) (G : am_G) (S : am_S) (SZ : am_S) (hs : sf_X1_clear  S = some SZ) : am_met l yX1_clear cX1_clear 1 none 0 0 G [am_R 6] S none SZ := by
  refine am_enter ym_X1_clear (Nat.le_of_ble_eq_true rfl) ?_
  intro p e s m args below meth c C hr hlocks
  refine av_eq (lv2 := [(0, am_R 6)]) rfl rfl rfl rfl ?_
  unfold sf_X1_clear at hs
  refine av_aload_n (pc := 0) (j := 0) C dX1_clear_0 rfl rfl ?_
  refine av_iconst (pc := 1) C dX1_clear_1 rfl ?_
  obtain ⟨S1, eS1, hs⟩ := am_let_of hs
  refine av_putI (pc := 2) (k := 5) (n := 389) C fp_X1_29 sk_6 rfl rfl dX1_clear_2 ?_
  refine av_eq rfl rfl rfl eS1 ?_
  obtain rfl := am_inj1 hs
  exact av_vret C hr hlocks dX1_clear_5
set_option maxHeartbeats 4000000 in
set_option maxRecDepth 100000 in
theorem ct_X1_items (l : Launch) (G : am_G) (S : am_S) (x : Int) (SZ : am_S) (hs : sf_X1_items  S = some (x, SZ)) : am_met l yX1_items cX1_items 1 (some .int) 0 0 G [am_R 6] S (some (am_I x)) SZ := by
  refine am_enter ym_X1_items (Nat.le_of_ble_eq_true rfl) ?_
  intro p e s m args below meth c C hr hlocks
  refine av_eq (lv2 := [(0, am_R 6)]) rfl rfl rfl rfl ?_
  unfold sf_X1_items at hs
  refine av_aload_n (pc := 0) (j := 0) C dX1_items_0 rfl rfl ?_
  refine av_getI (pc := 1) (k := 5) (n := 389) C fl_X1_29 sk_6 rfl rfl dX1_items_1 ?_
  obtain ⟨rfl, rfl⟩ := am_inj2 hs
  exact av_iret C hr hlocks dX1_items_4
set_option maxHeartbeats 4000000 in
set_option maxRecDepth 100000 in
theorem ct_X1_isFull (l : Launch) (G : am_G) (S : am_S) (x : Int) (SZ : am_S) (hs : sf_X1_isFull  S = some (x, SZ)) : am_met l yX1_isFull cX1_isFull 1 (some .boolean) 0 0 G [am_R 6] S (some (am_I x)) SZ := by
  refine am_enter ym_X1_isFull (Nat.le_of_ble_eq_true rfl) ?_
  intro p e s m args below meth c C hr hlocks
  refine av_eq (lv2 := [(0, am_R 6)]) rfl rfl rfl rfl ?_
  unfold sf_X1_isFull at hs
  refine av_aload_n (pc := 0) (j := 0) C dX1_isFull_0 rfl rfl ?_
  refine av_getI (pc := 1) (k := 5) (n := 389) C fl_X1_29 sk_6 rfl rfl dX1_isFull_1 ?_
  refine av_iconst (pc := 4) C dX1_isFull_4 rfl ?_
  refine av_icmp_lt (pc := 5) (tgt := 12) C dX1_isFull_5 (by decide) (fun hc => ?_) (fun hc => ?_)
  · rw [if_pos hc] at hs
    refine av_iconst (pc := 12) C dX1_isFull_12 rfl ?_
    obtain ⟨rfl, rfl⟩ := am_inj2 hs
    exact av_zret C (by decide) hr hlocks dX1_isFull_13
  · rw [if_neg hc] at hs
    refine av_iconst (pc := 8) C dX1_isFull_8 rfl ?_
    refine av_goto (pc := 9) (tgt := 13) C dX1_isFull_9 (by decide) ?_
    obtain ⟨rfl, rfl⟩ := am_inj2 hs
    exact av_zret C (by decide) hr hlocks dX1_isFull_13
set_option maxHeartbeats 4000000 in
set_option maxRecDepth 100000 in
theorem ct_X1_addItem (l : Launch) (G : am_G) (a1 : Int) (S : am_S) (x : Int) (SZ : am_S) (hs : sf_X1_addItem a1 S = some (x, SZ)) : am_met l yX1_addItem cX1_addItem 3 (some .int) 1 23 G [am_R 6, am_J a1] S (some (am_I x)) SZ := by
  refine am_enter ym_X1_addItem (Nat.le_of_ble_eq_true rfl) ?_
  intro p e s m args below meth c C hr hlocks
  refine av_eq (lv2 := [(0, am_R 6), (1, am_J a1)]) rfl rfl rfl rfl ?_
  unfold sf_X1_addItem at hs
  refine av_aload_n (pc := 0) (j := 0) C dX1_addItem_0 rfl rfl ?_
  refine av_getR (pc := 1) (k := 0) (r := 30) C fl_X1_14 sk_6 rfl dX1_addItem_1 ?_
  refine av_aload_n (pc := 4) (j := 0) C dX1_addItem_4 rfl rfl ?_
  refine av_getI (pc := 5) (k := 5) (n := 389) C fl_X1_29 sk_6 rfl rfl dX1_addItem_5 ?_
  refine av_lload_n (pc := 8) (j := 1) C dX1_addItem_8 rfl rfl ?_
  obtain ⟨S1, hc2, hs⟩ := am_b1_of hs
  refine av_eq (st2 := [am_J a1, am_I (S.1 389), am_R 30]) rfl rfl rfl rfl (av_callV (pc := 9) (as := [am_I (S.1 389), am_J a1]) (rest := []) C (ct_X4_put l G 30 63 5 sk_30 sk_63 rfl (S.1 389) a1 S S1 hc2) ym_X4_put si_X1_37 im_X4_put se_X4_put sk_30 rfl ⟨Nat.le_of_ble_eq_true rfl, Nat.le_of_ble_eq_true rfl⟩ rfl rfl (Nat.le_of_ble_eq_true rfl) dX1_addItem_9 ⟨Nat.le_refl _, Nat.le_refl _⟩ (fun hrv => av_eq (st2 := []) rfl rfl rfl rfl ?_))
  refine av_aload_n (pc := 12) (j := 0) C dX1_addItem_12 rfl rfl ?_
  refine av_dup (pc := 13) C dX1_addItem_13 rfl ?_
  refine av_getI (pc := 14) (k := 5) (n := 389) C fl_X1_29 sk_6 rfl rfl dX1_addItem_14 ?_
  refine av_iconst (pc := 17) C dX1_addItem_17 rfl ?_
  refine av_iadd (pc := 18) C dX1_addItem_18 ?_
  obtain ⟨S3, eS3, hs⟩ := am_let_of hs
  refine av_putI (pc := 19) (k := 5) (n := 389) C fp_X1_29 sk_6 rfl rfl dX1_addItem_19 ?_
  refine av_eq rfl rfl rfl eS3 ?_
  refine av_aload_n (pc := 22) (j := 0) C dX1_addItem_22 rfl rfl ?_
  refine av_getI (pc := 23) (k := 5) (n := 389) C fl_X1_29 sk_6 rfl rfl dX1_addItem_23 ?_
  obtain ⟨rfl, rfl⟩ := am_inj2 hs
  exact av_iret C hr hlocks dX1_addItem_26
set_option maxHeartbeats 4000000 in
set_option maxRecDepth 100000 in
theorem ct_X3_made (l : Launch) (G : am_G) (S : am_S) (x : Int) (SZ : am_S) (hs : sf_X3_made  S = some (x, SZ)) : am_met l yX3_made cX3_made 1 (some .int) 0 0 G [am_R 1] S (some (am_I x)) SZ := by
  refine am_enter ym_X3_made (Nat.le_of_ble_eq_true rfl) ?_
  intro p e s m args below meth c C hr hlocks
  refine av_eq (lv2 := [(0, am_R 1)]) rfl rfl rfl rfl ?_
  unfold sf_X3_made at hs
  refine av_aload_n (pc := 0) (j := 0) C dX3_made_0 rfl rfl ?_
  refine av_getI (pc := 1) (k := 11) (n := 75) C fl_X3_50 sk_1 rfl rfl dX3_made_1 ?_
  obtain ⟨rfl, rfl⟩ := am_inj2 hs
  exact av_iret C hr hlocks dX3_made_4
set_option maxHeartbeats 4000000 in
set_option maxRecDepth 100000 in
theorem ct_X8_sortOf (l : Launch) (G : am_G) (a1 : Int) (S : am_S) (x : Int) (SZ : am_S) (hs : sf_X8_sortOf a1 S = some (x, SZ)) : am_met l yX8_sortOf cX8_sortOf 2 (some .int) 0 0 G [am_J a1] S (some (am_I x)) SZ := by
  refine am_enter ym_X8_sortOf (Nat.le_of_ble_eq_true rfl) ?_
  intro p e s m args below meth c C hr hlocks
  refine av_eq (lv2 := [(0, am_J a1)]) rfl rfl rfl rfl ?_
  unfold sf_X8_sortOf at hs
  refine av_lload_n (pc := 0) (j := 0) C dX8_sortOf_0 rfl rfl ?_
  refine av_bipush (pc := 1) C dX8_sortOf_1 rfl ?_
  refine av_lshr (pc := 3) C dX8_sortOf_3 ?_
  refine av_l2i (pc := 4) C dX8_sortOf_4 ?_
  obtain ⟨rfl, rfl⟩ := am_inj2 hs
  exact av_iret C hr hlocks dX8_sortOf_5
set_option maxHeartbeats 4000000 in
set_option maxRecDepth 100000 in
theorem wk_X1_hasRoom_12 {p : Program} {l : Launch} {e : Env} {s : State} {m : MethodId} {args : Array Value} {below : List Frame} {meth : Method} {c : Code} {G : am_G} (C : am_C p s m args c cX1_hasRoom 3 RX1 G) (hr : meth.sig.returnType = (some .boolean)) (hlocks : meth.locks = false) : ∀ (fu : Nat) (b1 : Int) (b2 : Int) (S : am_S) (x : Int) (SZ : am_S), sf_X1_hasRoom_12 fu b1 b2 S = some (x, SZ) → am_V p l e (am_rm 1 21) s m args below meth c (MQ below (am_Q G (some (am_I x)) SZ) args s 0 0 (am_A G)) G (am_A G) s.heap 3 0 0 12 [(0, am_R 6), (1, am_I b1), (2, am_I b2)] [] S := by
  intro fu
  induction fu with
  | zero => intro b1 b2 S x SZ hs; cases hs
  | succ fu ih =>
    intro b1 b2 S x SZ hs
    unfold sf_X1_hasRoom_12 at hs
    refine av_iload_n (pc := 12) (j := 2) C dX1_hasRoom_12 rfl rfl ?_
    refine av_aload_n (pc := 13) (j := 0) C dX1_hasRoom_13 rfl rfl ?_
    refine av_getI (pc := 14) (k := 5) (n := 389) C fl_X1_29 sk_6 rfl rfl dX1_hasRoom_14 ?_
    refine av_icmp_ge (pc := 17) (tgt := 44) C dX1_hasRoom_17 (by decide) (fun hc => ?_) (fun hc => ?_)
    · rw [if_pos hc] at hs
      refine av_iload_n (pc := 44) (j := 1) C dX1_hasRoom_44 rfl rfl ?_
      refine av_bipush (pc := 45) C dX1_hasRoom_45 rfl ?_
      refine av_icmp_gt (pc := 47) (tgt := 54) C dX1_hasRoom_47 (by decide) (fun hc => ?_) (fun hc => ?_)
      · rw [if_pos hc] at hs
        refine av_iconst (pc := 54) C dX1_hasRoom_54 rfl ?_
        obtain ⟨rfl, rfl⟩ := am_inj2 hs
        exact av_zret C (by decide) hr hlocks dX1_hasRoom_55
      · rw [if_neg hc] at hs
        refine av_iconst (pc := 50) C dX1_hasRoom_50 rfl ?_
        refine av_goto (pc := 51) (tgt := 55) C dX1_hasRoom_51 (by decide) ?_
        obtain ⟨rfl, rfl⟩ := am_inj2 hs
        exact av_zret C (by decide) hr hlocks dX1_hasRoom_55
    · rw [if_neg hc] at hs
      refine av_aload_n (pc := 20) (j := 0) C dX1_hasRoom_20 rfl rfl ?_
      refine av_getR (pc := 21) (k := 0) (r := 30) C fl_X1_14 sk_6 rfl dX1_hasRoom_21 ?_
      refine av_iload_n (pc := 24) (j := 2) C dX1_hasRoom_24 rfl rfl ?_
      obtain ⟨x5, S4, hc6, hs⟩ := am_b2_of hs
      refine av_eq (st2 := [am_I b2, am_R 30]) rfl rfl rfl rfl (av_callV (pc := 25) (as := [am_I b2]) (rest := []) C (ct_X4_valueAt l G 30 63 5 sk_30 sk_63 rfl b2 S x5 S4 hc6) ym_X4_valueAt si_X1_47 im_X4_valueAt se_X4_valueAt sk_30 rfl ⟨Nat.le_of_ble_eq_true rfl, Nat.le_of_ble_eq_true rfl⟩ rfl rfl (Nat.le_of_ble_eq_true rfl) dX1_hasRoom_25 ⟨Nat.le_refl _, Nat.le_refl _⟩ (fun hrv => av_eq (st2 := [am_J x5]) rfl rfl rfl rfl ?_))
      obtain ⟨x8, S7, hc9, hs⟩ := am_b2_of hs
      refine av_eq (st2 := [am_J x5]) rfl rfl rfl rfl (av_callS (pc := 28) (as := [am_J x5]) (rest := []) C (ct_X8_sortOf l G x5 S4 x8 S7 hc9) ym_X8_sortOf si_X1_51 st_X8_sortOf ⟨Nat.le_of_ble_eq_true rfl, Nat.le_of_ble_eq_true rfl⟩ rfl rfl (Nat.le_of_ble_eq_true rfl) dX1_hasRoom_28 ⟨Nat.le_refl _, Nat.le_refl _⟩ (fun hrv => av_eq (st2 := [am_I x8]) rfl rfl rfl rfl ?_))
      refine av_iconst (pc := 31) C dX1_hasRoom_31 rfl ?_
      refine av_icmp_eq (pc := 32) (tgt := 38) C dX1_hasRoom_32 (by decide) (fun hc => ?_) (fun hc => ?_)
      · rw [if_pos hc] at hs
        refine av_iinc (pc := 38) (j := 2) (lv2 := [(2, am_I (am_w32 (b2 + 1))), (0, am_R 6), (1, am_I b1)]) C dX1_hasRoom_38 rfl (by decide) rfl ?_
        refine av_goto (pc := 41) (tgt := 12) C dX1_hasRoom_41 (by decide) ?_
        refine av_lvsub (lv2 := [(0, am_R 6), (1, am_I b1), (2, am_I (am_w32 (b2 + 1)))]) [1, 2, 0] rfl ?_
        exact ih b1 (am_w32 (b2 + 1)) S7 x SZ hs
      · rw [if_neg hc] at hs
        refine av_iinc (pc := 35) (j := 1) (lv2 := [(1, am_I (am_w32 (b1 + 1))), (0, am_R 6), (2, am_I b2)]) C dX1_hasRoom_35 rfl (by decide) rfl ?_
        refine av_iinc (pc := 38) (j := 2) (lv2 := [(2, am_I (am_w32 (b2 + 1))), (1, am_I (am_w32 (b1 + 1))), (0, am_R 6)]) C dX1_hasRoom_38 rfl (by decide) rfl ?_
        refine av_goto (pc := 41) (tgt := 12) C dX1_hasRoom_41 (by decide) ?_
        refine av_lvsub (lv2 := [(0, am_R 6), (1, am_I (am_w32 (b1 + 1))), (2, am_I (am_w32 (b2 + 1)))]) [2, 1, 0] rfl ?_
        exact ih (am_w32 (b1 + 1)) (am_w32 (b2 + 1)) S7 x SZ hs
set_option maxHeartbeats 4000000 in
set_option maxRecDepth 100000 in
theorem ct_X1_hasRoom (l : Launch) (G : am_G) (S : am_S) (x : Int) (SZ : am_S) (hs : sf_X1_hasRoom  S = some (x, SZ)) : am_met l yX1_hasRoom cX1_hasRoom 3 (some .boolean) 1 21 G [am_R 6] S (some (am_I x)) SZ := by
  refine am_enter ym_X1_hasRoom (Nat.le_of_ble_eq_true rfl) ?_
  intro p e s m args below meth c C hr hlocks
  refine av_eq (lv2 := [(0, am_R 6)]) rfl rfl rfl rfl ?_
  unfold sf_X1_hasRoom at hs
  refine av_aload_n (pc := 0) (j := 0) C dX1_hasRoom_0 rfl rfl ?_
  refine av_getR (pc := 1) (k := 4) (r := 1) C fl_X1_33 sk_6 rfl dX1_hasRoom_1 ?_
  obtain ⟨x2, S1, hc3, hs⟩ := am_b2_of hs
  refine av_eq (st2 := [am_R 1]) rfl rfl rfl rfl (av_callV (pc := 4) (as := []) (rest := []) C (ct_X3_made l G  S x2 S1 hc3) ym_X3_made si_X1_41 im_X3_made se_X3_made sk_1 rfl ⟨Nat.le_of_ble_eq_true rfl, Nat.le_of_ble_eq_true rfl⟩ rfl rfl (Nat.le_of_ble_eq_true rfl) dX1_hasRoom_4 ⟨Nat.le_refl _, Nat.le_refl _⟩ (fun hrv => av_eq (st2 := [am_I x2]) rfl rfl rfl rfl ?_))
  refine av_iconst (pc := 7) C dX1_hasRoom_7 rfl ?_
  refine av_iadd (pc := 8) C dX1_hasRoom_8 ?_
  refine av_istore_n (pc := 9) (i := 1) (lv2 := [(1, am_I (am_w32 (x2 + 1))), (0, am_R 6)]) C dX1_hasRoom_9 rfl (by decide) rfl ?_
  refine av_iconst (pc := 10) C dX1_hasRoom_10 rfl ?_
  refine av_istore_n (pc := 11) (i := 2) (lv2 := [(2, am_I 0), (1, am_I (am_w32 (x2 + 1))), (0, am_R 6)]) C dX1_hasRoom_11 rfl (by decide) rfl ?_
  refine av_lvsub (lv2 := [(0, am_R 6), (1, am_I (am_w32 (x2 + 1))), (2, am_I 0)]) [2, 1, 0] rfl ?_
  exact wk_X1_hasRoom_12 C hr hlocks 1000 (am_w32 (x2 + 1)) 0 S1 x SZ hs
set_option maxHeartbeats 4000000 in
set_option maxRecDepth 100000 in
theorem ct_X3_has (l : Launch) (G : am_G) (a1 : Int) (S : am_S) (x : Int) (SZ : am_S) (hs : sf_X3_has a1 S = some (x, SZ)) : am_met l yX3_has cX3_has 2 (some .boolean) 1 21 G [am_R 1, am_I a1] S (some (am_I x)) SZ := by
  refine am_enter ym_X3_has (Nat.le_of_ble_eq_true rfl) ?_
  intro p e s m args below meth c C hr hlocks
  refine av_eq (lv2 := [(0, am_R 1), (1, am_I a1)]) rfl rfl rfl rfl ?_
  unfold sf_X3_has at hs
  refine av_iload_n (pc := 0) (j := 1) C dX3_has_0 rfl rfl ?_
  refine av_aload_n (pc := 1) (j := 0) C dX3_has_1 rfl rfl ?_
  refine av_getI (pc := 2) (k := 11) (n := 75) C fl_X3_50 sk_1 rfl rfl dX3_has_2 ?_
  obtain ⟨x2, S1, hc3, hs⟩ := am_b2_of hs
  refine av_eq (st2 := [am_I (S.1 75), am_I a1]) rfl rfl rfl rfl (av_callSN (pc := 5) (as := [am_I a1, am_I (S.1 75)]) (rest := []) C (ct_X9_isWithin l G a1 (S.1 75) S x2 S1 hc3) ym_X9_isWithin si_X3_63 st_X9_isWithin ⟨Nat.le_of_ble_eq_true rfl, Nat.le_of_ble_eq_true rfl⟩ rfl rfl (Nat.le_of_ble_eq_true rfl) dX3_has_5 ⟨Nat.le_refl _, Nat.le_refl _⟩ (fun hrv => av_eq (st2 := [am_I x2]) rfl rfl rfl rfl ?_))
  obtain ⟨hz, hs⟩ := am_gz_of hs
  obtain ⟨rfl, rfl⟩ := am_inj2 hs
  exact av_zret C hz hr hlocks dX3_has_8
set_option maxHeartbeats 4000000 in
set_option maxRecDepth 100000 in
theorem ct_X3_isKeyUsed (l : Launch) (G : am_G) (a1 : Int) (S : am_S) (x : Int) (SZ : am_S) (hs : sf_X3_isKeyUsed a1 S = some (x, SZ)) : am_met l yX3_isKeyUsed cX3_isKeyUsed 2 (some .boolean) 1 21 G [am_R 1, am_I a1] S (some (am_I x)) SZ := by
  refine am_enter ym_X3_isKeyUsed (Nat.le_of_ble_eq_true rfl) ?_
  intro p e s m args below meth c C hr hlocks
  refine av_eq (lv2 := [(0, am_R 1), (1, am_I a1)]) rfl rfl rfl rfl ?_
  unfold sf_X3_isKeyUsed at hs
  refine av_aload_n (pc := 0) (j := 0) C dX3_isKeyUsed_0 rfl rfl ?_
  refine av_getR (pc := 1) (k := 3) (r := 11) C fl_X3_26 sk_1 rfl dX3_isKeyUsed_1 ?_
  refine av_iload_n (pc := 4) (j := 1) C dX3_isKeyUsed_4 rfl rfl ?_
  obtain ⟨x2, S1, hc3, hs⟩ := am_b2_of hs
  refine av_eq (st2 := [am_I a1, am_R 11]) rfl rfl rfl rfl (av_callV (pc := 5) (as := [am_I a1]) (rest := []) C (ct_X4_at l G 11 44 100 sk_11 sk_44 rfl a1 S x2 S1 hc3) ym_X4_at si_X3_67 im_X4_at se_X4_at sk_11 rfl ⟨Nat.le_of_ble_eq_true rfl, Nat.le_of_ble_eq_true rfl⟩ rfl rfl (Nat.le_of_ble_eq_true rfl) dX3_isKeyUsed_5 ⟨Nat.le_refl _, Nat.le_refl _⟩ (fun hrv => av_eq (st2 := [am_I x2]) rfl rfl rfl rfl ?_))
  refine av_iconst (pc := 8) C dX3_isKeyUsed_8 rfl ?_
  refine av_icmp_ne (pc := 9) (tgt := 16) C dX3_isKeyUsed_9 (by decide) (fun hc => ?_) (fun hc => ?_)
  · rw [if_neg hc] at hs
    refine av_iconst (pc := 16) C dX3_isKeyUsed_16 rfl ?_
    obtain ⟨rfl, rfl⟩ := am_inj2 hs
    exact av_zret C (by decide) hr hlocks dX3_isKeyUsed_17
  · rw [if_pos (Decidable.not_not.mp hc)] at hs
    refine av_iconst (pc := 12) C dX3_isKeyUsed_12 rfl ?_
    refine av_goto (pc := 13) (tgt := 17) C dX3_isKeyUsed_13 (by decide) ?_
    obtain ⟨rfl, rfl⟩ := am_inj2 hs
    exact av_zret C (by decide) hr hlocks dX3_isKeyUsed_17
set_option maxHeartbeats 4000000 in
set_option maxRecDepth 100000 in
theorem ct_X3_lineUp (l : Launch) (G : am_G) (a1 : Int) (a2 : Int) (a3 : Int) (S : am_S) (SZ : am_S) (hs : sf_X3_lineUp a1 a2 a3 S = some SZ) : am_met l yX3_lineUp cX3_lineUp 4 none 1 23 G [am_R 1, am_I a1, am_I a2, am_I a3] S none SZ := by
  refine am_enter ym_X3_lineUp (Nat.le_of_ble_eq_true rfl) ?_
  intro p e s m args below meth c C hr hlocks
  refine av_eq (lv2 := [(0, am_R 1), (1, am_I a1), (2, am_I a2), (3, am_I a3)]) rfl rfl rfl rfl ?_
  unfold sf_X3_lineUp at hs
  refine av_iload_n (pc := 0) (j := 3) C dX3_lineUp_0 rfl rfl ?_
  refine av_if_ne (pc := 1) (tgt := 5) C dX3_lineUp_1 (by decide) (fun hc => ?_) (fun hc => ?_)
  · rw [if_neg hc] at hs
    refine av_aload_n (pc := 5) (j := 0) C dX3_lineUp_5 rfl rfl ?_
    refine av_getI (pc := 6) (k := 12) (n := 76) C fl_X3_54 sk_1 rfl rfl dX3_lineUp_6 ?_
    refine av_if_ne (pc := 9) (tgt := 20) C dX3_lineUp_9 (by decide) (fun hc => ?_) (fun hc => ?_)
    · rw [if_neg hc] at hs
      refine av_aload_n (pc := 20) (j := 0) C dX3_lineUp_20 rfl rfl ?_
      refine av_getR (pc := 21) (k := 9) (r := 17) C fl_X3_44 sk_1 rfl dX3_lineUp_21 ?_
      refine av_aload_n (pc := 24) (j := 0) C dX3_lineUp_24 rfl rfl ?_
      refine av_getI (pc := 25) (k := 14) (n := 78) C fl_X3_60 sk_1 rfl rfl dX3_lineUp_25 ?_
      refine av_iload_n (pc := 28) (j := 1) C dX3_lineUp_28 rfl rfl ?_
      refine av_i2l (pc := 29) C dX3_lineUp_29 ?_
      obtain ⟨S1, hc2, hs⟩ := am_b1_of hs
      refine av_eq (st2 := [am_J a1, am_I (S.1 78), am_R 17]) rfl rfl rfl rfl (av_callV (pc := 30) (as := [am_I (S.1 78), am_J a1]) (rest := []) C (ct_X4_put l G 17 50 900 sk_17 sk_50 rfl (S.1 78) a1 S S1 hc2) ym_X4_put si_X3_79 im_X4_put se_X4_put sk_17 rfl ⟨Nat.le_of_ble_eq_true rfl, Nat.le_of_ble_eq_true rfl⟩ rfl rfl (Nat.le_of_ble_eq_true rfl) dX3_lineUp_30 ⟨Nat.le_refl _, Nat.le_refl _⟩ (fun hrv => av_eq (st2 := []) rfl rfl rfl rfl ?_))
      refine av_aload_n (pc := 33) (j := 0) C dX3_lineUp_33 rfl rfl ?_
      refine av_iload_n (pc := 34) (j := 2) C dX3_lineUp_34 rfl rfl ?_
      obtain ⟨S3, eS3, hs⟩ := am_let_of hs
      refine av_putI (pc := 35) (k := 14) (n := 78) C fp_X3_60 sk_1 rfl rfl dX3_lineUp_35 ?_
      refine av_eq rfl rfl rfl eS3 ?_
      refine av_aload_n (pc := 38) (j := 0) C dX3_lineUp_38 rfl rfl ?_
      refine av_dup (pc := 39) C dX3_lineUp_39 rfl ?_
      refine av_getI (pc := 40) (k := 12) (n := 76) C fl_X3_54 sk_1 rfl rfl dX3_lineUp_40 ?_
      refine av_iload_n (pc := 43) (j := 3) C dX3_lineUp_43 rfl rfl ?_
      refine av_iadd (pc := 44) C dX3_lineUp_44 ?_
      obtain ⟨S4, eS4, hs⟩ := am_let_of hs
      refine av_putI (pc := 45) (k := 12) (n := 76) C fp_X3_54 sk_1 rfl rfl dX3_lineUp_45 ?_
      refine av_eq rfl rfl rfl eS4 ?_
      obtain rfl := am_inj1 hs
      exact av_vret C hr hlocks dX3_lineUp_48
    · rw [if_pos (Decidable.not_not.mp hc)] at hs
      refine av_aload_n (pc := 12) (j := 0) C dX3_lineUp_12 rfl rfl ?_
      refine av_iload_n (pc := 13) (j := 1) C dX3_lineUp_13 rfl rfl ?_
      obtain ⟨S5, eS5, hs⟩ := am_let_of hs
      refine av_putI (pc := 14) (k := 13) (n := 77) C fp_X3_57 sk_1 rfl rfl dX3_lineUp_14 ?_
      refine av_eq rfl rfl rfl eS5 ?_
      refine av_goto (pc := 17) (tgt := 33) C dX3_lineUp_17 (by decide) ?_
      refine av_aload_n (pc := 33) (j := 0) C dX3_lineUp_33 rfl rfl ?_
      refine av_iload_n (pc := 34) (j := 2) C dX3_lineUp_34 rfl rfl ?_
      obtain ⟨S6, eS6, hs⟩ := am_let_of hs
      refine av_putI (pc := 35) (k := 14) (n := 78) C fp_X3_60 sk_1 rfl rfl dX3_lineUp_35 ?_
      refine av_eq rfl rfl rfl eS6 ?_
      refine av_aload_n (pc := 38) (j := 0) C dX3_lineUp_38 rfl rfl ?_
      refine av_dup (pc := 39) C dX3_lineUp_39 rfl ?_
      refine av_getI (pc := 40) (k := 12) (n := 76) C fl_X3_54 sk_1 rfl rfl dX3_lineUp_40 ?_
      refine av_iload_n (pc := 43) (j := 3) C dX3_lineUp_43 rfl rfl ?_
      refine av_iadd (pc := 44) C dX3_lineUp_44 ?_
      obtain ⟨S7, eS7, hs⟩ := am_let_of hs
      refine av_putI (pc := 45) (k := 12) (n := 76) C fp_X3_54 sk_1 rfl rfl dX3_lineUp_45 ?_
      refine av_eq rfl rfl rfl eS7 ?_
      obtain rfl := am_inj1 hs
      exact av_vret C hr hlocks dX3_lineUp_48
  · rw [if_pos (Decidable.not_not.mp hc)] at hs
    obtain rfl := am_inj1 hs
    exact av_vret C hr hlocks dX3_lineUp_4
set_option maxHeartbeats 4000000 in
set_option maxRecDepth 100000 in
theorem ct_X8_of (l : Launch) (G : am_G) (a1 : Int) (a2 : Int) (S : am_S) (x : Int) (SZ : am_S) (hs : sf_X8_of a1 a2 S = some (x, SZ)) : am_met l yX8_of cX8_of 2 (some .long) 0 0 G [am_I a1, am_I a2] S (some (am_J x)) SZ := by
  refine am_enter ym_X8_of (Nat.le_of_ble_eq_true rfl) ?_
  intro p e s m args below meth c C hr hlocks
  refine av_eq (lv2 := [(0, am_I a1), (1, am_I a2)]) rfl rfl rfl rfl ?_
  unfold sf_X8_of at hs
  refine av_iload_n (pc := 0) (j := 0) C dX8_of_0 rfl rfl ?_
  refine av_i2l (pc := 1) C dX8_of_1 ?_
  refine av_bipush (pc := 2) C dX8_of_2 rfl ?_
  obtain ⟨hg, hs⟩ := am_g32_of hs
  refine av_lshl (pc := 4) C hg dX8_of_4 ?_
  refine av_iload_n (pc := 5) (j := 1) C dX8_of_5 rfl rfl ?_
  refine av_i2l (pc := 6) C dX8_of_6 ?_
  refine av_ldc2 (pc := 7) C co_X8_9 (by unfold am_r64; omega) dX8_of_7 ?_
  refine av_land (pc := 10) C dX8_of_10 ?_
  obtain ⟨hg, hs⟩ := am_glo_of hs
  refine av_lor (pc := 11) C hg dX8_of_11 ?_
  obtain ⟨rfl, rfl⟩ := am_inj2 hs
  exact av_lret C hr hlocks dX8_of_12
set_option maxHeartbeats 4000000 in
set_option maxRecDepth 100000 in
theorem ct_X9_jobOf (l : Launch) (G : am_G) (a1 : Int) (a2 : Int) (S : am_S) (x : Int) (SZ : am_S) (hs : sf_X9_jobOf a1 a2 S = some (x, SZ)) : am_met l yX9_jobOf cX9_jobOf 2 (some .int) 0 0 G [am_I a1, am_I a2] S (some (am_I x)) SZ := by
  refine am_enter ym_X9_jobOf (Nat.le_of_ble_eq_true rfl) ?_
  intro p e s m args below meth c C hr hlocks
  refine av_eq (lv2 := [(0, am_I a1), (1, am_I a2)]) rfl rfl rfl rfl ?_
  unfold sf_X9_jobOf at hs
  refine av_iload_n (pc := 0) (j := 0) C dX9_jobOf_0 rfl rfl ?_
  refine av_bipush (pc := 1) C dX9_jobOf_1 rfl ?_
  refine av_imul (pc := 3) C dX9_jobOf_3 ?_
  refine av_iload_n (pc := 4) (j := 1) C dX9_jobOf_4 rfl rfl ?_
  refine av_iadd (pc := 5) C dX9_jobOf_5 ?_
  obtain ⟨rfl, rfl⟩ := am_inj2 hs
  exact av_iret C hr hlocks dX9_jobOf_6
set_option maxHeartbeats 4000000 in
set_option maxRecDepth 100000 in
theorem wk_X3_settleBy_141 {p : Program} {l : Launch} {e : Env} {s : State} {m : MethodId} {args : Array Value} {below : List Frame} {meth : Method} {c : Code} {G : am_G} (C : am_C p s m args c cX3_settleBy 8 RX3 G) (hr : meth.sig.returnType = none) (hlocks : meth.locks = false) (b1 : Int) (t0 : Int) (t1 : Int) (S : am_S) (SZ : am_S) (hs : sf_X3_settleBy_141 b1 t0 t1 S = some SZ) : am_V p l e (am_rm 2 46) s m args below meth c (MQ below (am_Q G none SZ) args s 0 0 (am_A G)) G (am_A G) s.heap 8 0 0 141 [(0, am_R 1), (1, am_I b1)] [am_J t0, am_I t1, am_R 9] S := by
  unfold sf_X3_settleBy_141 at hs
  obtain ⟨S33, hc34, hs⟩ := am_b1_of hs
  refine av_eq (st2 := [am_J t0, am_I t1, am_R 9]) rfl rfl rfl rfl (av_callV (pc := 141) (as := [am_I t1, am_J t0]) (rest := []) C (ct_X4_put l G 9 42 100 sk_9 sk_42 rfl t1 t0 S S33 hc34) ym_X4_put si_X3_79 im_X4_put se_X4_put sk_9 rfl ⟨Nat.le_of_ble_eq_true rfl, Nat.le_of_ble_eq_true rfl⟩ rfl rfl (Nat.le_of_ble_eq_true rfl) dX3_settleBy_141 ⟨Nat.le_refl _, Nat.le_refl _⟩ (fun hrv => av_eq (st2 := []) rfl rfl rfl rfl ?_))
  refine av_aload_n (pc := 144) (j := 0) C dX3_settleBy_144 rfl rfl ?_
  refine av_aload_n (pc := 145) (j := 0) C dX3_settleBy_145 rfl rfl ?_
  refine av_getR (pc := 146) (k := 7) (r := 15) C fl_X3_38 sk_1 rfl dX3_settleBy_146 ?_
  refine av_iload_n (pc := 149) (j := 1) C dX3_settleBy_149 rfl rfl ?_
  obtain ⟨x36, S35, hc37, hs⟩ := am_b2_of hs
  refine av_eq (st2 := [am_I b1, am_R 15, am_R 1]) rfl rfl rfl rfl (av_callV (pc := 150) (as := [am_I b1]) (rest := [am_R 1]) C (ct_X4_at l G 15 48 100 sk_15 sk_48 rfl b1 S33 x36 S35 hc37) ym_X4_at si_X3_67 im_X4_at se_X4_at sk_15 rfl ⟨Nat.le_of_ble_eq_true rfl, Nat.le_of_ble_eq_true rfl⟩ rfl rfl (Nat.le_of_ble_eq_true rfl) dX3_settleBy_150 ⟨Nat.le_refl _, Nat.le_refl _⟩ (fun hrv => av_eq (st2 := [am_I x36, am_R 1]) rfl rfl rfl rfl ?_))
  refine av_aload_n (pc := 153) (j := 0) C dX3_settleBy_153 rfl rfl ?_
  refine av_getR (pc := 154) (k := 8) (r := 16) C fl_X3_41 sk_1 rfl dX3_settleBy_154 ?_
  refine av_iload_n (pc := 157) (j := 1) C dX3_settleBy_157 rfl rfl ?_
  obtain ⟨x39, S38, hc40, hs⟩ := am_b2_of hs
  refine av_eq (st2 := [am_I b1, am_R 16, am_I x36, am_R 1]) rfl rfl rfl rfl (av_callV (pc := 158) (as := [am_I b1]) (rest := [am_I x36, am_R 1]) C (ct_X4_at l G 16 49 100 sk_16 sk_49 rfl b1 S35 x39 S38 hc40) ym_X4_at si_X3_67 im_X4_at se_X4_at sk_16 rfl ⟨Nat.le_of_ble_eq_true rfl, Nat.le_of_ble_eq_true rfl⟩ rfl rfl (Nat.le_of_ble_eq_true rfl) dX3_settleBy_158 ⟨Nat.le_refl _, Nat.le_refl _⟩ (fun hrv => av_eq (st2 := [am_I x39, am_I x36, am_R 1]) rfl rfl rfl rfl ?_))
  refine av_aload_n (pc := 161) (j := 0) C dX3_settleBy_161 rfl rfl ?_
  refine av_getR (pc := 162) (k := 6) (r := 14) C fl_X3_35 sk_1 rfl dX3_settleBy_162 ?_
  refine av_iload_n (pc := 165) (j := 1) C dX3_settleBy_165 rfl rfl ?_
  obtain ⟨x42, S41, hc43, hs⟩ := am_b2_of hs
  refine av_eq (st2 := [am_I b1, am_R 14, am_I x39, am_I x36, am_R 1]) rfl rfl rfl rfl (av_callV (pc := 166) (as := [am_I b1]) (rest := [am_I x39, am_I x36, am_R 1]) C (ct_X4_at l G 14 47 100 sk_14 sk_47 rfl b1 S38 x42 S41 hc43) ym_X4_at si_X3_67 im_X4_at se_X4_at sk_14 rfl ⟨Nat.le_of_ble_eq_true rfl, Nat.le_of_ble_eq_true rfl⟩ rfl rfl (Nat.le_of_ble_eq_true rfl) dX3_settleBy_166 ⟨Nat.le_refl _, Nat.le_refl _⟩ (fun hrv => av_eq (st2 := [am_I x42, am_I x39, am_I x36, am_R 1]) rfl rfl rfl rfl ?_))
  obtain ⟨S44, hc45, hs⟩ := am_b1_of hs
  refine av_eq (st2 := [am_I x42, am_I x39, am_I x36, am_R 1]) rfl rfl rfl rfl (av_callV (pc := 169) (as := [am_I x36, am_I x39, am_I x42]) (rest := []) C (ct_X3_lineUp l G x36 x39 x42 S41 S44 hc45) ym_X3_lineUp si_X3_114 im_X3_lineUp se_X3_lineUp sk_1 rfl ⟨Nat.le_of_ble_eq_true rfl, Nat.le_of_ble_eq_true rfl⟩ rfl rfl (Nat.le_of_ble_eq_true rfl) dX3_settleBy_169 ⟨Nat.le_refl _, Nat.le_refl _⟩ (fun hrv => av_eq (st2 := []) rfl rfl rfl rfl ?_))
  refine av_aload_n (pc := 172) (j := 0) C dX3_settleBy_172 rfl rfl ?_
  refine av_getR (pc := 173) (k := 6) (r := 14) C fl_X3_35 sk_1 rfl dX3_settleBy_173 ?_
  refine av_iload_n (pc := 176) (j := 1) C dX3_settleBy_176 rfl rfl ?_
  refine av_lconst (pc := 177) (x := 0) C dX3_settleBy_177 rfl rfl ?_
  obtain ⟨S46, hc47, hs⟩ := am_b1_of hs
  refine av_eq (st2 := [am_J 0, am_I b1, am_R 14]) rfl rfl rfl rfl (av_callV (pc := 178) (as := [am_I b1, am_J 0]) (rest := []) C (ct_X4_put l G 14 47 100 sk_14 sk_47 rfl b1 0 S44 S46 hc47) ym_X4_put si_X3_79 im_X4_put se_X4_put sk_14 rfl ⟨Nat.le_of_ble_eq_true rfl, Nat.le_of_ble_eq_true rfl⟩ rfl rfl (Nat.le_of_ble_eq_true rfl) dX3_settleBy_178 ⟨Nat.le_refl _, Nat.le_refl _⟩ (fun hrv => av_eq (st2 := []) rfl rfl rfl rfl ?_))
  obtain rfl := am_inj1 hs
  exact av_vret C hr hlocks dX3_settleBy_181
set_option maxHeartbeats 4000000 in
set_option maxRecDepth 100000 in
theorem wk_X3_settleBy_111 {p : Program} {l : Launch} {e : Env} {s : State} {m : MethodId} {args : Array Value} {below : List Frame} {meth : Method} {c : Code} {G : am_G} (C : am_C p s m args c cX3_settleBy 8 RX3 G) (hr : meth.sig.returnType = none) (hlocks : meth.locks = false) (b1 : Int) (b3 : Int) (b6 : Int) (b7 : Int) (S : am_S) (SZ : am_S) (hs : sf_X3_settleBy_111 b1 b3 b6 b7 S = some SZ) : am_V p l e (am_rm 2 46) s m args below meth c (MQ below (am_Q G none SZ) args s 0 0 (am_A G)) G (am_A G) s.heap 8 0 0 111 [(0, am_R 1), (1, am_I b1), (3, am_J b3), (6, am_I b6), (7, am_I b7)] [] S := by
  unfold sf_X3_settleBy_111 at hs
  refine av_aload_n (pc := 111) (j := 0) C dX3_settleBy_111 rfl rfl ?_
  refine av_getR (pc := 112) (k := 0) (r := 8) C fl_X3_14 sk_1 rfl dX3_settleBy_112 ?_
  refine av_iload_n (pc := 115) (j := 1) C dX3_settleBy_115 rfl rfl ?_
  refine av_iload (pc := 116) (j := 4) C dX3_settleBy_116 rfl ?_
  refine av_i2l (pc := 118) C dX3_settleBy_118 ?_
  obtain ⟨S28, hc29, hs⟩ := am_b1_of hs
  refine av_eq (st2 := [am_J b7, am_I b1, am_R 8]) rfl rfl rfl rfl (av_callV (pc := 119) (as := [am_I b1, am_J b7]) (rest := []) C (ct_X4_put l G 8 41 100 sk_8 sk_41 rfl b1 b7 S S28 hc29) ym_X4_put si_X3_79 im_X4_put se_X4_put sk_8 rfl ⟨Nat.le_of_ble_eq_true rfl, Nat.le_of_ble_eq_true rfl⟩ rfl rfl (Nat.le_of_ble_eq_true rfl) dX3_settleBy_119 ⟨Nat.le_refl _, Nat.le_refl _⟩ (fun hrv => av_eq (st2 := []) rfl rfl rfl rfl ?_))
  refine av_aload_n (pc := 122) (j := 0) C dX3_settleBy_122 rfl rfl ?_
  refine av_getR (pc := 123) (k := 1) (r := 9) C fl_X3_20 sk_1 rfl dX3_settleBy_123 ?_
  refine av_iload_n (pc := 126) (j := 1) C dX3_settleBy_126 rfl rfl ?_
  refine av_iload (pc := 127) (j := 3) C dX3_settleBy_127 rfl ?_
  refine av_if_eq (pc := 129) (tgt := 140) C dX3_settleBy_129 (by decide) (fun hc => ?_) (fun hc => ?_)
  · rw [if_pos hc] at hs
    refine av_lload_n (pc := 140) (j := 2) C dX3_settleBy_140 rfl rfl ?_
    refine av_lvsub (lv2 := [(0, am_R 1), (1, am_I b1)]) [0, 1] rfl ?_
    exact wk_X3_settleBy_141 C hr hlocks b1 b3 b1 S28 SZ hs
  · rw [if_neg hc] at hs
    refine av_iconst (pc := 132) C dX3_settleBy_132 rfl ?_
    refine av_iconst (pc := 133) C dX3_settleBy_133 rfl ?_
    obtain ⟨x31, S30, hc32, hs⟩ := am_b2_of hs
    refine av_eq (st2 := [am_I (-1), am_I 0, am_I b1, am_R 9]) rfl rfl rfl rfl (av_callS (pc := 134) (as := [am_I 0, am_I (-1)]) (rest := [am_I b1, am_R 9]) C (ct_X8_of l G 0 (-1) S28 x31 S30 hc32) ym_X8_of si_X3_106 st_X8_of ⟨Nat.le_of_ble_eq_true rfl, Nat.le_of_ble_eq_true rfl⟩ rfl rfl (Nat.le_of_ble_eq_true rfl) dX3_settleBy_134 ⟨Nat.le_refl _, Nat.le_refl _⟩ (fun hrv => av_eq (st2 := [am_J x31, am_I b1, am_R 9]) rfl rfl rfl rfl ?_))
    refine av_goto (pc := 137) (tgt := 141) C dX3_settleBy_137 (by decide) ?_
    refine av_lvsub (lv2 := [(0, am_R 1), (1, am_I b1)]) [0, 1] rfl ?_
    exact wk_X3_settleBy_141 C hr hlocks b1 x31 b1 S30 SZ hs
set_option maxHeartbeats 4000000 in
set_option maxRecDepth 100000 in
theorem wk_X3_settleBy_71 {p : Program} {l : Launch} {e : Env} {s : State} {m : MethodId} {args : Array Value} {below : List Frame} {meth : Method} {c : Code} {G : am_G} (C : am_C p s m args c cX3_settleBy 8 RX3 G) (hr : meth.sig.returnType = none) (hlocks : meth.locks = false) (b1 : Int) (b3 : Int) (b6 : Int) (t0 : Int) (S : am_S) (SZ : am_S) (hs : sf_X3_settleBy_71 b1 b3 b6 t0 S = some SZ) : am_V p l e (am_rm 2 46) s m args below meth c (MQ below (am_Q G none SZ) args s 0 0 (am_A G)) G (am_A G) s.heap 8 0 0 71 [(0, am_R 1), (1, am_I b1), (3, am_J b3), (6, am_I b6)] [am_I t0] S := by
  unfold sf_X3_settleBy_71 at hs
  refine av_istore (pc := 71) (i := 7) (lv2 := [(7, am_I t0), (0, am_R 1), (1, am_I b1), (3, am_J b3), (6, am_I b6)]) C dX3_settleBy_71 (by decide) rfl ?_
  refine av_iload (pc := 73) (j := 0) C dX3_settleBy_73 rfl ?_
  refine av_iconst (pc := 75) C dX3_settleBy_75 rfl ?_
  refine av_icmp_ne (pc := 76) (tgt := 111) C dX3_settleBy_76 (by decide) (fun hc => ?_) (fun hc => ?_)
  · rw [if_neg hc] at hs
    refine av_lvsub (lv2 := [(0, am_R 1), (1, am_I b1), (3, am_J b3), (6, am_I b6), (7, am_I t0)]) [1, 2, 3, 4, 0] rfl ?_
    exact wk_X3_settleBy_111 C hr hlocks b1 b3 b6 t0 S SZ hs
  · rw [if_pos (Decidable.not_not.mp hc)] at hs
    refine av_lload_n (pc := 79) (j := 3) C dX3_settleBy_79 rfl rfl ?_
    obtain ⟨x16, S15, hc17, hs⟩ := am_b2_of hs
    refine av_eq (st2 := [am_J b3]) rfl rfl rfl rfl (av_callS (pc := 80) (as := [am_J b3]) (rest := []) C (ct_X8_sortOf l G b3 S x16 S15 hc17) ym_X8_sortOf si_X3_83 st_X8_sortOf ⟨Nat.le_of_ble_eq_true rfl, Nat.le_of_ble_eq_true rfl⟩ rfl rfl (Nat.le_of_ble_eq_true rfl) dX3_settleBy_80 ⟨Nat.le_refl _, Nat.le_refl _⟩ (fun hrv => av_eq (st2 := [am_I x16]) rfl rfl rfl rfl ?_))
    refine av_if_eq (pc := 83) (tgt := 111) C dX3_settleBy_83 (by decide) (fun hc => ?_) (fun hc => ?_)
    · rw [if_pos hc] at hs
      refine av_lvsub (lv2 := [(0, am_R 1), (1, am_I b1), (3, am_J b3), (6, am_I b6), (7, am_I t0)]) [1, 2, 3, 4, 0] rfl ?_
      exact wk_X3_settleBy_111 C hr hlocks b1 b3 b6 t0 S15 SZ hs
    · rw [if_neg hc] at hs
      refine av_aload_n (pc := 86) (j := 1) C dX3_settleBy_86 rfl rfl ?_
      refine av_getR (pc := 87) (k := 5) (r := 13) C fl_X3_32 sk_1 rfl dX3_settleBy_87 ?_
      refine av_iload_n (pc := 90) (j := 2) C dX3_settleBy_90 rfl rfl ?_
      refine av_lload_n (pc := 91) (j := 3) C dX3_settleBy_91 rfl rfl ?_
      obtain ⟨S18, hc19, hs⟩ := am_b1_of hs
      refine av_eq (st2 := [am_J b3, am_I b1, am_R 13]) rfl rfl rfl rfl (av_callV (pc := 92) (as := [am_I b1, am_J b3]) (rest := []) C (ct_X4_put l G 13 46 100 sk_13 sk_46 rfl b1 b3 S15 S18 hc19) ym_X4_put si_X3_79 im_X4_put se_X4_put sk_13 rfl ⟨Nat.le_of_ble_eq_true rfl, Nat.le_of_ble_eq_true rfl⟩ rfl rfl (Nat.le_of_ble_eq_true rfl) dX3_settleBy_92 ⟨Nat.le_refl _, Nat.le_refl _⟩ (fun hrv => av_eq (st2 := []) rfl rfl rfl rfl ?_))
      refine av_aload_n (pc := 95) (j := 1) C dX3_settleBy_95 rfl rfl ?_
      refine av_iload_n (pc := 96) (j := 2) C dX3_settleBy_96 rfl rfl ?_
      refine av_iconst (pc := 97) C dX3_settleBy_97 rfl ?_
      obtain ⟨x21, S20, hc22, hs⟩ := am_b2_of hs
      refine av_eq (st2 := [am_I 0, am_I b1, am_R 1]) rfl rfl rfl rfl (av_callSN (pc := 98) (as := [am_I b1, am_I 0]) (rest := [am_R 1]) C (ct_X9_jobOf l G b1 0 S18 x21 S20 hc22) ym_X9_jobOf si_X3_110 st_X9_jobOf ⟨Nat.le_of_ble_eq_true rfl, Nat.le_of_ble_eq_true rfl⟩ rfl rfl (Nat.le_of_ble_eq_true rfl) dX3_settleBy_98 ⟨Nat.le_refl _, Nat.le_refl _⟩ (fun hrv => av_eq (st2 := [am_I x21, am_R 1]) rfl rfl rfl rfl ?_))
      refine av_iload_n (pc := 101) (j := 2) C dX3_settleBy_101 rfl rfl ?_
      refine av_iconst (pc := 102) C dX3_settleBy_102 rfl ?_
      obtain ⟨x24, S23, hc25, hs⟩ := am_b2_of hs
      refine av_eq (st2 := [am_I 0, am_I b1, am_I x21, am_R 1]) rfl rfl rfl rfl (av_callSN (pc := 103) (as := [am_I b1, am_I 0]) (rest := [am_I x21, am_R 1]) C (ct_X9_jobOf l G b1 0 S20 x24 S23 hc25) ym_X9_jobOf si_X3_110 st_X9_jobOf ⟨Nat.le_of_ble_eq_true rfl, Nat.le_of_ble_eq_true rfl⟩ rfl rfl (Nat.le_of_ble_eq_true rfl) dX3_settleBy_103 ⟨Nat.le_refl _, Nat.le_refl _⟩ (fun hrv => av_eq (st2 := [am_I x24, am_I x21, am_R 1]) rfl rfl rfl rfl ?_))
      refine av_iconst (pc := 106) C dX3_settleBy_106 rfl ?_
      obtain ⟨S26, hc27, hs⟩ := am_b1_of hs
      refine av_eq (st2 := [am_I 1, am_I x24, am_I x21, am_R 1]) rfl rfl rfl rfl (av_callV (pc := 107) (as := [am_I x21, am_I x24, am_I 1]) (rest := []) C (ct_X3_lineUp l G x21 x24 1 S23 S26 hc27) ym_X3_lineUp si_X3_114 im_X3_lineUp se_X3_lineUp sk_1 rfl ⟨Nat.le_of_ble_eq_true rfl, Nat.le_of_ble_eq_true rfl⟩ rfl rfl (Nat.le_of_ble_eq_true rfl) dX3_settleBy_107 ⟨Nat.le_refl _, Nat.le_refl _⟩ (fun hrv => av_eq (st2 := []) rfl rfl rfl rfl ?_))
      obtain rfl := am_inj1 hs
      exact av_vret C hr hlocks dX3_settleBy_110
set_option maxHeartbeats 4000000 in
set_option maxRecDepth 100000 in
theorem ct_X3_settleBy (l : Launch) (G : am_G) (a1 : Int) (a2 : Int) (a3 : Int) (a4 : Int) (S : am_S) (SZ : am_S) (hs : sf_X3_settleBy a1 a2 a3 a4 S = some SZ) : am_met l yX3_settleBy cX3_settleBy 8 none 2 46 G [am_R 1, am_I a1, am_I a2, am_J a3, am_I a4] S none SZ := by
  refine am_enter ym_X3_settleBy (Nat.le_of_ble_eq_true rfl) ?_
  intro p e s m args below meth c C hr hlocks
  refine av_eq (lv2 := [(0, am_R 1), (1, am_I a1), (2, am_I a2), (3, am_J a3), (5, am_I a4)]) rfl rfl rfl rfl ?_
  unfold sf_X3_settleBy at hs
  refine av_aload_n (pc := 0) (j := 0) C dX3_settleBy_0 rfl rfl ?_
  refine av_iload_n (pc := 1) (j := 1) C dX3_settleBy_1 rfl rfl ?_
  obtain ⟨x2, S1, hc3, hs⟩ := am_b2_of hs
  refine av_eq (st2 := [am_I a1, am_R 1]) rfl rfl rfl rfl (av_callV (pc := 2) (as := [am_I a1]) (rest := []) C (ct_X3_has l G a1 S x2 S1 hc3) ym_X3_has si_X3_100 im_X3_has se_X3_has sk_1 rfl ⟨Nat.le_of_ble_eq_true rfl, Nat.le_of_ble_eq_true rfl⟩ rfl rfl (Nat.le_of_ble_eq_true rfl) dX3_settleBy_2 ⟨Nat.le_refl _, Nat.le_refl _⟩ (fun hrv => av_eq (st2 := [am_I x2]) rfl rfl rfl rfl ?_))
  refine av_if_eq (pc := 5) (tgt := 29) C dX3_settleBy_5 (by decide) (fun hc => ?_) (fun hc => ?_)
  · rw [if_pos hc] at hs
    obtain rfl := am_inj1 hs
    exact av_vret C hr hlocks dX3_settleBy_29
  · rw [if_neg hc] at hs
    refine av_iload (pc := 8) (j := 4) C dX3_settleBy_8 rfl ?_
    refine av_aload_n (pc := 10) (j := 0) C dX3_settleBy_10 rfl rfl ?_
    refine av_getR (pc := 11) (k := 2) (r := 10) C fl_X3_23 sk_1 rfl dX3_settleBy_11 ?_
    refine av_iload_n (pc := 14) (j := 1) C dX3_settleBy_14 rfl rfl ?_
    obtain ⟨x5, S4, hc6, hs⟩ := am_b2_of hs
    refine av_eq (st2 := [am_I a1, am_R 10, am_I a4]) rfl rfl rfl rfl (av_callV (pc := 15) (as := [am_I a1]) (rest := [am_I a4]) C (ct_X4_at l G 10 43 100 sk_10 sk_43 rfl a1 S1 x5 S4 hc6) ym_X4_at si_X3_67 im_X4_at se_X4_at sk_10 rfl ⟨Nat.le_of_ble_eq_true rfl, Nat.le_of_ble_eq_true rfl⟩ rfl rfl (Nat.le_of_ble_eq_true rfl) dX3_settleBy_15 ⟨Nat.le_refl _, Nat.le_refl _⟩ (fun hrv => av_eq (st2 := [am_I x5, am_I a4]) rfl rfl rfl rfl ?_))
    refine av_icmp_ne (pc := 18) (tgt := 29) C dX3_settleBy_18 (by decide) (fun hc => ?_) (fun hc => ?_)
    · rw [if_neg hc] at hs
      obtain rfl := am_inj1 hs
      exact av_vret C hr hlocks dX3_settleBy_29
    · rw [if_pos (Decidable.not_not.mp hc)] at hs
      refine av_aload_n (pc := 21) (j := 0) C dX3_settleBy_21 rfl rfl ?_
      refine av_iload_n (pc := 22) (j := 1) C dX3_settleBy_22 rfl rfl ?_
      obtain ⟨x8, S7, hc9, hs⟩ := am_b2_of hs
      refine av_eq (st2 := [am_I a1, am_R 1]) rfl rfl rfl rfl (av_callV (pc := 23) (as := [am_I a1]) (rest := []) C (ct_X3_isKeyUsed l G a1 S4 x8 S7 hc9) ym_X3_isKeyUsed si_X3_103 im_X3_isKeyUsed se_X3_isKeyUsed sk_1 rfl ⟨Nat.le_of_ble_eq_true rfl, Nat.le_of_ble_eq_true rfl⟩ rfl rfl (Nat.le_of_ble_eq_true rfl) dX3_settleBy_23 ⟨Nat.le_refl _, Nat.le_refl _⟩ (fun hrv => av_eq (st2 := [am_I x8]) rfl rfl rfl rfl ?_))
      refine av_if_eq (pc := 26) (tgt := 30) C dX3_settleBy_26 (by decide) (fun hc => ?_) (fun hc => ?_)
      · rw [if_pos hc] at hs
        refine av_aload_n (pc := 30) (j := 0) C dX3_settleBy_30 rfl rfl ?_
        refine av_getR (pc := 31) (k := 3) (r := 11) C fl_X3_26 sk_1 rfl dX3_settleBy_31 ?_
        refine av_iload_n (pc := 34) (j := 1) C dX3_settleBy_34 rfl rfl ?_
        refine av_lconst (pc := 35) (x := 1) C dX3_settleBy_35 rfl rfl ?_
        obtain ⟨S10, hc11, hs⟩ := am_b1_of hs
        refine av_eq (st2 := [am_J 1, am_I a1, am_R 11]) rfl rfl rfl rfl (av_callV (pc := 36) (as := [am_I a1, am_J 1]) (rest := []) C (ct_X4_put l G 11 44 100 sk_11 sk_44 rfl a1 1 S7 S10 hc11) ym_X4_put si_X3_79 im_X4_put se_X4_put sk_11 rfl ⟨Nat.le_of_ble_eq_true rfl, Nat.le_of_ble_eq_true rfl⟩ rfl rfl (Nat.le_of_ble_eq_true rfl) dX3_settleBy_36 ⟨Nat.le_refl _, Nat.le_refl _⟩ (fun hrv => av_eq (st2 := []) rfl rfl rfl rfl ?_))
        refine av_iload_n (pc := 39) (j := 2) C dX3_settleBy_39 rfl rfl ?_
        refine av_iconst (pc := 40) C dX3_settleBy_40 rfl ?_
        refine av_icmp_ne (pc := 41) (tgt := 58) C dX3_settleBy_41 (by decide) (fun hc => ?_) (fun hc => ?_)
        · rw [if_neg hc] at hs
          refine av_iconst (pc := 58) C dX3_settleBy_58 rfl ?_
          refine av_istore (pc := 59) (i := 6) (lv2 := [(6, am_I 0), (0, am_R 1), (1, am_I a1), (2, am_I a2), (3, am_J a3), (5, am_I a4)]) C dX3_settleBy_59 (by decide) rfl ?_
          refine av_iload (pc := 61) (j := 0) C dX3_settleBy_61 rfl ?_
          refine av_if_eq (pc := 63) (tgt := 70) C dX3_settleBy_63 (by decide) (fun hc => ?_) (fun hc => absurd (by decide) hc)
          refine av_iload_n (pc := 70) (j := 3) C dX3_settleBy_70 rfl rfl ?_
          refine av_lvsub (lv2 := [(0, am_R 1), (1, am_I a1), (3, am_J a3), (6, am_I 0)]) [1, 2, 4, 0] rfl ?_
          exact wk_X3_settleBy_71 C hr hlocks a1 a3 0 a2 S10 SZ hs
        · rw [if_pos (Decidable.not_not.mp hc)] at hs
          refine av_lload_n (pc := 44) (j := 3) C dX3_settleBy_44 rfl rfl ?_
          refine av_iconst (pc := 45) C dX3_settleBy_45 rfl ?_
          refine av_iload_n (pc := 46) (j := 1) C dX3_settleBy_46 rfl rfl ?_
          obtain ⟨x13, S12, hc14, hs⟩ := am_b2_of hs
          refine av_eq (st2 := [am_I a1, am_I 1, am_J a3]) rfl rfl rfl rfl (av_callS (pc := 47) (as := [am_I 1, am_I a1]) (rest := [am_J a3]) C (ct_X8_of l G 1 a1 S10 x13 S12 hc14) ym_X8_of si_X3_106 st_X8_of ⟨Nat.le_of_ble_eq_true rfl, Nat.le_of_ble_eq_true rfl⟩ rfl rfl (Nat.le_of_ble_eq_true rfl) dX3_settleBy_47 ⟨Nat.le_refl _, Nat.le_refl _⟩ (fun hrv => av_eq (st2 := [am_J x13, am_J a3]) rfl rfl rfl rfl ?_))
          refine av_lcmp (pc := 50) C dX3_settleBy_50 ?_
          refine av_if_ne (pc := 51) (tgt := 58) C dX3_settleBy_51 (by decide) (fun hc => ?_) (fun hc => ?_)
          · rw [if_neg hc] at hs
            refine av_iconst (pc := 58) C dX3_settleBy_58 rfl ?_
            refine av_istore (pc := 59) (i := 6) (lv2 := [(6, am_I 0), (0, am_R 1), (1, am_I a1), (2, am_I a2), (3, am_J a3), (5, am_I a4)]) C dX3_settleBy_59 (by decide) rfl ?_
            refine av_iload (pc := 61) (j := 0) C dX3_settleBy_61 rfl ?_
            refine av_if_eq (pc := 63) (tgt := 70) C dX3_settleBy_63 (by decide) (fun hc => ?_) (fun hc => absurd (by decide) hc)
            refine av_iload_n (pc := 70) (j := 3) C dX3_settleBy_70 rfl rfl ?_
            refine av_lvsub (lv2 := [(0, am_R 1), (1, am_I a1), (3, am_J a3), (6, am_I 0)]) [1, 2, 4, 0] rfl ?_
            exact wk_X3_settleBy_71 C hr hlocks a1 a3 0 a2 S12 SZ hs
          · rw [if_pos (Decidable.not_not.mp hc)] at hs
            refine av_iconst (pc := 54) C dX3_settleBy_54 rfl ?_
            refine av_goto (pc := 55) (tgt := 59) C dX3_settleBy_55 (by decide) ?_
            refine av_istore (pc := 59) (i := 6) (lv2 := [(6, am_I 1), (0, am_R 1), (1, am_I a1), (2, am_I a2), (3, am_J a3), (5, am_I a4)]) C dX3_settleBy_59 (by decide) rfl ?_
            refine av_iload (pc := 61) (j := 0) C dX3_settleBy_61 rfl ?_
            refine av_if_eq (pc := 63) (tgt := 70) C dX3_settleBy_63 (by decide) (fun hc => absurd hc (by decide)) (fun hc => ?_)
            refine av_iconst (pc := 66) C dX3_settleBy_66 rfl ?_
            refine av_goto (pc := 67) (tgt := 71) C dX3_settleBy_67 (by decide) ?_
            refine av_lvsub (lv2 := [(0, am_R 1), (1, am_I a1), (3, am_J a3), (6, am_I 1)]) [1, 2, 4, 0] rfl ?_
            exact wk_X3_settleBy_71 C hr hlocks a1 a3 1 2 S12 SZ hs
      · rw [if_neg hc] at hs
        obtain rfl := am_inj1 hs
        exact av_vret C hr hlocks dX3_settleBy_29
