def sf_X9_isWithin (a1 : Int) (a2 : Int) (S : am_S) : Option (Int × am_S) := (if a1 < 0 then (some (0, S)) else (if a2 ≤ a1 then (some (0, S)) else (some (1, S))))
set_option maxHeartbeats 4000000 in
set_option maxRecDepth 100000 in
theorem ct_X9_isWithin (l : Launch) (G : am_G) (a1 : Int) (a2 : Int) (S : am_S) (x : Int) (S2 : am_S) (hs : sf_X9_isWithin a1 a2 S = some (x, S2)) : am_met l yX9_isWithin cX9_isWithin 2 (some .boolean) 0 0 G [am_I a1, am_I a2] S (some (am_I x)) S2 := by
  refine am_enter ym_X9_isWithin (Nat.le_of_ble_eq_true rfl) ?_
  intro p e s m args below meth c C hr hlocks
  refine av_eq (lv2 := [(0, am_I a1), (1, am_I a2)]) rfl rfl rfl rfl ?_
  unfold sf_X9_isWithin at hs
  refine av_iload_n (pc := 0) (j := 0) C dX9_isWithin_0 rfl rfl ?_
  refine av_if_lt (pc := 1) (tgt := 13) C dX9_isWithin_1 (by decide) (fun hc => ?_) (fun hc => ?_)
  · rw [if_pos hc] at hs
    refine av_iconst (pc := 13) C dX9_isWithin_13 rfl ?_
    obtain ⟨rfl, rfl⟩ := am_inj2 hs
    exact av_zret C (by decide) hr hlocks dX9_isWithin_14
  · rw [if_neg hc] at hs
    refine av_iload_n (pc := 4) (j := 0) C dX9_isWithin_4 rfl rfl ?_
    refine av_iload_n (pc := 5) (j := 1) C dX9_isWithin_5 rfl rfl ?_
    refine av_icmp_ge (pc := 6) (tgt := 13) C dX9_isWithin_6 (by decide) (fun hc => ?_) (fun hc => ?_)
    · rw [if_pos hc] at hs
      refine av_iconst (pc := 13) C dX9_isWithin_13 rfl ?_
      obtain ⟨rfl, rfl⟩ := am_inj2 hs
      exact av_zret C (by decide) hr hlocks dX9_isWithin_14
    · rw [if_neg hc] at hs
      refine av_iconst (pc := 9) C dX9_isWithin_9 rfl ?_
      refine av_goto (pc := 10) (tgt := 14) C dX9_isWithin_10 (by decide) ?_
      obtain ⟨rfl, rfl⟩ := am_inj2 hs
      exact av_zret C (by decide) hr hlocks dX9_isWithin_14
def sf_X8_exists (a1 : Int) (a2 : Int) (a3 : Int) (S : am_S) : Option (Int × am_S) := (if a1 = 0 then (some (1, S)) else (if a1 = 1 then (am_b2 (sf_X9_isWithin a2 a3 S) (fun x3 S2 => (am_gz x3 (some (x3, S2))))) else (if a1 = 2 then (am_b2 (sf_X9_isWithin a2 4 S) (fun x6 S5 => (am_gz x6 (some (x6, S5))))) else (some (0, S)))))
set_option maxHeartbeats 4000000 in
set_option maxRecDepth 100000 in
theorem ct_X8_exists (l : Launch) (G : am_G) (a1 : Int) (a2 : Int) (a3 : Int) (S : am_S) (x : Int) (S2 : am_S) (hs : sf_X8_exists a1 a2 a3 S = some (x, S2)) : am_met l yX8_exists cX8_exists 3 (some .boolean) 1 21 G [am_I a1, am_I a2, am_I a3] S (some (am_I x)) S2 := by
  refine am_enter ym_X8_exists (Nat.le_of_ble_eq_true rfl) ?_
  intro p e s m args below meth c C hr hlocks
  refine av_eq (lv2 := [(0, am_I a1), (1, am_I a2), (2, am_I a3)]) rfl rfl rfl rfl ?_
  unfold sf_X8_exists at hs
  refine av_iload_n (pc := 0) (j := 0) C dX8_exists_0 rfl rfl ?_
  have hdef1 : (hs : (some (0, S)) = some (x, S2)) → am_V p l e (am_rm 1 21) s m args below meth c (MQ below (am_Q G (some (am_I x)) S2) args s 0 0 (am_A G)) G (am_A G) s.heap 3 0 0 42 [(0, am_I a1), (1, am_I a2), (2, am_I a3)] [] S := by
    intro hs
    refine av_iconst (pc := 42) C dX8_exists_42 rfl ?_
    obtain ⟨rfl, rfl⟩ := am_inj2 hs
    exact av_zret C (by decide) hr hlocks dX8_exists_43
  by_cases hk0 : a1 = 0
  · rw [if_pos hk0] at hs
    refine av_swi (pc := 1) (k := 0) (tgt := 28) C dX8_exists_1 (by rw [hk0]; rfl) (by decide) rfl (by decide) ?_
    refine av_iconst (pc := 28) C dX8_exists_28 rfl ?_
    obtain ⟨rfl, rfl⟩ := am_inj2 hs
    exact av_zret C (by decide) hr hlocks dX8_exists_29
  · rw [if_neg hk0] at hs
    by_cases hk1 : a1 = 1
    · rw [if_pos hk1] at hs
      refine av_swi (pc := 1) (k := 1) (tgt := 30) C dX8_exists_1 (by rw [hk1]; rfl) (by decide) rfl (by decide) ?_
      refine av_iload_n (pc := 30) (j := 1) C dX8_exists_30 rfl rfl ?_
      refine av_iload_n (pc := 31) (j := 2) C dX8_exists_31 rfl rfl ?_
      obtain ⟨x3, S2, hc4, hs⟩ := am_b2_of hs
      refine av_eq (st2 := [am_I a3, am_I a2]) rfl rfl rfl rfl (av_callSN (pc := 32) (as := [am_I a2, am_I a3]) (rest := []) C (ct_X9_isWithin l G a2 a3 S x3 S2 hc4) ym_X9_isWithin si_X8_11 st_X9_isWithin ⟨Nat.le_of_ble_eq_true rfl, Nat.le_of_ble_eq_true rfl⟩ rfl rfl (Nat.le_of_ble_eq_true rfl) dX8_exists_32 ⟨Nat.le_refl _, Nat.le_refl _⟩ (fun hrv => av_eq (st2 := [am_I x3]) rfl rfl rfl rfl ?_))
      obtain ⟨hz, hs⟩ := am_gz_of hs
      obtain ⟨rfl, rfl⟩ := am_inj2 hs
      exact av_zret C hz hr hlocks dX8_exists_35
    · rw [if_neg hk1] at hs
      by_cases hk2 : a1 = 2
      · rw [if_pos hk2] at hs
        refine av_swi (pc := 1) (k := 2) (tgt := 36) C dX8_exists_1 (by rw [hk2]; rfl) (by decide) rfl (by decide) ?_
        refine av_iload_n (pc := 36) (j := 1) C dX8_exists_36 rfl rfl ?_
        refine av_iconst (pc := 37) C dX8_exists_37 rfl ?_
        obtain ⟨x6, S5, hc7, hs⟩ := am_b2_of hs
        refine av_eq (st2 := [am_I 4, am_I a2]) rfl rfl rfl rfl (av_callSN (pc := 38) (as := [am_I a2, am_I 4]) (rest := []) C (ct_X9_isWithin l G a2 4 S x6 S5 hc7) ym_X9_isWithin si_X8_11 st_X9_isWithin ⟨Nat.le_of_ble_eq_true rfl, Nat.le_of_ble_eq_true rfl⟩ rfl rfl (Nat.le_of_ble_eq_true rfl) dX8_exists_38 ⟨Nat.le_refl _, Nat.le_refl _⟩ (fun hrv => av_eq (st2 := [am_I x6]) rfl rfl rfl rfl ?_))
        obtain ⟨hz, hs⟩ := am_gz_of hs
        obtain ⟨rfl, rfl⟩ := am_inj2 hs
        exact av_zret C hz hr hlocks dX8_exists_41
      · rw [if_neg hk2] at hs
        refine av_swo (pc := 1) (tgt := 42) C dX8_exists_1 (by omega) (by decide) ?_
        exact hdef1 hs
def sf_X9_isFunction (a1 : Int) (S : am_S) : Option (Int × am_S) := (am_b2 (sf_X9_isWithin a1 10 S) (fun x2 S1 => (am_gz x2 (some (x2, S1)))))
set_option maxHeartbeats 4000000 in
set_option maxRecDepth 100000 in
theorem ct_X9_isFunction (l : Launch) (G : am_G) (a1 : Int) (S : am_S) (x : Int) (S2 : am_S) (hs : sf_X9_isFunction a1 S = some (x, S2)) : am_met l yX9_isFunction cX9_isFunction 1 (some .boolean) 1 21 G [am_I a1] S (some (am_I x)) S2 := by
  refine am_enter ym_X9_isFunction (Nat.le_of_ble_eq_true rfl) ?_
  intro p e s m args below meth c C hr hlocks
  refine av_eq (lv2 := [(0, am_I a1)]) rfl rfl rfl rfl ?_
  unfold sf_X9_isFunction at hs
  refine av_iload_n (pc := 0) (j := 0) C dX9_isFunction_0 rfl rfl ?_
  refine av_bipush (pc := 1) C dX9_isFunction_1 rfl ?_
  obtain ⟨x2, S1, hc3, hs⟩ := am_b2_of hs
  refine av_eq (st2 := [am_I 10, am_I a1]) rfl rfl rfl rfl (av_callS (pc := 3) (as := [am_I a1, am_I 10]) (rest := []) C (ct_X9_isWithin l G a1 10 S x2 S1 hc3) ym_X9_isWithin si_X9_99 st_X9_isWithin ⟨Nat.le_of_ble_eq_true rfl, Nat.le_of_ble_eq_true rfl⟩ rfl rfl (Nat.le_of_ble_eq_true rfl) dX9_isFunction_3 ⟨Nat.le_refl _, Nat.le_refl _⟩ (fun hrv => av_eq (st2 := [am_I x2]) rfl rfl rfl rfl ?_))
  obtain ⟨hz, hs⟩ := am_gz_of hs
  obtain ⟨rfl, rfl⟩ := am_inj2 hs
  exact av_zret C hz hr hlocks dX9_isFunction_6
def sf_X0_mayBeStep (a1 : Int) (a2 : Int) (a3 : Int) (S : am_S) : Option (Int × am_S) := (if a1 = 2 then (am_b2 (sf_X8_exists a2 a3 100 S) (fun x6 S5 => (am_gz x6 (some (x6, S5))))) else (if a1 = 8 then (am_b2 (sf_X9_isFunction a3 S) (fun x9 S8 => (am_gz x9 (some (x9, S8))))) else (if a1 = 9 then (am_b2 (sf_X9_isWithin a3 100 S) (fun x12 S11 => (am_gz x12 (some (x12, S11))))) else (if a1 = 10 then (am_b2 (sf_X9_isWithin a3 100 S) (fun x15 S14 => (am_gz x15 (some (x15, S14))))) else (if a1 = 11 then (am_b2 (sf_X9_isFunction a3 S) (fun x18 S17 => (am_gz x18 (some (x18, S17))))) else (if a1 = 12 then (am_b2 (sf_X9_isFunction a3 S) (fun x21 S20 => (am_gz x21 (some (x21, S20))))) else (if a1 = 13 then (am_b2 (sf_X9_isWithin a3 11 S) (fun x24 S23 => (am_gz x24 (some (x24, S23))))) else (if a1 = 14 then (am_b2 (sf_X9_isWithin a3 11 S) (fun x27 S26 => (am_gz x27 (some (x27, S26))))) else (am_b2 (sf_X9_isWithin a1 15 S) (fun x3 S2 => (am_gz x3 (some (x3, S2)))))))))))))
set_option maxHeartbeats 4000000 in
set_option maxRecDepth 100000 in
theorem ct_X0_mayBeStep (l : Launch) (G : am_G) (a1 : Int) (a2 : Int) (a3 : Int) (S : am_S) (x : Int) (S2 : am_S) (hs : sf_X0_mayBeStep a1 a2 a3 S = some (x, S2)) : am_met l yX0_mayBeStep cX0_mayBeStep 3 (some .boolean) 2 43 G [am_I a1, am_I a2, am_I a3] S (some (am_I x)) S2 := by
  refine am_enter ym_X0_mayBeStep (Nat.le_of_ble_eq_true rfl) ?_
  intro p e s m args below meth c C hr hlocks
  refine av_eq (lv2 := [(0, am_I a1), (1, am_I a2), (2, am_I a3)]) rfl rfl rfl rfl ?_
  unfold sf_X0_mayBeStep at hs
  refine av_iload_n (pc := 0) (j := 0) C dX0_mayBeStep_0 rfl rfl ?_
  have hdef1 : (hs : (am_b2 (sf_X9_isWithin a1 15 S) (fun x3 S2 => (am_gz x3 (some (x3, S2))))) = some (x, S2)) → am_V p l e (am_rm 2 43) s m args below meth c (MQ below (am_Q G (some (am_I x)) S2) args s 0 0 (am_A G)) G (am_A G) s.heap 3 0 0 95 [(0, am_I a1), (1, am_I a2), (2, am_I a3)] [] S := by
    intro hs
    refine av_iload_n (pc := 95) (j := 0) C dX0_mayBeStep_95 rfl rfl ?_
    refine av_bipush (pc := 96) C dX0_mayBeStep_96 rfl ?_
    obtain ⟨x3, S2, hc4, hs⟩ := am_b2_of hs
    refine av_eq (st2 := [am_I 15, am_I a1]) rfl rfl rfl rfl (av_callSN (pc := 98) (as := [am_I a1, am_I 15]) (rest := []) C (ct_X9_isWithin l G a1 15 S x3 S2 hc4) ym_X9_isWithin si_X0_36 st_X9_isWithin ⟨Nat.le_of_ble_eq_true rfl, Nat.le_of_ble_eq_true rfl⟩ rfl rfl (Nat.le_of_ble_eq_true rfl) dX0_mayBeStep_98 ⟨Nat.le_refl _, Nat.le_refl _⟩ (fun hrv => av_eq (st2 := [am_I x3]) rfl rfl rfl rfl ?_))
    obtain ⟨hz, hs⟩ := am_gz_of hs
    obtain ⟨rfl, rfl⟩ := am_inj2 hs
    exact av_zret C hz hr hlocks dX0_mayBeStep_101
  by_cases hk0 : a1 = 2
  · rw [if_pos hk0] at hs
    refine av_swi (pc := 1) (k := 0) (tgt := 68) C dX0_mayBeStep_1 (by rw [hk0]; rfl) (by decide) rfl (by decide) ?_
    refine av_iload_n (pc := 68) (j := 1) C dX0_mayBeStep_68 rfl rfl ?_
    refine av_iload_n (pc := 69) (j := 2) C dX0_mayBeStep_69 rfl rfl ?_
    refine av_bipush (pc := 70) C dX0_mayBeStep_70 rfl ?_
    obtain ⟨x6, S5, hc7, hs⟩ := am_b2_of hs
    refine av_eq (st2 := [am_I 100, am_I a3, am_I a2]) rfl rfl rfl rfl (av_callS (pc := 72) (as := [am_I a2, am_I a3, am_I 100]) (rest := []) C (ct_X8_exists l G a2 a3 100 S x6 S5 hc7) ym_X8_exists si_X0_26 st_X8_exists ⟨Nat.le_of_ble_eq_true rfl, Nat.le_of_ble_eq_true rfl⟩ rfl rfl (Nat.le_of_ble_eq_true rfl) dX0_mayBeStep_72 ⟨Nat.le_refl _, Nat.le_refl _⟩ (fun hrv => av_eq (st2 := [am_I x6]) rfl rfl rfl rfl ?_))
    obtain ⟨hz, hs⟩ := am_gz_of hs
    obtain ⟨rfl, rfl⟩ := am_inj2 hs
    exact av_zret C hz hr hlocks dX0_mayBeStep_75
  · rw [if_neg hk0] at hs
    by_cases hk1 : a1 = 3
    · refine av_swi (pc := 1) (k := 1) (tgt := 95) C dX0_mayBeStep_1 (by rw [hk1]; rfl) (by decide) rfl (by decide) ?_
      rw [if_neg (show ¬ a1 = 8 by omega)] at hs
      rw [if_neg (show ¬ a1 = 9 by omega)] at hs
      rw [if_neg (show ¬ a1 = 10 by omega)] at hs
      rw [if_neg (show ¬ a1 = 11 by omega)] at hs
      rw [if_neg (show ¬ a1 = 12 by omega)] at hs
      rw [if_neg (show ¬ a1 = 13 by omega)] at hs
      rw [if_neg (show ¬ a1 = 14 by omega)] at hs
      exact hdef1 hs
    · skip
      by_cases hk2 : a1 = 4
      · refine av_swi (pc := 1) (k := 2) (tgt := 95) C dX0_mayBeStep_1 (by rw [hk2]; rfl) (by decide) rfl (by decide) ?_
        rw [if_neg (show ¬ a1 = 8 by omega)] at hs
        rw [if_neg (show ¬ a1 = 9 by omega)] at hs
        rw [if_neg (show ¬ a1 = 10 by omega)] at hs
        rw [if_neg (show ¬ a1 = 11 by omega)] at hs
        rw [if_neg (show ¬ a1 = 12 by omega)] at hs
        rw [if_neg (show ¬ a1 = 13 by omega)] at hs
        rw [if_neg (show ¬ a1 = 14 by omega)] at hs
        exact hdef1 hs
      · skip
        by_cases hk3 : a1 = 5
        · refine av_swi (pc := 1) (k := 3) (tgt := 95) C dX0_mayBeStep_1 (by rw [hk3]; rfl) (by decide) rfl (by decide) ?_
          rw [if_neg (show ¬ a1 = 8 by omega)] at hs
          rw [if_neg (show ¬ a1 = 9 by omega)] at hs
          rw [if_neg (show ¬ a1 = 10 by omega)] at hs
          rw [if_neg (show ¬ a1 = 11 by omega)] at hs
          rw [if_neg (show ¬ a1 = 12 by omega)] at hs
          rw [if_neg (show ¬ a1 = 13 by omega)] at hs
          rw [if_neg (show ¬ a1 = 14 by omega)] at hs
          exact hdef1 hs
        · skip
          by_cases hk4 : a1 = 6
          · refine av_swi (pc := 1) (k := 4) (tgt := 95) C dX0_mayBeStep_1 (by rw [hk4]; rfl) (by decide) rfl (by decide) ?_
            rw [if_neg (show ¬ a1 = 8 by omega)] at hs
            rw [if_neg (show ¬ a1 = 9 by omega)] at hs
            rw [if_neg (show ¬ a1 = 10 by omega)] at hs
            rw [if_neg (show ¬ a1 = 11 by omega)] at hs
            rw [if_neg (show ¬ a1 = 12 by omega)] at hs
            rw [if_neg (show ¬ a1 = 13 by omega)] at hs
            rw [if_neg (show ¬ a1 = 14 by omega)] at hs
            exact hdef1 hs
          · skip
            by_cases hk5 : a1 = 7
            · refine av_swi (pc := 1) (k := 5) (tgt := 95) C dX0_mayBeStep_1 (by rw [hk5]; rfl) (by decide) rfl (by decide) ?_
              rw [if_neg (show ¬ a1 = 8 by omega)] at hs
              rw [if_neg (show ¬ a1 = 9 by omega)] at hs
              rw [if_neg (show ¬ a1 = 10 by omega)] at hs
              rw [if_neg (show ¬ a1 = 11 by omega)] at hs
              rw [if_neg (show ¬ a1 = 12 by omega)] at hs
              rw [if_neg (show ¬ a1 = 13 by omega)] at hs
              rw [if_neg (show ¬ a1 = 14 by omega)] at hs
              exact hdef1 hs
            · skip
              by_cases hk6 : a1 = 8
              · rw [if_pos hk6] at hs
                refine av_swi (pc := 1) (k := 6) (tgt := 76) C dX0_mayBeStep_1 (by rw [hk6]; rfl) (by decide) rfl (by decide) ?_
                refine av_iload_n (pc := 76) (j := 2) C dX0_mayBeStep_76 rfl rfl ?_
                obtain ⟨x9, S8, hc10, hs⟩ := am_b2_of hs
                refine av_eq (st2 := [am_I a3]) rfl rfl rfl rfl (av_callSN (pc := 77) (as := [am_I a3]) (rest := []) C (ct_X9_isFunction l G a3 S x9 S8 hc10) ym_X9_isFunction si_X0_32 st_X9_isFunction ⟨Nat.le_of_ble_eq_true rfl, Nat.le_of_ble_eq_true rfl⟩ rfl rfl (Nat.le_of_ble_eq_true rfl) dX0_mayBeStep_77 ⟨Nat.le_refl _, Nat.le_refl _⟩ (fun hrv => av_eq (st2 := [am_I x9]) rfl rfl rfl rfl ?_))
                obtain ⟨hz, hs⟩ := am_gz_of hs
                obtain ⟨rfl, rfl⟩ := am_inj2 hs
                exact av_zret C hz hr hlocks dX0_mayBeStep_80
              · rw [if_neg hk6] at hs
                by_cases hk7 : a1 = 9
                · rw [if_pos hk7] at hs
                  refine av_swi (pc := 1) (k := 7) (tgt := 88) C dX0_mayBeStep_1 (by rw [hk7]; rfl) (by decide) rfl (by decide) ?_
                  refine av_iload_n (pc := 88) (j := 2) C dX0_mayBeStep_88 rfl rfl ?_
                  refine av_bipush (pc := 89) C dX0_mayBeStep_89 rfl ?_
                  obtain ⟨x12, S11, hc13, hs⟩ := am_b2_of hs
                  refine av_eq (st2 := [am_I 100, am_I a3]) rfl rfl rfl rfl (av_callSN (pc := 91) (as := [am_I a3, am_I 100]) (rest := []) C (ct_X9_isWithin l G a3 100 S x12 S11 hc13) ym_X9_isWithin si_X0_36 st_X9_isWithin ⟨Nat.le_of_ble_eq_true rfl, Nat.le_of_ble_eq_true rfl⟩ rfl rfl (Nat.le_of_ble_eq_true rfl) dX0_mayBeStep_91 ⟨Nat.le_refl _, Nat.le_refl _⟩ (fun hrv => av_eq (st2 := [am_I x12]) rfl rfl rfl rfl ?_))
                  obtain ⟨hz, hs⟩ := am_gz_of hs
                  obtain ⟨rfl, rfl⟩ := am_inj2 hs
                  exact av_zret C hz hr hlocks dX0_mayBeStep_94
                · rw [if_neg hk7] at hs
                  by_cases hk8 : a1 = 10
                  · rw [if_pos hk8] at hs
                    refine av_swi (pc := 1) (k := 8) (tgt := 88) C dX0_mayBeStep_1 (by rw [hk8]; rfl) (by decide) rfl (by decide) ?_
                    refine av_iload_n (pc := 88) (j := 2) C dX0_mayBeStep_88 rfl rfl ?_
                    refine av_bipush (pc := 89) C dX0_mayBeStep_89 rfl ?_
                    obtain ⟨x15, S14, hc16, hs⟩ := am_b2_of hs
                    refine av_eq (st2 := [am_I 100, am_I a3]) rfl rfl rfl rfl (av_callSN (pc := 91) (as := [am_I a3, am_I 100]) (rest := []) C (ct_X9_isWithin l G a3 100 S x15 S14 hc16) ym_X9_isWithin si_X0_36 st_X9_isWithin ⟨Nat.le_of_ble_eq_true rfl, Nat.le_of_ble_eq_true rfl⟩ rfl rfl (Nat.le_of_ble_eq_true rfl) dX0_mayBeStep_91 ⟨Nat.le_refl _, Nat.le_refl _⟩ (fun hrv => av_eq (st2 := [am_I x15]) rfl rfl rfl rfl ?_))
                    obtain ⟨hz, hs⟩ := am_gz_of hs
                    obtain ⟨rfl, rfl⟩ := am_inj2 hs
                    exact av_zret C hz hr hlocks dX0_mayBeStep_94
                  · rw [if_neg hk8] at hs
                    by_cases hk9 : a1 = 11
                    · rw [if_pos hk9] at hs
                      refine av_swi (pc := 1) (k := 9) (tgt := 76) C dX0_mayBeStep_1 (by rw [hk9]; rfl) (by decide) rfl (by decide) ?_
                      refine av_iload_n (pc := 76) (j := 2) C dX0_mayBeStep_76 rfl rfl ?_
                      obtain ⟨x18, S17, hc19, hs⟩ := am_b2_of hs
                      refine av_eq (st2 := [am_I a3]) rfl rfl rfl rfl (av_callSN (pc := 77) (as := [am_I a3]) (rest := []) C (ct_X9_isFunction l G a3 S x18 S17 hc19) ym_X9_isFunction si_X0_32 st_X9_isFunction ⟨Nat.le_of_ble_eq_true rfl, Nat.le_of_ble_eq_true rfl⟩ rfl rfl (Nat.le_of_ble_eq_true rfl) dX0_mayBeStep_77 ⟨Nat.le_refl _, Nat.le_refl _⟩ (fun hrv => av_eq (st2 := [am_I x18]) rfl rfl rfl rfl ?_))
                      obtain ⟨hz, hs⟩ := am_gz_of hs
                      obtain ⟨rfl, rfl⟩ := am_inj2 hs
                      exact av_zret C hz hr hlocks dX0_mayBeStep_80
                    · rw [if_neg hk9] at hs
                      by_cases hk10 : a1 = 12
                      · rw [if_pos hk10] at hs
                        refine av_swi (pc := 1) (k := 10) (tgt := 76) C dX0_mayBeStep_1 (by rw [hk10]; rfl) (by decide) rfl (by decide) ?_
                        refine av_iload_n (pc := 76) (j := 2) C dX0_mayBeStep_76 rfl rfl ?_
                        obtain ⟨x21, S20, hc22, hs⟩ := am_b2_of hs
                        refine av_eq (st2 := [am_I a3]) rfl rfl rfl rfl (av_callSN (pc := 77) (as := [am_I a3]) (rest := []) C (ct_X9_isFunction l G a3 S x21 S20 hc22) ym_X9_isFunction si_X0_32 st_X9_isFunction ⟨Nat.le_of_ble_eq_true rfl, Nat.le_of_ble_eq_true rfl⟩ rfl rfl (Nat.le_of_ble_eq_true rfl) dX0_mayBeStep_77 ⟨Nat.le_refl _, Nat.le_refl _⟩ (fun hrv => av_eq (st2 := [am_I x21]) rfl rfl rfl rfl ?_))
                        obtain ⟨hz, hs⟩ := am_gz_of hs
                        obtain ⟨rfl, rfl⟩ := am_inj2 hs
                        exact av_zret C hz hr hlocks dX0_mayBeStep_80
                      · rw [if_neg hk10] at hs
                        by_cases hk11 : a1 = 13
                        · rw [if_pos hk11] at hs
                          refine av_swi (pc := 1) (k := 11) (tgt := 81) C dX0_mayBeStep_1 (by rw [hk11]; rfl) (by decide) rfl (by decide) ?_
                          refine av_iload_n (pc := 81) (j := 2) C dX0_mayBeStep_81 rfl rfl ?_
                          refine av_bipush (pc := 82) C dX0_mayBeStep_82 rfl ?_
                          obtain ⟨x24, S23, hc25, hs⟩ := am_b2_of hs
                          refine av_eq (st2 := [am_I 11, am_I a3]) rfl rfl rfl rfl (av_callSN (pc := 84) (as := [am_I a3, am_I 11]) (rest := []) C (ct_X9_isWithin l G a3 11 S x24 S23 hc25) ym_X9_isWithin si_X0_36 st_X9_isWithin ⟨Nat.le_of_ble_eq_true rfl, Nat.le_of_ble_eq_true rfl⟩ rfl rfl (Nat.le_of_ble_eq_true rfl) dX0_mayBeStep_84 ⟨Nat.le_refl _, Nat.le_refl _⟩ (fun hrv => av_eq (st2 := [am_I x24]) rfl rfl rfl rfl ?_))
                          obtain ⟨hz, hs⟩ := am_gz_of hs
                          obtain ⟨rfl, rfl⟩ := am_inj2 hs
                          exact av_zret C hz hr hlocks dX0_mayBeStep_87
                        · rw [if_neg hk11] at hs
                          by_cases hk12 : a1 = 14
                          · rw [if_pos hk12] at hs
                            refine av_swi (pc := 1) (k := 12) (tgt := 81) C dX0_mayBeStep_1 (by rw [hk12]; rfl) (by decide) rfl (by decide) ?_
                            refine av_iload_n (pc := 81) (j := 2) C dX0_mayBeStep_81 rfl rfl ?_
                            refine av_bipush (pc := 82) C dX0_mayBeStep_82 rfl ?_
                            obtain ⟨x27, S26, hc28, hs⟩ := am_b2_of hs
                            refine av_eq (st2 := [am_I 11, am_I a3]) rfl rfl rfl rfl (av_callSN (pc := 84) (as := [am_I a3, am_I 11]) (rest := []) C (ct_X9_isWithin l G a3 11 S x27 S26 hc28) ym_X9_isWithin si_X0_36 st_X9_isWithin ⟨Nat.le_of_ble_eq_true rfl, Nat.le_of_ble_eq_true rfl⟩ rfl rfl (Nat.le_of_ble_eq_true rfl) dX0_mayBeStep_84 ⟨Nat.le_refl _, Nat.le_refl _⟩ (fun hrv => av_eq (st2 := [am_I x27]) rfl rfl rfl rfl ?_))
                            obtain ⟨hz, hs⟩ := am_gz_of hs
                            obtain ⟨rfl, rfl⟩ := am_inj2 hs
                            exact av_zret C hz hr hlocks dX0_mayBeStep_87
                          · rw [if_neg hk12] at hs
                            refine av_swo (pc := 1) (tgt := 95) C dX0_mayBeStep_1 (by omega) (by decide) ?_
                            exact hdef1 hs
def sf_X4_at (a n : Nat) (a1 : Int) (S : am_S) : Option (Int × am_S) := (if a1 < 0 then (some (0, S)) else (if (n : Int) ≤ a1 then (some (0, S)) else (am_gd a1 n (some ((am_w32 (S.2 a (Int.toNat a1))), S)))))
set_option maxHeartbeats 4000000 in
set_option maxRecDepth 100000 in
theorem ct_X4_at (l : Launch) (G : am_G) (o a n : Nat) (hk : am_sk[o]? = some (.inl (4, [some a]))) (ha : am_sk[a]? = some (.inr (2, n))) (hrn : am_rok (n : Int) = true) (a1 : Int) (S : am_S) (x : Int) (S2 : am_S) (hs : sf_X4_at a n a1 S = some (x, S2)) : am_met l yX4_at cX4_at 2 (some .int) 0 0 G [am_R o, am_I a1] S (some (am_I x)) S2 := by
  refine am_enter ym_X4_at (Nat.le_of_ble_eq_true rfl) ?_
  intro p e s m args below meth c C hr hlocks
  refine av_eq (lv2 := [(0, am_R o), (1, am_I a1)]) rfl rfl rfl rfl ?_
  unfold sf_X4_at at hs
  refine av_iload_n (pc := 0) (j := 1) C dX4_at_0 rfl rfl ?_
  refine av_if_lt (pc := 1) (tgt := 23) C dX4_at_1 (by decide) (fun hc => ?_) (fun hc => ?_)
  · rw [if_pos hc] at hs
    refine av_iconst (pc := 23) C dX4_at_23 rfl ?_
    obtain ⟨rfl, rfl⟩ := am_inj2 hs
    exact av_iret C hr hlocks dX4_at_24
  · rw [if_neg hc] at hs
    refine av_iload_n (pc := 4) (j := 1) C dX4_at_4 rfl rfl ?_
    refine av_aload_n (pc := 5) (j := 0) C dX4_at_5 rfl rfl ?_
    refine av_getR (pc := 6) (k := 0) (r := a) (fl := [some a]) C fl_X4_7 hk rfl dX4_at_6 ?_
    refine av_alen (pc := 9) C ha (by decide) hrn dX4_at_9 ?_
    refine av_icmp_ge (pc := 10) (tgt := 23) C dX4_at_10 (by decide) (fun hc => ?_) (fun hc => ?_)
    · rw [if_pos hc] at hs
      refine av_iconst (pc := 23) C dX4_at_23 rfl ?_
      obtain ⟨rfl, rfl⟩ := am_inj2 hs
      exact av_iret C hr hlocks dX4_at_24
    · rw [if_neg hc] at hs
      refine av_aload_n (pc := 13) (j := 0) C dX4_at_13 rfl rfl ?_
      refine av_getR (pc := 14) (k := 0) (r := a) (fl := [some a]) C fl_X4_7 hk rfl dX4_at_14 ?_
      refine av_iload_n (pc := 17) (j := 1) C dX4_at_17 rfl rfl ?_
      obtain ⟨hb, hs⟩ := am_gd_of hs
      refine av_lald (pc := 18) C ha hb dX4_at_18 ?_
      refine av_l2i (pc := 19) C dX4_at_19 ?_
      refine av_goto (pc := 20) (tgt := 24) C dX4_at_20 (by decide) ?_
      obtain ⟨rfl, rfl⟩ := am_inj2 hs
      exact av_iret C hr hlocks dX4_at_24
def sf_X0_isFull (a1 : Int) (S : am_S) : Option (Int × am_S) := (am_b2 (sf_X4_at 55 10 a1 S) (fun x2 S1 => (if x2 < 10 then (some (0, S1)) else (some (1, S1)))))
set_option maxHeartbeats 4000000 in
set_option maxRecDepth 100000 in
theorem ct_X0_isFull (l : Launch) (G : am_G) (a1 : Int) (S : am_S) (x : Int) (S2 : am_S) (hs : sf_X0_isFull a1 S = some (x, S2)) : am_met l yX0_isFull cX0_isFull 2 (some .boolean) 1 21 G [am_R 3, am_I a1] S (some (am_I x)) S2 := by
  refine am_enter ym_X0_isFull (Nat.le_of_ble_eq_true rfl) ?_
  intro p e s m args below meth c C hr hlocks
  refine av_eq (lv2 := [(0, am_R 3), (1, am_I a1)]) rfl rfl rfl rfl ?_
  unfold sf_X0_isFull at hs
  refine av_aload_n (pc := 0) (j := 0) C dX0_isFull_0 rfl rfl ?_
  refine av_getR (pc := 1) (k := 0) (r := 22) C fl_X0_14 sk_3 rfl dX0_isFull_1 ?_
  refine av_iload_n (pc := 4) (j := 1) C dX0_isFull_4 rfl rfl ?_
  obtain ⟨x2, S1, hc3, hs⟩ := am_b2_of hs
  refine av_eq (st2 := [am_I a1, am_R 22]) rfl rfl rfl rfl (av_callV (pc := 5) (as := [am_I a1]) (rest := []) C (ct_X4_at l G 22 55 10 sk_22 sk_55 rfl a1 S x2 S1 hc3) ym_X4_at si_X0_40 im_X4_at se_X4_at sk_22 rfl ⟨Nat.le_of_ble_eq_true rfl, Nat.le_of_ble_eq_true rfl⟩ rfl rfl (Nat.le_of_ble_eq_true rfl) dX0_isFull_5 ⟨Nat.le_refl _, Nat.le_refl _⟩ (fun hrv => av_eq (st2 := [am_I x2]) rfl rfl rfl rfl ?_))
  refine av_bipush (pc := 8) C dX0_isFull_8 rfl ?_
  refine av_icmp_lt (pc := 10) (tgt := 17) C dX0_isFull_10 (by decide) (fun hc => ?_) (fun hc => ?_)
  · rw [if_pos hc] at hs
    refine av_iconst (pc := 17) C dX0_isFull_17 rfl ?_
    obtain ⟨rfl, rfl⟩ := am_inj2 hs
    exact av_zret C (by decide) hr hlocks dX0_isFull_18
  · rw [if_neg hc] at hs
    refine av_iconst (pc := 13) C dX0_isFull_13 rfl ?_
    refine av_goto (pc := 14) (tgt := 18) C dX0_isFull_14 (by decide) ?_
    obtain ⟨rfl, rfl⟩ := am_inj2 hs
    exact av_zret C (by decide) hr hlocks dX0_isFull_18
def sf_X4_put (a n : Nat) (a1 : Int) (a2 : Int) (S : am_S) : Option (am_S) := (if a1 < 0 then (some S) else (if (n : Int) ≤ a1 then (some S) else (am_gd a1 n (am_let (am_sA S a (Int.toNat a1) a2) (fun S1 => (some S1))))))
set_option maxHeartbeats 4000000 in
set_option maxRecDepth 100000 in
theorem ct_X4_put (l : Launch) (G : am_G) (o a n : Nat) (hk : am_sk[o]? = some (.inl (4, [some a]))) (ha : am_sk[a]? = some (.inr (2, n))) (hrn : am_rok (n : Int) = true) (a1 : Int) (a2 : Int) (S : am_S) (S2 : am_S) (hs : sf_X4_put a n a1 a2 S = some S2) : am_met l yX4_put cX4_put 4 none 0 0 G [am_R o, am_I a1, am_J a2] S none S2 := by
  refine am_enter ym_X4_put (Nat.le_of_ble_eq_true rfl) ?_
  intro p e s m args below meth c C hr hlocks
  refine av_eq (lv2 := [(0, am_R o), (1, am_I a1), (2, am_J a2)]) rfl rfl rfl rfl ?_
  unfold sf_X4_put at hs
  refine av_iload_n (pc := 0) (j := 1) C dX4_put_0 rfl rfl ?_
  refine av_if_lt (pc := 1) (tgt := 20) C dX4_put_1 (by decide) (fun hc => ?_) (fun hc => ?_)
  · rw [if_pos hc] at hs
    obtain rfl := am_inj1 hs
    exact av_vret C hr hlocks dX4_put_20
  · rw [if_neg hc] at hs
    refine av_iload_n (pc := 4) (j := 1) C dX4_put_4 rfl rfl ?_
    refine av_aload_n (pc := 5) (j := 0) C dX4_put_5 rfl rfl ?_
    refine av_getR (pc := 6) (k := 0) (r := a) (fl := [some a]) C fl_X4_7 hk rfl dX4_put_6 ?_
    refine av_alen (pc := 9) C ha (by decide) hrn dX4_put_9 ?_
    refine av_icmp_ge (pc := 10) (tgt := 20) C dX4_put_10 (by decide) (fun hc => ?_) (fun hc => ?_)
    · rw [if_pos hc] at hs
      obtain rfl := am_inj1 hs
      exact av_vret C hr hlocks dX4_put_20
    · rw [if_neg hc] at hs
      refine av_aload_n (pc := 13) (j := 0) C dX4_put_13 rfl rfl ?_
      refine av_getR (pc := 14) (k := 0) (r := a) (fl := [some a]) C fl_X4_7 hk rfl dX4_put_14 ?_
      refine av_iload_n (pc := 17) (j := 1) C dX4_put_17 rfl rfl ?_
      refine av_lload_n (pc := 18) (j := 2) C dX4_put_18 rfl rfl ?_
      obtain ⟨hb, hs⟩ := am_gd_of hs
      obtain ⟨S1, eS1, hs⟩ := am_let_of hs
      refine av_last (pc := 19) C ha hb dX4_put_19 ?_
      refine av_eq rfl rfl rfl eS1 ?_
      obtain rfl := am_inj1 hs
      exact av_vret C hr hlocks dX4_put_20
def sf_X0_add (a1 : Int) (a2 : Int) (a3 : Int) (S : am_S) : Option (Int × am_S) := (am_b2 (sf_X4_at 55 10 a1 S) (fun x2 S1 => (am_b1 (sf_X4_put 56 100 (am_w32 ((am_w32 (a1 * 10)) + x2)) a2 S1) (fun S4 => (am_b1 (sf_X4_put 57 100 (am_w32 ((am_w32 (a1 * 10)) + x2)) a3 S4) (fun S6 => (am_b1 (sf_X4_put 55 10 a1 (am_w32 (x2 + 1)) S6) (fun S8 => (some ((am_w32 (x2 + 1)), S8))))))))))
set_option maxHeartbeats 4000000 in
set_option maxRecDepth 100000 in
theorem ct_X0_add (l : Launch) (G : am_G) (a1 : Int) (a2 : Int) (a3 : Int) (S : am_S) (x : Int) (S2 : am_S) (hs : sf_X0_add a1 a2 a3 S = some (x, S2)) : am_met l yX0_add cX0_add 6 (some .int) 1 23 G [am_R 3, am_I a1, am_I a2, am_J a3] S (some (am_I x)) S2 := by
  refine am_enter ym_X0_add (Nat.le_of_ble_eq_true rfl) ?_
  intro p e s m args below meth c C hr hlocks
  refine av_eq (lv2 := [(0, am_R 3), (1, am_I a1), (2, am_I a2), (3, am_J a3)]) rfl rfl rfl rfl ?_
  unfold sf_X0_add at hs
  refine av_aload_n (pc := 0) (j := 0) C dX0_add_0 rfl rfl ?_
  refine av_getR (pc := 1) (k := 0) (r := 22) C fl_X0_14 sk_3 rfl dX0_add_1 ?_
  refine av_iload_n (pc := 4) (j := 1) C dX0_add_4 rfl rfl ?_
  obtain ⟨x2, S1, hc3, hs⟩ := am_b2_of hs
  refine av_eq (st2 := [am_I a1, am_R 22]) rfl rfl rfl rfl (av_callV (pc := 5) (as := [am_I a1]) (rest := []) C (ct_X4_at l G 22 55 10 sk_22 sk_55 rfl a1 S x2 S1 hc3) ym_X4_at si_X0_40 im_X4_at se_X4_at sk_22 rfl ⟨Nat.le_of_ble_eq_true rfl, Nat.le_of_ble_eq_true rfl⟩ rfl rfl (Nat.le_of_ble_eq_true rfl) dX0_add_5 ⟨Nat.le_refl _, Nat.le_refl _⟩ (fun hrv => av_eq (st2 := [am_I x2]) rfl rfl rfl rfl ?_))
  refine av_istore (pc := 8) (i := 5) (lv2 := [(5, am_I x2), (0, am_R 3), (1, am_I a1), (2, am_I a2), (3, am_J a3)]) C dX0_add_8 (by decide) rfl ?_
  refine av_aload_n (pc := 10) (j := 1) C dX0_add_10 rfl rfl ?_
  refine av_getR (pc := 11) (k := 1) (r := 23) C fl_X0_20 sk_3 rfl dX0_add_11 ?_
  refine av_iload_n (pc := 14) (j := 2) C dX0_add_14 rfl rfl ?_
  refine av_bipush (pc := 15) C dX0_add_15 rfl ?_
  refine av_imul (pc := 17) C dX0_add_17 ?_
  refine av_iload (pc := 18) (j := 0) C dX0_add_18 rfl ?_
  refine av_iadd (pc := 20) C dX0_add_20 ?_
  refine av_iload_n (pc := 21) (j := 3) C dX0_add_21 rfl rfl ?_
  refine av_i2l (pc := 22) C dX0_add_22 ?_
  obtain ⟨S4, hc5, hs⟩ := am_b1_of hs
  refine av_eq (st2 := [am_J a2, am_I (am_w32 ((am_w32 (a1 * 10)) + x2)), am_R 23]) rfl rfl rfl rfl (av_callV (pc := 23) (as := [am_I (am_w32 ((am_w32 (a1 * 10)) + x2)), am_J a2]) (rest := []) C (ct_X4_put l G 23 56 100 sk_23 sk_56 rfl (am_w32 ((am_w32 (a1 * 10)) + x2)) a2 S1 S4 hc5) ym_X4_put si_X0_44 im_X4_put se_X4_put sk_23 rfl ⟨Nat.le_of_ble_eq_true rfl, Nat.le_of_ble_eq_true rfl⟩ rfl rfl (Nat.le_of_ble_eq_true rfl) dX0_add_23 ⟨Nat.le_refl _, Nat.le_refl _⟩ (fun hrv => av_eq (st2 := []) rfl rfl rfl rfl ?_))
  refine av_aload_n (pc := 26) (j := 1) C dX0_add_26 rfl rfl ?_
  refine av_getR (pc := 27) (k := 2) (r := 24) C fl_X0_23 sk_3 rfl dX0_add_27 ?_
  refine av_iload_n (pc := 30) (j := 2) C dX0_add_30 rfl rfl ?_
  refine av_bipush (pc := 31) C dX0_add_31 rfl ?_
  refine av_imul (pc := 33) C dX0_add_33 ?_
  refine av_iload (pc := 34) (j := 0) C dX0_add_34 rfl ?_
  refine av_iadd (pc := 36) C dX0_add_36 ?_
  refine av_lload_n (pc := 37) (j := 4) C dX0_add_37 rfl rfl ?_
  obtain ⟨S6, hc7, hs⟩ := am_b1_of hs
  refine av_eq (st2 := [am_J a3, am_I (am_w32 ((am_w32 (a1 * 10)) + x2)), am_R 24]) rfl rfl rfl rfl (av_callV (pc := 38) (as := [am_I (am_w32 ((am_w32 (a1 * 10)) + x2)), am_J a3]) (rest := []) C (ct_X4_put l G 24 57 100 sk_24 sk_57 rfl (am_w32 ((am_w32 (a1 * 10)) + x2)) a3 S4 S6 hc7) ym_X4_put si_X0_44 im_X4_put se_X4_put sk_24 rfl ⟨Nat.le_of_ble_eq_true rfl, Nat.le_of_ble_eq_true rfl⟩ rfl rfl (Nat.le_of_ble_eq_true rfl) dX0_add_38 ⟨Nat.le_refl _, Nat.le_refl _⟩ (fun hrv => av_eq (st2 := []) rfl rfl rfl rfl ?_))
  refine av_aload_n (pc := 41) (j := 1) C dX0_add_41 rfl rfl ?_
  refine av_getR (pc := 42) (k := 0) (r := 22) C fl_X0_14 sk_3 rfl dX0_add_42 ?_
  refine av_iload_n (pc := 45) (j := 2) C dX0_add_45 rfl rfl ?_
  refine av_iload (pc := 46) (j := 0) C dX0_add_46 rfl ?_
  refine av_iconst (pc := 48) C dX0_add_48 rfl ?_
  refine av_iadd (pc := 49) C dX0_add_49 ?_
  refine av_i2l (pc := 50) C dX0_add_50 ?_
  obtain ⟨S8, hc9, hs⟩ := am_b1_of hs
  refine av_eq (st2 := [am_J (am_w32 (x2 + 1)), am_I a1, am_R 22]) rfl rfl rfl rfl (av_callV (pc := 51) (as := [am_I a1, am_J (am_w32 (x2 + 1))]) (rest := []) C (ct_X4_put l G 22 55 10 sk_22 sk_55 rfl a1 (am_w32 (x2 + 1)) S6 S8 hc9) ym_X4_put si_X0_44 im_X4_put se_X4_put sk_22 rfl ⟨Nat.le_of_ble_eq_true rfl, Nat.le_of_ble_eq_true rfl⟩ rfl rfl (Nat.le_of_ble_eq_true rfl) dX0_add_51 ⟨Nat.le_refl _, Nat.le_refl _⟩ (fun hrv => av_eq (st2 := []) rfl rfl rfl rfl ?_))
  refine av_iload (pc := 54) (j := 0) C dX0_add_54 rfl ?_
  refine av_iconst (pc := 56) C dX0_add_56 rfl ?_
  refine av_iadd (pc := 57) C dX0_add_57 ?_
  obtain ⟨rfl, rfl⟩ := am_inj2 hs
  exact av_iret C hr hlocks dX0_add_58
def sf_X0_removeAll (a1 : Int) (S : am_S) : Option (Int × am_S) := (am_b2 (sf_X4_at 55 10 a1 S) (fun x2 S1 => (am_b1 (sf_X4_put 55 10 a1 0 S1) (fun S4 => (some (x2, S4))))))
set_option maxHeartbeats 4000000 in
set_option maxRecDepth 100000 in
theorem ct_X0_removeAll (l : Launch) (G : am_G) (a1 : Int) (S : am_S) (x : Int) (S2 : am_S) (hs : sf_X0_removeAll a1 S = some (x, S2)) : am_met l yX0_removeAll cX0_removeAll 3 (some .int) 1 23 G [am_R 3, am_I a1] S (some (am_I x)) S2 := by
  refine am_enter ym_X0_removeAll (Nat.le_of_ble_eq_true rfl) ?_
  intro p e s m args below meth c C hr hlocks
  refine av_eq (lv2 := [(0, am_R 3), (1, am_I a1)]) rfl rfl rfl rfl ?_
  unfold sf_X0_removeAll at hs
  refine av_aload_n (pc := 0) (j := 0) C dX0_removeAll_0 rfl rfl ?_
  refine av_getR (pc := 1) (k := 0) (r := 22) C fl_X0_14 sk_3 rfl dX0_removeAll_1 ?_
  refine av_iload_n (pc := 4) (j := 1) C dX0_removeAll_4 rfl rfl ?_
  obtain ⟨x2, S1, hc3, hs⟩ := am_b2_of hs
  refine av_eq (st2 := [am_I a1, am_R 22]) rfl rfl rfl rfl (av_callV (pc := 5) (as := [am_I a1]) (rest := []) C (ct_X4_at l G 22 55 10 sk_22 sk_55 rfl a1 S x2 S1 hc3) ym_X4_at si_X0_40 im_X4_at se_X4_at sk_22 rfl ⟨Nat.le_of_ble_eq_true rfl, Nat.le_of_ble_eq_true rfl⟩ rfl rfl (Nat.le_of_ble_eq_true rfl) dX0_removeAll_5 ⟨Nat.le_refl _, Nat.le_refl _⟩ (fun hrv => av_eq (st2 := [am_I x2]) rfl rfl rfl rfl ?_))
  refine av_istore_n (pc := 8) (i := 2) (lv2 := [(2, am_I x2), (0, am_R 3), (1, am_I a1)]) C dX0_removeAll_8 rfl (by decide) rfl ?_
  refine av_aload_n (pc := 9) (j := 1) C dX0_removeAll_9 rfl rfl ?_
  refine av_getR (pc := 10) (k := 0) (r := 22) C fl_X0_14 sk_3 rfl dX0_removeAll_10 ?_
  refine av_iload_n (pc := 13) (j := 2) C dX0_removeAll_13 rfl rfl ?_
  refine av_lconst (pc := 14) (x := 0) C dX0_removeAll_14 rfl rfl ?_
  obtain ⟨S4, hc5, hs⟩ := am_b1_of hs
  refine av_eq (st2 := [am_J 0, am_I a1, am_R 22]) rfl rfl rfl rfl (av_callV (pc := 15) (as := [am_I a1, am_J 0]) (rest := []) C (ct_X4_put l G 22 55 10 sk_22 sk_55 rfl a1 0 S1 S4 hc5) ym_X4_put si_X0_44 im_X4_put se_X4_put sk_22 rfl ⟨Nat.le_of_ble_eq_true rfl, Nat.le_of_ble_eq_true rfl⟩ rfl rfl (Nat.le_of_ble_eq_true rfl) dX0_removeAll_15 ⟨Nat.le_refl _, Nat.le_refl _⟩ (fun hrv => av_eq (st2 := []) rfl rfl rfl rfl ?_))
  refine av_iload_n (pc := 18) (j := 0) C dX0_removeAll_18 rfl rfl ?_
  obtain ⟨rfl, rfl⟩ := am_inj2 hs
  exact av_iret C hr hlocks dX0_removeAll_19
def sf_X0_sizeOf (a1 : Int) (S : am_S) : Option (Int × am_S) := (am_b2 (sf_X4_at 55 10 a1 S) (fun x2 S1 => (some (x2, S1))))
set_option maxHeartbeats 4000000 in
set_option maxRecDepth 100000 in
theorem ct_X0_sizeOf (l : Launch) (G : am_G) (a1 : Int) (S : am_S) (x : Int) (S2 : am_S) (hs : sf_X0_sizeOf a1 S = some (x, S2)) : am_met l yX0_sizeOf cX0_sizeOf 2 (some .int) 1 21 G [am_R 3, am_I a1] S (some (am_I x)) S2 := by
  refine am_enter ym_X0_sizeOf (Nat.le_of_ble_eq_true rfl) ?_
  intro p e s m args below meth c C hr hlocks
  refine av_eq (lv2 := [(0, am_R 3), (1, am_I a1)]) rfl rfl rfl rfl ?_
  unfold sf_X0_sizeOf at hs
  refine av_aload_n (pc := 0) (j := 0) C dX0_sizeOf_0 rfl rfl ?_
  refine av_getR (pc := 1) (k := 0) (r := 22) C fl_X0_14 sk_3 rfl dX0_sizeOf_1 ?_
  refine av_iload_n (pc := 4) (j := 1) C dX0_sizeOf_4 rfl rfl ?_
  obtain ⟨x2, S1, hc3, hs⟩ := am_b2_of hs
  refine av_eq (st2 := [am_I a1, am_R 22]) rfl rfl rfl rfl (av_callV (pc := 5) (as := [am_I a1]) (rest := []) C (ct_X4_at l G 22 55 10 sk_22 sk_55 rfl a1 S x2 S1 hc3) ym_X4_at si_X0_40 im_X4_at se_X4_at sk_22 rfl ⟨Nat.le_of_ble_eq_true rfl, Nat.le_of_ble_eq_true rfl⟩ rfl rfl (Nat.le_of_ble_eq_true rfl) dX0_sizeOf_5 ⟨Nat.le_refl _, Nat.le_refl _⟩ (fun hrv => av_eq (st2 := [am_I x2]) rfl rfl rfl rfl ?_))
  obtain ⟨rfl, rfl⟩ := am_inj2 hs
  exact av_iret C hr hlocks dX0_sizeOf_8
def sf_X0_kindOf (a1 : Int) (a2 : Int) (S : am_S) : Option (Int × am_S) := (am_b2 (sf_X4_at 56 100 (am_w32 ((am_w32 (a1 * 10)) + a2)) S) (fun x2 S1 => (some (x2, S1))))
set_option maxHeartbeats 4000000 in
set_option maxRecDepth 100000 in
theorem ct_X0_kindOf (l : Launch) (G : am_G) (a1 : Int) (a2 : Int) (S : am_S) (x : Int) (S2 : am_S) (hs : sf_X0_kindOf a1 a2 S = some (x, S2)) : am_met l yX0_kindOf cX0_kindOf 3 (some .int) 1 21 G [am_R 3, am_I a1, am_I a2] S (some (am_I x)) S2 := by
  refine am_enter ym_X0_kindOf (Nat.le_of_ble_eq_true rfl) ?_
  intro p e s m args below meth c C hr hlocks
  refine av_eq (lv2 := [(0, am_R 3), (1, am_I a1), (2, am_I a2)]) rfl rfl rfl rfl ?_
  unfold sf_X0_kindOf at hs
  refine av_aload_n (pc := 0) (j := 0) C dX0_kindOf_0 rfl rfl ?_
  refine av_getR (pc := 1) (k := 1) (r := 23) C fl_X0_20 sk_3 rfl dX0_kindOf_1 ?_
  refine av_iload_n (pc := 4) (j := 1) C dX0_kindOf_4 rfl rfl ?_
  refine av_bipush (pc := 5) C dX0_kindOf_5 rfl ?_
  refine av_imul (pc := 7) C dX0_kindOf_7 ?_
  refine av_iload_n (pc := 8) (j := 2) C dX0_kindOf_8 rfl rfl ?_
  refine av_iadd (pc := 9) C dX0_kindOf_9 ?_
  obtain ⟨x2, S1, hc3, hs⟩ := am_b2_of hs
  refine av_eq (st2 := [am_I (am_w32 ((am_w32 (a1 * 10)) + a2)), am_R 23]) rfl rfl rfl rfl (av_callV (pc := 10) (as := [am_I (am_w32 ((am_w32 (a1 * 10)) + a2))]) (rest := []) C (ct_X4_at l G 23 56 100 sk_23 sk_56 rfl (am_w32 ((am_w32 (a1 * 10)) + a2)) S x2 S1 hc3) ym_X4_at si_X0_40 im_X4_at se_X4_at sk_23 rfl ⟨Nat.le_of_ble_eq_true rfl, Nat.le_of_ble_eq_true rfl⟩ rfl rfl (Nat.le_of_ble_eq_true rfl) dX0_kindOf_10 ⟨Nat.le_refl _, Nat.le_refl _⟩ (fun hrv => av_eq (st2 := [am_I x2]) rfl rfl rfl rfl ?_))
  obtain ⟨rfl, rfl⟩ := am_inj2 hs
  exact av_iret C hr hlocks dX0_kindOf_13
def sf_X4_valueAt (a n : Nat) (a1 : Int) (S : am_S) : Option (Int × am_S) := (if a1 < 0 then (some (0, S)) else (if (n : Int) ≤ a1 then (some (0, S)) else (am_gd a1 n (some ((S.2 a (Int.toNat a1)), S)))))
set_option maxHeartbeats 4000000 in
set_option maxRecDepth 100000 in
theorem ct_X4_valueAt (l : Launch) (G : am_G) (o a n : Nat) (hk : am_sk[o]? = some (.inl (4, [some a]))) (ha : am_sk[a]? = some (.inr (2, n))) (hrn : am_rok (n : Int) = true) (a1 : Int) (S : am_S) (x : Int) (S2 : am_S) (hs : sf_X4_valueAt a n a1 S = some (x, S2)) : am_met l yX4_valueAt cX4_valueAt 2 (some .long) 0 0 G [am_R o, am_I a1] S (some (am_J x)) S2 := by
  refine am_enter ym_X4_valueAt (Nat.le_of_ble_eq_true rfl) ?_
  intro p e s m args below meth c C hr hlocks
  refine av_eq (lv2 := [(0, am_R o), (1, am_I a1)]) rfl rfl rfl rfl ?_
  unfold sf_X4_valueAt at hs
  refine av_iload_n (pc := 0) (j := 1) C dX4_valueAt_0 rfl rfl ?_
  refine av_if_lt (pc := 1) (tgt := 22) C dX4_valueAt_1 (by decide) (fun hc => ?_) (fun hc => ?_)
  · rw [if_pos hc] at hs
    refine av_lconst (pc := 22) (x := 0) C dX4_valueAt_22 rfl rfl ?_
    obtain ⟨rfl, rfl⟩ := am_inj2 hs
    exact av_lret C hr hlocks dX4_valueAt_23
  · rw [if_neg hc] at hs
    refine av_iload_n (pc := 4) (j := 1) C dX4_valueAt_4 rfl rfl ?_
    refine av_aload_n (pc := 5) (j := 0) C dX4_valueAt_5 rfl rfl ?_
    refine av_getR (pc := 6) (k := 0) (r := a) (fl := [some a]) C fl_X4_7 hk rfl dX4_valueAt_6 ?_
    refine av_alen (pc := 9) C ha (by decide) hrn dX4_valueAt_9 ?_
    refine av_icmp_ge (pc := 10) (tgt := 22) C dX4_valueAt_10 (by decide) (fun hc => ?_) (fun hc => ?_)
    · rw [if_pos hc] at hs
      refine av_lconst (pc := 22) (x := 0) C dX4_valueAt_22 rfl rfl ?_
      obtain ⟨rfl, rfl⟩ := am_inj2 hs
      exact av_lret C hr hlocks dX4_valueAt_23
    · rw [if_neg hc] at hs
      refine av_aload_n (pc := 13) (j := 0) C dX4_valueAt_13 rfl rfl ?_
      refine av_getR (pc := 14) (k := 0) (r := a) (fl := [some a]) C fl_X4_7 hk rfl dX4_valueAt_14 ?_
      refine av_iload_n (pc := 17) (j := 1) C dX4_valueAt_17 rfl rfl ?_
      obtain ⟨hb, hs⟩ := am_gd_of hs
      refine av_lald (pc := 18) C ha hb dX4_valueAt_18 ?_
      refine av_goto (pc := 19) (tgt := 23) C dX4_valueAt_19 (by decide) ?_
      obtain ⟨rfl, rfl⟩ := am_inj2 hs
      exact av_lret C hr hlocks dX4_valueAt_23
def sf_X0_valueOf (a1 : Int) (a2 : Int) (S : am_S) : Option (Int × am_S) := (am_b2 (sf_X4_valueAt 57 100 (am_w32 ((am_w32 (a1 * 10)) + a2)) S) (fun x2 S1 => (some (x2, S1))))
set_option maxHeartbeats 4000000 in
set_option maxRecDepth 100000 in
theorem ct_X0_valueOf (l : Launch) (G : am_G) (a1 : Int) (a2 : Int) (S : am_S) (x : Int) (S2 : am_S) (hs : sf_X0_valueOf a1 a2 S = some (x, S2)) : am_met l yX0_valueOf cX0_valueOf 3 (some .long) 1 21 G [am_R 3, am_I a1, am_I a2] S (some (am_J x)) S2 := by
  refine am_enter ym_X0_valueOf (Nat.le_of_ble_eq_true rfl) ?_
  intro p e s m args below meth c C hr hlocks
  refine av_eq (lv2 := [(0, am_R 3), (1, am_I a1), (2, am_I a2)]) rfl rfl rfl rfl ?_
  unfold sf_X0_valueOf at hs
  refine av_aload_n (pc := 0) (j := 0) C dX0_valueOf_0 rfl rfl ?_
  refine av_getR (pc := 1) (k := 2) (r := 24) C fl_X0_23 sk_3 rfl dX0_valueOf_1 ?_
  refine av_iload_n (pc := 4) (j := 1) C dX0_valueOf_4 rfl rfl ?_
  refine av_bipush (pc := 5) C dX0_valueOf_5 rfl ?_
  refine av_imul (pc := 7) C dX0_valueOf_7 ?_
  refine av_iload_n (pc := 8) (j := 2) C dX0_valueOf_8 rfl rfl ?_
  refine av_iadd (pc := 9) C dX0_valueOf_9 ?_
  obtain ⟨x2, S1, hc3, hs⟩ := am_b2_of hs
  refine av_eq (st2 := [am_I (am_w32 ((am_w32 (a1 * 10)) + a2)), am_R 24]) rfl rfl rfl rfl (av_callV (pc := 10) (as := [am_I (am_w32 ((am_w32 (a1 * 10)) + a2))]) (rest := []) C (ct_X4_valueAt l G 24 57 100 sk_24 sk_57 rfl (am_w32 ((am_w32 (a1 * 10)) + a2)) S x2 S1 hc3) ym_X4_valueAt si_X0_48 im_X4_valueAt se_X4_valueAt sk_24 rfl ⟨Nat.le_of_ble_eq_true rfl, Nat.le_of_ble_eq_true rfl⟩ rfl rfl (Nat.le_of_ble_eq_true rfl) dX0_valueOf_10 ⟨Nat.le_refl _, Nat.le_refl _⟩ (fun hrv => av_eq (st2 := [am_J x2]) rfl rfl rfl rfl ?_))
  obtain ⟨rfl, rfl⟩ := am_inj2 hs
  exact av_lret C hr hlocks dX0_valueOf_13
def sf_X0_behindTry_8 : Nat → (b1 : Int) → (b2 : Int) → (b3 : Int) → (b4 : Int) → (b5 : Int) → (S : am_S) → Option (Int × am_S)
  | 0, _, _, _, _, _, _ => none
  | fu + 1, b1, b2, b3, b4, b5, S => (am_b2 (sf_X4_at 55 10 b1 S) (fun x2 S1 => (if x2 ≤ b5 then (some ((-1), S1)) else (am_b2 (sf_X0_kindOf b1 b5 S1) (fun x5 S4 => (if x5 = 6 then (if b2 ≤ b5 then (if x5 = 6 then (sf_X0_behindTry_8 fu b1 b2 b3 (am_w32 (b4 + 1)) (am_w32 (b5 + 1)) S4) else (if x5 = 7 then (if b4 ≤ 0 then (if x5 = 7 then (if b3 ≤ 0 then (sf_X0_behindTry_8 fu b1 b2 b3 b4 (am_w32 (b5 + 1)) S4) else (if b5 ≤ b2 then (sf_X0_behindTry_8 fu b1 b2 (am_w32 (b3 + (-1))) b4 (am_w32 (b5 + 1)) S4) else (some ((am_w32 (b5 + 1)), S4)))) else (sf_X0_behindTry_8 fu b1 b2 b3 b4 (am_w32 (b5 + 1)) S4)) else (sf_X0_behindTry_8 fu b1 b2 b3 (am_w32 (b4 + (-1))) (am_w32 (b5 + 1)) S4)) else (if x5 = 7 then (if b3 ≤ 0 then (sf_X0_behindTry_8 fu b1 b2 b3 b4 (am_w32 (b5 + 1)) S4) else (if b5 ≤ b2 then (sf_X0_behindTry_8 fu b1 b2 (am_w32 (b3 + (-1))) b4 (am_w32 (b5 + 1)) S4) else (some ((am_w32 (b5 + 1)), S4)))) else (sf_X0_behindTry_8 fu b1 b2 b3 b4 (am_w32 (b5 + 1)) S4)))) else (sf_X0_behindTry_8 fu b1 b2 (am_w32 (b3 + 1)) b4 (am_w32 (b5 + 1)) S4)) else (if x5 = 6 then (sf_X0_behindTry_8 fu b1 b2 b3 (am_w32 (b4 + 1)) (am_w32 (b5 + 1)) S4) else (if x5 = 7 then (if b4 ≤ 0 then (if x5 = 7 then (if b3 ≤ 0 then (sf_X0_behindTry_8 fu b1 b2 b3 b4 (am_w32 (b5 + 1)) S4) else (if b5 ≤ b2 then (sf_X0_behindTry_8 fu b1 b2 (am_w32 (b3 + (-1))) b4 (am_w32 (b5 + 1)) S4) else (some ((am_w32 (b5 + 1)), S4)))) else (sf_X0_behindTry_8 fu b1 b2 b3 b4 (am_w32 (b5 + 1)) S4)) else (sf_X0_behindTry_8 fu b1 b2 b3 (am_w32 (b4 + (-1))) (am_w32 (b5 + 1)) S4)) else (if x5 = 7 then (if b3 ≤ 0 then (sf_X0_behindTry_8 fu b1 b2 b3 b4 (am_w32 (b5 + 1)) S4) else (if b5 ≤ b2 then (sf_X0_behindTry_8 fu b1 b2 (am_w32 (b3 + (-1))) b4 (am_w32 (b5 + 1)) S4) else (some ((am_w32 (b5 + 1)), S4)))) else (sf_X0_behindTry_8 fu b1 b2 b3 b4 (am_w32 (b5 + 1)) S4))))))))))
set_option maxHeartbeats 4000000 in
set_option maxRecDepth 100000 in
theorem wk_X0_behindTry_8 {p : Program} {l : Launch} {e : Env} {s : State} {m : MethodId} {args : Array Value} {below : List Frame} {meth : Method} {c : Code} {G : am_G} (C : am_C p s m args c cX0_behindTry 7 RX0 G) (hr : meth.sig.returnType = (some .int)) (hlocks : meth.locks = false) : ∀ (fu : Nat) (b1 : Int) (b2 : Int) (b3 : Int) (b4 : Int) (b5 : Int) (S : am_S) (x : Int) (S2 : am_S), sf_X0_behindTry_8 fu b1 b2 b3 b4 b5 S = some (x, S2) → am_V p l e (am_rm 2 43) s m args below meth c (MQ below (am_Q G (some (am_I x)) S2) args s 0 0 (am_A G)) G (am_A G) s.heap 7 0 0 8 [(0, am_R 3), (1, am_I b1), (2, am_I b2), (3, am_I b3), (4, am_I b4), (5, am_I b5)] [] S := by
  intro fu
  induction fu with
  | zero => intro b1 b2 b3 b4 b5 S x S2 hs; cases hs
  | succ fu ih =>
    intro b1 b2 b3 b4 b5 S x S2 hs
    unfold sf_X0_behindTry_8 at hs
    refine av_iload (pc := 8) (j := 5) C dX0_behindTry_8 rfl ?_
    refine av_aload_n (pc := 10) (j := 0) C dX0_behindTry_10 rfl rfl ?_
    refine av_getR (pc := 11) (k := 0) (r := 22) C fl_X0_14 sk_3 rfl dX0_behindTry_11 ?_
    refine av_iload_n (pc := 14) (j := 1) C dX0_behindTry_14 rfl rfl ?_
    obtain ⟨x2, S1, hc3, hs⟩ := am_b2_of hs
    refine av_eq (st2 := [am_I b1, am_R 22, am_I b5]) rfl rfl rfl rfl (av_callV (pc := 15) (as := [am_I b1]) (rest := [am_I b5]) C (ct_X4_at l G 22 55 10 sk_22 sk_55 rfl b1 S x2 S1 hc3) ym_X4_at si_X0_40 im_X4_at se_X4_at sk_22 rfl ⟨Nat.le_of_ble_eq_true rfl, Nat.le_of_ble_eq_true rfl⟩ rfl rfl (Nat.le_of_ble_eq_true rfl) dX0_behindTry_15 ⟨Nat.le_refl _, Nat.le_refl _⟩ (fun hrv => av_eq (st2 := [am_I x2, am_I b5]) rfl rfl rfl rfl ?_))
    refine av_icmp_ge (pc := 18) (tgt := 111) C dX0_behindTry_18 (by decide) (fun hc => ?_) (fun hc => ?_)
    · rw [if_pos hc] at hs
      refine av_iconst (pc := 111) C dX0_behindTry_111 rfl ?_
      obtain ⟨rfl, rfl⟩ := am_inj2 hs
      exact av_iret C hr hlocks dX0_behindTry_112
    · rw [if_neg hc] at hs
      refine av_aload_n (pc := 21) (j := 0) C dX0_behindTry_21 rfl rfl ?_
      refine av_iload_n (pc := 22) (j := 1) C dX0_behindTry_22 rfl rfl ?_
      refine av_iload (pc := 23) (j := 5) C dX0_behindTry_23 rfl ?_
      obtain ⟨x5, S4, hc6, hs⟩ := am_b2_of hs
      refine av_eq (st2 := [am_I b5, am_I b1, am_R 3]) rfl rfl rfl rfl (av_callV (pc := 25) (as := [am_I b1, am_I b5]) (rest := []) C (ct_X0_kindOf l G b1 b5 S1 x5 S4 hc6) ym_X0_kindOf si_X0_52 im_X0_kindOf se_X0_kindOf sk_3 rfl ⟨Nat.le_of_ble_eq_true rfl, Nat.le_of_ble_eq_true rfl⟩ rfl rfl (Nat.le_of_ble_eq_true rfl) dX0_behindTry_25 ⟨Nat.le_refl _, Nat.le_refl _⟩ (fun hrv => av_eq (st2 := [am_I x5]) rfl rfl rfl rfl ?_))
      refine av_istore (pc := 28) (i := 6) (lv2 := [(6, am_I x5), (0, am_R 3), (1, am_I b1), (2, am_I b2), (3, am_I b3), (4, am_I b4), (5, am_I b5)]) C dX0_behindTry_28 (by decide) rfl ?_
      refine av_iload (pc := 30) (j := 0) C dX0_behindTry_30 rfl ?_
      refine av_bipush (pc := 32) C dX0_behindTry_32 rfl ?_
      refine av_icmp_ne (pc := 34) (tgt := 49) C dX0_behindTry_34 (by decide) (fun hc => ?_) (fun hc => ?_)
      · rw [if_neg hc] at hs
        refine av_iload (pc := 49) (j := 0) C dX0_behindTry_49 rfl ?_
        refine av_bipush (pc := 51) C dX0_behindTry_51 rfl ?_
        refine av_icmp_ne (pc := 53) (tgt := 62) C dX0_behindTry_53 (by decide) (fun hc => ?_) (fun hc => ?_)
        · rw [if_neg hc] at hs
          refine av_iload (pc := 62) (j := 0) C dX0_behindTry_62 rfl ?_
          refine av_bipush (pc := 64) C dX0_behindTry_64 rfl ?_
          refine av_icmp_ne (pc := 66) (tgt := 80) C dX0_behindTry_66 (by decide) (fun hc => ?_) (fun hc => ?_)
          · rw [if_neg hc] at hs
            refine av_iload (pc := 80) (j := 0) C dX0_behindTry_80 rfl ?_
            refine av_bipush (pc := 82) C dX0_behindTry_82 rfl ?_
            refine av_icmp_ne (pc := 84) (tgt := 105) C dX0_behindTry_84 (by decide) (fun hc => ?_) (fun hc => ?_)
            · rw [if_neg hc] at hs
              refine av_iinc (pc := 105) (j := 6) (lv2 := [(5, am_I (am_w32 (b5 + 1))), (6, am_I x5), (0, am_R 3), (1, am_I b1), (2, am_I b2), (3, am_I b3), (4, am_I b4)]) C dX0_behindTry_105 rfl (by decide) rfl ?_
              refine av_goto (pc := 108) (tgt := 8) C dX0_behindTry_108 (by decide) ?_
              refine av_lvsub (lv2 := [(0, am_R 3), (1, am_I b1), (2, am_I b2), (3, am_I b3), (4, am_I b4), (5, am_I (am_w32 (b5 + 1)))]) [2, 3, 4, 5, 6, 0] rfl ?_
              exact ih b1 b2 b3 b4 (am_w32 (b5 + 1)) S4 x S2 hs
            · rw [if_pos (Decidable.not_not.mp hc)] at hs
              refine av_iload_n (pc := 87) (j := 4) C dX0_behindTry_87 rfl rfl ?_
              refine av_if_le (pc := 88) (tgt := 105) C dX0_behindTry_88 (by decide) (fun hc => ?_) (fun hc => ?_)
              · rw [if_pos hc] at hs
                refine av_iinc (pc := 105) (j := 6) (lv2 := [(5, am_I (am_w32 (b5 + 1))), (6, am_I x5), (0, am_R 3), (1, am_I b1), (2, am_I b2), (3, am_I b3), (4, am_I b4)]) C dX0_behindTry_105 rfl (by decide) rfl ?_
                refine av_goto (pc := 108) (tgt := 8) C dX0_behindTry_108 (by decide) ?_
                refine av_lvsub (lv2 := [(0, am_R 3), (1, am_I b1), (2, am_I b2), (3, am_I b3), (4, am_I b4), (5, am_I (am_w32 (b5 + 1)))]) [2, 3, 4, 5, 6, 0] rfl ?_
                exact ih b1 b2 b3 b4 (am_w32 (b5 + 1)) S4 x S2 hs
              · rw [if_neg hc] at hs
                refine av_iload (pc := 91) (j := 6) C dX0_behindTry_91 rfl ?_
                refine av_iload_n (pc := 93) (j := 3) C dX0_behindTry_93 rfl rfl ?_
                refine av_icmp_le (pc := 94) (tgt := 102) C dX0_behindTry_94 (by decide) (fun hc => ?_) (fun hc => ?_)
                · rw [if_pos hc] at hs
                  refine av_iinc (pc := 102) (j := 4) (lv2 := [(3, am_I (am_w32 (b3 + (-1)))), (6, am_I x5), (0, am_R 3), (1, am_I b1), (2, am_I b2), (4, am_I b4), (5, am_I b5)]) C dX0_behindTry_102 rfl (by decide) rfl ?_
                  refine av_iinc (pc := 105) (j := 6) (lv2 := [(5, am_I (am_w32 (b5 + 1))), (3, am_I (am_w32 (b3 + (-1)))), (6, am_I x5), (0, am_R 3), (1, am_I b1), (2, am_I b2), (4, am_I b4)]) C dX0_behindTry_105 rfl (by decide) rfl ?_
                  refine av_goto (pc := 108) (tgt := 8) C dX0_behindTry_108 (by decide) ?_
                  refine av_lvsub (lv2 := [(0, am_R 3), (1, am_I b1), (2, am_I b2), (3, am_I (am_w32 (b3 + (-1)))), (4, am_I b4), (5, am_I (am_w32 (b5 + 1)))]) [3, 4, 5, 1, 6, 0] rfl ?_
                  exact ih b1 b2 (am_w32 (b3 + (-1))) b4 (am_w32 (b5 + 1)) S4 x S2 hs
                · rw [if_neg hc] at hs
                  refine av_iload (pc := 97) (j := 6) C dX0_behindTry_97 rfl ?_
                  refine av_iconst (pc := 99) C dX0_behindTry_99 rfl ?_
                  refine av_iadd (pc := 100) C dX0_behindTry_100 ?_
                  obtain ⟨rfl, rfl⟩ := am_inj2 hs
                  exact av_iret C hr hlocks dX0_behindTry_101
          · rw [if_pos (Decidable.not_not.mp hc)] at hs
            refine av_iload (pc := 69) (j := 5) C dX0_behindTry_69 rfl ?_
            refine av_if_le (pc := 71) (tgt := 80) C dX0_behindTry_71 (by decide) (fun hc => ?_) (fun hc => ?_)
            · rw [if_pos hc] at hs
              refine av_iload (pc := 80) (j := 0) C dX0_behindTry_80 rfl ?_
              refine av_bipush (pc := 82) C dX0_behindTry_82 rfl ?_
              refine av_icmp_ne (pc := 84) (tgt := 105) C dX0_behindTry_84 (by decide) (fun hc => ?_) (fun hc => ?_)
              · rw [if_neg hc] at hs
                refine av_iinc (pc := 105) (j := 6) (lv2 := [(5, am_I (am_w32 (b5 + 1))), (6, am_I x5), (0, am_R 3), (1, am_I b1), (2, am_I b2), (3, am_I b3), (4, am_I b4)]) C dX0_behindTry_105 rfl (by decide) rfl ?_
                refine av_goto (pc := 108) (tgt := 8) C dX0_behindTry_108 (by decide) ?_
                refine av_lvsub (lv2 := [(0, am_R 3), (1, am_I b1), (2, am_I b2), (3, am_I b3), (4, am_I b4), (5, am_I (am_w32 (b5 + 1)))]) [2, 3, 4, 5, 6, 0] rfl ?_
                exact ih b1 b2 b3 b4 (am_w32 (b5 + 1)) S4 x S2 hs
              · rw [if_pos (Decidable.not_not.mp hc)] at hs
                refine av_iload_n (pc := 87) (j := 4) C dX0_behindTry_87 rfl rfl ?_
                refine av_if_le (pc := 88) (tgt := 105) C dX0_behindTry_88 (by decide) (fun hc => ?_) (fun hc => ?_)
                · rw [if_pos hc] at hs
                  refine av_iinc (pc := 105) (j := 6) (lv2 := [(5, am_I (am_w32 (b5 + 1))), (6, am_I x5), (0, am_R 3), (1, am_I b1), (2, am_I b2), (3, am_I b3), (4, am_I b4)]) C dX0_behindTry_105 rfl (by decide) rfl ?_
                  refine av_goto (pc := 108) (tgt := 8) C dX0_behindTry_108 (by decide) ?_
                  refine av_lvsub (lv2 := [(0, am_R 3), (1, am_I b1), (2, am_I b2), (3, am_I b3), (4, am_I b4), (5, am_I (am_w32 (b5 + 1)))]) [2, 3, 4, 5, 6, 0] rfl ?_
                  exact ih b1 b2 b3 b4 (am_w32 (b5 + 1)) S4 x S2 hs
                · rw [if_neg hc] at hs
                  refine av_iload (pc := 91) (j := 6) C dX0_behindTry_91 rfl ?_
                  refine av_iload_n (pc := 93) (j := 3) C dX0_behindTry_93 rfl rfl ?_
                  refine av_icmp_le (pc := 94) (tgt := 102) C dX0_behindTry_94 (by decide) (fun hc => ?_) (fun hc => ?_)
                  · rw [if_pos hc] at hs
                    refine av_iinc (pc := 102) (j := 4) (lv2 := [(3, am_I (am_w32 (b3 + (-1)))), (6, am_I x5), (0, am_R 3), (1, am_I b1), (2, am_I b2), (4, am_I b4), (5, am_I b5)]) C dX0_behindTry_102 rfl (by decide) rfl ?_
                    refine av_iinc (pc := 105) (j := 6) (lv2 := [(5, am_I (am_w32 (b5 + 1))), (3, am_I (am_w32 (b3 + (-1)))), (6, am_I x5), (0, am_R 3), (1, am_I b1), (2, am_I b2), (4, am_I b4)]) C dX0_behindTry_105 rfl (by decide) rfl ?_
                    refine av_goto (pc := 108) (tgt := 8) C dX0_behindTry_108 (by decide) ?_
                    refine av_lvsub (lv2 := [(0, am_R 3), (1, am_I b1), (2, am_I b2), (3, am_I (am_w32 (b3 + (-1)))), (4, am_I b4), (5, am_I (am_w32 (b5 + 1)))]) [3, 4, 5, 1, 6, 0] rfl ?_
                    exact ih b1 b2 (am_w32 (b3 + (-1))) b4 (am_w32 (b5 + 1)) S4 x S2 hs
                  · rw [if_neg hc] at hs
                    refine av_iload (pc := 97) (j := 6) C dX0_behindTry_97 rfl ?_
                    refine av_iconst (pc := 99) C dX0_behindTry_99 rfl ?_
                    refine av_iadd (pc := 100) C dX0_behindTry_100 ?_
                    obtain ⟨rfl, rfl⟩ := am_inj2 hs
                    exact av_iret C hr hlocks dX0_behindTry_101
            · rw [if_neg hc] at hs
              refine av_iinc (pc := 74) (j := 5) (lv2 := [(4, am_I (am_w32 (b4 + (-1)))), (6, am_I x5), (0, am_R 3), (1, am_I b1), (2, am_I b2), (3, am_I b3), (5, am_I b5)]) C dX0_behindTry_74 rfl (by decide) rfl ?_
              refine av_goto (pc := 77) (tgt := 105) C dX0_behindTry_77 (by decide) ?_
              refine av_iinc (pc := 105) (j := 6) (lv2 := [(5, am_I (am_w32 (b5 + 1))), (4, am_I (am_w32 (b4 + (-1)))), (6, am_I x5), (0, am_R 3), (1, am_I b1), (2, am_I b2), (3, am_I b3)]) C dX0_behindTry_105 rfl (by decide) rfl ?_
              refine av_goto (pc := 108) (tgt := 8) C dX0_behindTry_108 (by decide) ?_
              refine av_lvsub (lv2 := [(0, am_R 3), (1, am_I b1), (2, am_I b2), (3, am_I b3), (4, am_I (am_w32 (b4 + (-1)))), (5, am_I (am_w32 (b5 + 1)))]) [3, 4, 5, 6, 1, 0] rfl ?_
              exact ih b1 b2 b3 (am_w32 (b4 + (-1))) (am_w32 (b5 + 1)) S4 x S2 hs
        · rw [if_pos (Decidable.not_not.mp hc)] at hs
          refine av_iinc (pc := 56) (j := 5) (lv2 := [(4, am_I (am_w32 (b4 + 1))), (6, am_I x5), (0, am_R 3), (1, am_I b1), (2, am_I b2), (3, am_I b3), (5, am_I b5)]) C dX0_behindTry_56 rfl (by decide) rfl ?_
          refine av_goto (pc := 59) (tgt := 105) C dX0_behindTry_59 (by decide) ?_
          refine av_iinc (pc := 105) (j := 6) (lv2 := [(5, am_I (am_w32 (b5 + 1))), (4, am_I (am_w32 (b4 + 1))), (6, am_I x5), (0, am_R 3), (1, am_I b1), (2, am_I b2), (3, am_I b3)]) C dX0_behindTry_105 rfl (by decide) rfl ?_
          refine av_goto (pc := 108) (tgt := 8) C dX0_behindTry_108 (by decide) ?_
          refine av_lvsub (lv2 := [(0, am_R 3), (1, am_I b1), (2, am_I b2), (3, am_I b3), (4, am_I (am_w32 (b4 + 1))), (5, am_I (am_w32 (b5 + 1)))]) [3, 4, 5, 6, 1, 0] rfl ?_
          exact ih b1 b2 b3 (am_w32 (b4 + 1)) (am_w32 (b5 + 1)) S4 x S2 hs
      · rw [if_pos (Decidable.not_not.mp hc)] at hs
        refine av_iload (pc := 37) (j := 6) C dX0_behindTry_37 rfl ?_
        refine av_iload_n (pc := 39) (j := 3) C dX0_behindTry_39 rfl rfl ?_
        refine av_icmp_ge (pc := 40) (tgt := 49) C dX0_behindTry_40 (by decide) (fun hc => ?_) (fun hc => ?_)
        · rw [if_pos hc] at hs
          refine av_iload (pc := 49) (j := 0) C dX0_behindTry_49 rfl ?_
          refine av_bipush (pc := 51) C dX0_behindTry_51 rfl ?_
          refine av_icmp_ne (pc := 53) (tgt := 62) C dX0_behindTry_53 (by decide) (fun hc => ?_) (fun hc => ?_)
          · rw [if_neg hc] at hs
            refine av_iload (pc := 62) (j := 0) C dX0_behindTry_62 rfl ?_
            refine av_bipush (pc := 64) C dX0_behindTry_64 rfl ?_
            refine av_icmp_ne (pc := 66) (tgt := 80) C dX0_behindTry_66 (by decide) (fun hc => ?_) (fun hc => ?_)
            · rw [if_neg hc] at hs
              refine av_iload (pc := 80) (j := 0) C dX0_behindTry_80 rfl ?_
              refine av_bipush (pc := 82) C dX0_behindTry_82 rfl ?_
              refine av_icmp_ne (pc := 84) (tgt := 105) C dX0_behindTry_84 (by decide) (fun hc => ?_) (fun hc => ?_)
              · rw [if_neg hc] at hs
                refine av_iinc (pc := 105) (j := 6) (lv2 := [(5, am_I (am_w32 (b5 + 1))), (6, am_I x5), (0, am_R 3), (1, am_I b1), (2, am_I b2), (3, am_I b3), (4, am_I b4)]) C dX0_behindTry_105 rfl (by decide) rfl ?_
                refine av_goto (pc := 108) (tgt := 8) C dX0_behindTry_108 (by decide) ?_
                refine av_lvsub (lv2 := [(0, am_R 3), (1, am_I b1), (2, am_I b2), (3, am_I b3), (4, am_I b4), (5, am_I (am_w32 (b5 + 1)))]) [2, 3, 4, 5, 6, 0] rfl ?_
                exact ih b1 b2 b3 b4 (am_w32 (b5 + 1)) S4 x S2 hs
              · rw [if_pos (Decidable.not_not.mp hc)] at hs
                refine av_iload_n (pc := 87) (j := 4) C dX0_behindTry_87 rfl rfl ?_
                refine av_if_le (pc := 88) (tgt := 105) C dX0_behindTry_88 (by decide) (fun hc => ?_) (fun hc => ?_)
                · rw [if_pos hc] at hs
                  refine av_iinc (pc := 105) (j := 6) (lv2 := [(5, am_I (am_w32 (b5 + 1))), (6, am_I x5), (0, am_R 3), (1, am_I b1), (2, am_I b2), (3, am_I b3), (4, am_I b4)]) C dX0_behindTry_105 rfl (by decide) rfl ?_
                  refine av_goto (pc := 108) (tgt := 8) C dX0_behindTry_108 (by decide) ?_
                  refine av_lvsub (lv2 := [(0, am_R 3), (1, am_I b1), (2, am_I b2), (3, am_I b3), (4, am_I b4), (5, am_I (am_w32 (b5 + 1)))]) [2, 3, 4, 5, 6, 0] rfl ?_
                  exact ih b1 b2 b3 b4 (am_w32 (b5 + 1)) S4 x S2 hs
                · rw [if_neg hc] at hs
                  refine av_iload (pc := 91) (j := 6) C dX0_behindTry_91 rfl ?_
                  refine av_iload_n (pc := 93) (j := 3) C dX0_behindTry_93 rfl rfl ?_
                  refine av_icmp_le (pc := 94) (tgt := 102) C dX0_behindTry_94 (by decide) (fun hc => ?_) (fun hc => ?_)
                  · rw [if_pos hc] at hs
                    refine av_iinc (pc := 102) (j := 4) (lv2 := [(3, am_I (am_w32 (b3 + (-1)))), (6, am_I x5), (0, am_R 3), (1, am_I b1), (2, am_I b2), (4, am_I b4), (5, am_I b5)]) C dX0_behindTry_102 rfl (by decide) rfl ?_
                    refine av_iinc (pc := 105) (j := 6) (lv2 := [(5, am_I (am_w32 (b5 + 1))), (3, am_I (am_w32 (b3 + (-1)))), (6, am_I x5), (0, am_R 3), (1, am_I b1), (2, am_I b2), (4, am_I b4)]) C dX0_behindTry_105 rfl (by decide) rfl ?_
                    refine av_goto (pc := 108) (tgt := 8) C dX0_behindTry_108 (by decide) ?_
                    refine av_lvsub (lv2 := [(0, am_R 3), (1, am_I b1), (2, am_I b2), (3, am_I (am_w32 (b3 + (-1)))), (4, am_I b4), (5, am_I (am_w32 (b5 + 1)))]) [3, 4, 5, 1, 6, 0] rfl ?_
                    exact ih b1 b2 (am_w32 (b3 + (-1))) b4 (am_w32 (b5 + 1)) S4 x S2 hs
                  · rw [if_neg hc] at hs
                    refine av_iload (pc := 97) (j := 6) C dX0_behindTry_97 rfl ?_
                    refine av_iconst (pc := 99) C dX0_behindTry_99 rfl ?_
                    refine av_iadd (pc := 100) C dX0_behindTry_100 ?_
                    obtain ⟨rfl, rfl⟩ := am_inj2 hs
                    exact av_iret C hr hlocks dX0_behindTry_101
            · rw [if_pos (Decidable.not_not.mp hc)] at hs
              refine av_iload (pc := 69) (j := 5) C dX0_behindTry_69 rfl ?_
              refine av_if_le (pc := 71) (tgt := 80) C dX0_behindTry_71 (by decide) (fun hc => ?_) (fun hc => ?_)
              · rw [if_pos hc] at hs
                refine av_iload (pc := 80) (j := 0) C dX0_behindTry_80 rfl ?_
                refine av_bipush (pc := 82) C dX0_behindTry_82 rfl ?_
                refine av_icmp_ne (pc := 84) (tgt := 105) C dX0_behindTry_84 (by decide) (fun hc => ?_) (fun hc => ?_)
                · rw [if_neg hc] at hs
                  refine av_iinc (pc := 105) (j := 6) (lv2 := [(5, am_I (am_w32 (b5 + 1))), (6, am_I x5), (0, am_R 3), (1, am_I b1), (2, am_I b2), (3, am_I b3), (4, am_I b4)]) C dX0_behindTry_105 rfl (by decide) rfl ?_
                  refine av_goto (pc := 108) (tgt := 8) C dX0_behindTry_108 (by decide) ?_
                  refine av_lvsub (lv2 := [(0, am_R 3), (1, am_I b1), (2, am_I b2), (3, am_I b3), (4, am_I b4), (5, am_I (am_w32 (b5 + 1)))]) [2, 3, 4, 5, 6, 0] rfl ?_
                  exact ih b1 b2 b3 b4 (am_w32 (b5 + 1)) S4 x S2 hs
                · rw [if_pos (Decidable.not_not.mp hc)] at hs
                  refine av_iload_n (pc := 87) (j := 4) C dX0_behindTry_87 rfl rfl ?_
                  refine av_if_le (pc := 88) (tgt := 105) C dX0_behindTry_88 (by decide) (fun hc => ?_) (fun hc => ?_)
                  · rw [if_pos hc] at hs
                    refine av_iinc (pc := 105) (j := 6) (lv2 := [(5, am_I (am_w32 (b5 + 1))), (6, am_I x5), (0, am_R 3), (1, am_I b1), (2, am_I b2), (3, am_I b3), (4, am_I b4)]) C dX0_behindTry_105 rfl (by decide) rfl ?_
                    refine av_goto (pc := 108) (tgt := 8) C dX0_behindTry_108 (by decide) ?_
                    refine av_lvsub (lv2 := [(0, am_R 3), (1, am_I b1), (2, am_I b2), (3, am_I b3), (4, am_I b4), (5, am_I (am_w32 (b5 + 1)))]) [2, 3, 4, 5, 6, 0] rfl ?_
                    exact ih b1 b2 b3 b4 (am_w32 (b5 + 1)) S4 x S2 hs
                  · rw [if_neg hc] at hs
                    refine av_iload (pc := 91) (j := 6) C dX0_behindTry_91 rfl ?_
                    refine av_iload_n (pc := 93) (j := 3) C dX0_behindTry_93 rfl rfl ?_
                    refine av_icmp_le (pc := 94) (tgt := 102) C dX0_behindTry_94 (by decide) (fun hc => ?_) (fun hc => ?_)
                    · rw [if_pos hc] at hs
                      refine av_iinc (pc := 102) (j := 4) (lv2 := [(3, am_I (am_w32 (b3 + (-1)))), (6, am_I x5), (0, am_R 3), (1, am_I b1), (2, am_I b2), (4, am_I b4), (5, am_I b5)]) C dX0_behindTry_102 rfl (by decide) rfl ?_
                      refine av_iinc (pc := 105) (j := 6) (lv2 := [(5, am_I (am_w32 (b5 + 1))), (3, am_I (am_w32 (b3 + (-1)))), (6, am_I x5), (0, am_R 3), (1, am_I b1), (2, am_I b2), (4, am_I b4)]) C dX0_behindTry_105 rfl (by decide) rfl ?_
                      refine av_goto (pc := 108) (tgt := 8) C dX0_behindTry_108 (by decide) ?_
                      refine av_lvsub (lv2 := [(0, am_R 3), (1, am_I b1), (2, am_I b2), (3, am_I (am_w32 (b3 + (-1)))), (4, am_I b4), (5, am_I (am_w32 (b5 + 1)))]) [3, 4, 5, 1, 6, 0] rfl ?_
                      exact ih b1 b2 (am_w32 (b3 + (-1))) b4 (am_w32 (b5 + 1)) S4 x S2 hs
                    · rw [if_neg hc] at hs
                      refine av_iload (pc := 97) (j := 6) C dX0_behindTry_97 rfl ?_
                      refine av_iconst (pc := 99) C dX0_behindTry_99 rfl ?_
                      refine av_iadd (pc := 100) C dX0_behindTry_100 ?_
                      obtain ⟨rfl, rfl⟩ := am_inj2 hs
                      exact av_iret C hr hlocks dX0_behindTry_101
              · rw [if_neg hc] at hs
                refine av_iinc (pc := 74) (j := 5) (lv2 := [(4, am_I (am_w32 (b4 + (-1)))), (6, am_I x5), (0, am_R 3), (1, am_I b1), (2, am_I b2), (3, am_I b3), (5, am_I b5)]) C dX0_behindTry_74 rfl (by decide) rfl ?_
                refine av_goto (pc := 77) (tgt := 105) C dX0_behindTry_77 (by decide) ?_
                refine av_iinc (pc := 105) (j := 6) (lv2 := [(5, am_I (am_w32 (b5 + 1))), (4, am_I (am_w32 (b4 + (-1)))), (6, am_I x5), (0, am_R 3), (1, am_I b1), (2, am_I b2), (3, am_I b3)]) C dX0_behindTry_105 rfl (by decide) rfl ?_
                refine av_goto (pc := 108) (tgt := 8) C dX0_behindTry_108 (by decide) ?_
                refine av_lvsub (lv2 := [(0, am_R 3), (1, am_I b1), (2, am_I b2), (3, am_I b3), (4, am_I (am_w32 (b4 + (-1)))), (5, am_I (am_w32 (b5 + 1)))]) [3, 4, 5, 6, 1, 0] rfl ?_
                exact ih b1 b2 b3 (am_w32 (b4 + (-1))) (am_w32 (b5 + 1)) S4 x S2 hs
          · rw [if_pos (Decidable.not_not.mp hc)] at hs
            refine av_iinc (pc := 56) (j := 5) (lv2 := [(4, am_I (am_w32 (b4 + 1))), (6, am_I x5), (0, am_R 3), (1, am_I b1), (2, am_I b2), (3, am_I b3), (5, am_I b5)]) C dX0_behindTry_56 rfl (by decide) rfl ?_
            refine av_goto (pc := 59) (tgt := 105) C dX0_behindTry_59 (by decide) ?_
            refine av_iinc (pc := 105) (j := 6) (lv2 := [(5, am_I (am_w32 (b5 + 1))), (4, am_I (am_w32 (b4 + 1))), (6, am_I x5), (0, am_R 3), (1, am_I b1), (2, am_I b2), (3, am_I b3)]) C dX0_behindTry_105 rfl (by decide) rfl ?_
            refine av_goto (pc := 108) (tgt := 8) C dX0_behindTry_108 (by decide) ?_
            refine av_lvsub (lv2 := [(0, am_R 3), (1, am_I b1), (2, am_I b2), (3, am_I b3), (4, am_I (am_w32 (b4 + 1))), (5, am_I (am_w32 (b5 + 1)))]) [3, 4, 5, 6, 1, 0] rfl ?_
            exact ih b1 b2 b3 (am_w32 (b4 + 1)) (am_w32 (b5 + 1)) S4 x S2 hs
        · rw [if_neg hc] at hs
          refine av_iinc (pc := 43) (j := 4) (lv2 := [(3, am_I (am_w32 (b3 + 1))), (6, am_I x5), (0, am_R 3), (1, am_I b1), (2, am_I b2), (4, am_I b4), (5, am_I b5)]) C dX0_behindTry_43 rfl (by decide) rfl ?_
          refine av_goto (pc := 46) (tgt := 105) C dX0_behindTry_46 (by decide) ?_
          refine av_iinc (pc := 105) (j := 6) (lv2 := [(5, am_I (am_w32 (b5 + 1))), (3, am_I (am_w32 (b3 + 1))), (6, am_I x5), (0, am_R 3), (1, am_I b1), (2, am_I b2), (4, am_I b4)]) C dX0_behindTry_105 rfl (by decide) rfl ?_
          refine av_goto (pc := 108) (tgt := 8) C dX0_behindTry_108 (by decide) ?_
          refine av_lvsub (lv2 := [(0, am_R 3), (1, am_I b1), (2, am_I b2), (3, am_I (am_w32 (b3 + 1))), (4, am_I b4), (5, am_I (am_w32 (b5 + 1)))]) [3, 4, 5, 1, 6, 0] rfl ?_
          exact ih b1 b2 (am_w32 (b3 + 1)) b4 (am_w32 (b5 + 1)) S4 x S2 hs
def sf_X0_behindTry (a1 : Int) (a2 : Int) (S : am_S) : Option (Int × am_S) := (sf_X0_behindTry_8 1000 a1 a2 0 0 0 S)
set_option maxHeartbeats 4000000 in
set_option maxRecDepth 100000 in
theorem ct_X0_behindTry (l : Launch) (G : am_G) (a1 : Int) (a2 : Int) (S : am_S) (x : Int) (S2 : am_S) (hs : sf_X0_behindTry a1 a2 S = some (x, S2)) : am_met l yX0_behindTry cX0_behindTry 7 (some .int) 2 43 G [am_R 3, am_I a1, am_I a2] S (some (am_I x)) S2 := by
  refine am_enter ym_X0_behindTry (Nat.le_of_ble_eq_true rfl) ?_
  intro p e s m args below meth c C hr hlocks
  refine av_eq (lv2 := [(0, am_R 3), (1, am_I a1), (2, am_I a2)]) rfl rfl rfl rfl ?_
  unfold sf_X0_behindTry at hs
  refine av_iconst (pc := 0) C dX0_behindTry_0 rfl ?_
  refine av_istore_n (pc := 1) (i := 3) (lv2 := [(3, am_I 0), (0, am_R 3), (1, am_I a1), (2, am_I a2)]) C dX0_behindTry_1 rfl (by decide) rfl ?_
  refine av_iconst (pc := 2) C dX0_behindTry_2 rfl ?_
  refine av_istore (pc := 3) (i := 4) (lv2 := [(4, am_I 0), (3, am_I 0), (0, am_R 3), (1, am_I a1), (2, am_I a2)]) C dX0_behindTry_3 (by decide) rfl ?_
  refine av_iconst (pc := 5) C dX0_behindTry_5 rfl ?_
  refine av_istore (pc := 6) (i := 5) (lv2 := [(5, am_I 0), (4, am_I 0), (3, am_I 0), (0, am_R 3), (1, am_I a1), (2, am_I a2)]) C dX0_behindTry_6 (by decide) rfl ?_
  refine av_lvsub (lv2 := [(0, am_R 3), (1, am_I a1), (2, am_I a2), (3, am_I 0), (4, am_I 0), (5, am_I 0)]) [3, 4, 5, 2, 1, 0] rfl ?_
  exact wk_X0_behindTry_8 C hr hlocks 1000 a1 a2 0 0 0 S x S2 hs
def sf_X1_clear (S : am_S) : Option (am_S) := (am_let (am_sI S 389 0) (fun S1 => (some S1)))
set_option maxHeartbeats 4000000 in
set_option maxRecDepth 100000 in
theorem ct_X1_clear (l : Launch) (G : am_G) (S : am_S) (S2 : am_S) (hs : sf_X1_clear  S = some S2) : am_met l yX1_clear cX1_clear 1 none 0 0 G [am_R 6] S none S2 := by
  refine am_enter ym_X1_clear (Nat.le_of_ble_eq_true rfl) ?_
  intro p e s m args below meth c C hr hlocks
  refine av_eq (lv2 := [(0, am_R 6)]) rfl rfl rfl rfl ?_
  unfold sf_X1_clear at hs
  refine av_aload_n (pc := 0) (j := 0) C dX1_clear_0 rfl rfl ?_
  refine av_iconst (pc := 1) C dX1_clear_1 rfl ?_
  obtain ⟨S1, eS1, hs⟩ := am_let_of hs
  refine av_putI (pc := 2) (k := 5) (n := 389) C fp_X1_29 sk_6 rfl rfl dX1_clear_2 ?_
  refine av_eq rfl rfl rfl eS1 ?_
  obtain rfl := am_inj1 hs
  exact av_vret C hr hlocks dX1_clear_5
def sf_X1_items (S : am_S) : Option (Int × am_S) := (some ((S.1 389), S))
set_option maxHeartbeats 4000000 in
set_option maxRecDepth 100000 in
theorem ct_X1_items (l : Launch) (G : am_G) (S : am_S) (x : Int) (S2 : am_S) (hs : sf_X1_items  S = some (x, S2)) : am_met l yX1_items cX1_items 1 (some .int) 0 0 G [am_R 6] S (some (am_I x)) S2 := by
  refine am_enter ym_X1_items (Nat.le_of_ble_eq_true rfl) ?_
  intro p e s m args below meth c C hr hlocks
  refine av_eq (lv2 := [(0, am_R 6)]) rfl rfl rfl rfl ?_
  unfold sf_X1_items at hs
  refine av_aload_n (pc := 0) (j := 0) C dX1_items_0 rfl rfl ?_
  refine av_getI (pc := 1) (k := 5) (n := 389) C fl_X1_29 sk_6 rfl rfl dX1_items_1 ?_
  obtain ⟨rfl, rfl⟩ := am_inj2 hs
  exact av_iret C hr hlocks dX1_items_4
def sf_X1_isFull (S : am_S) : Option (Int × am_S) := (if (S.1 389) < 5 then (some (0, S)) else (some (1, S)))
set_option maxHeartbeats 4000000 in
set_option maxRecDepth 100000 in
theorem ct_X1_isFull (l : Launch) (G : am_G) (S : am_S) (x : Int) (S2 : am_S) (hs : sf_X1_isFull  S = some (x, S2)) : am_met l yX1_isFull cX1_isFull 1 (some .boolean) 0 0 G [am_R 6] S (some (am_I x)) S2 := by
  refine am_enter ym_X1_isFull (Nat.le_of_ble_eq_true rfl) ?_
  intro p e s m args below meth c C hr hlocks
  refine av_eq (lv2 := [(0, am_R 6)]) rfl rfl rfl rfl ?_
  unfold sf_X1_isFull at hs
  refine av_aload_n (pc := 0) (j := 0) C dX1_isFull_0 rfl rfl ?_
  refine av_getI (pc := 1) (k := 5) (n := 389) C fl_X1_29 sk_6 rfl rfl dX1_isFull_1 ?_
  refine av_iconst (pc := 4) C dX1_isFull_4 rfl ?_
  refine av_icmp_lt (pc := 5) (tgt := 12) C dX1_isFull_5 (by decide) (fun hc => ?_) (fun hc => ?_)
  · rw [if_pos hc] at hs
    refine av_iconst (pc := 12) C dX1_isFull_12 rfl ?_
    obtain ⟨rfl, rfl⟩ := am_inj2 hs
    exact av_zret C (by decide) hr hlocks dX1_isFull_13
  · rw [if_neg hc] at hs
    refine av_iconst (pc := 8) C dX1_isFull_8 rfl ?_
    refine av_goto (pc := 9) (tgt := 13) C dX1_isFull_9 (by decide) ?_
    obtain ⟨rfl, rfl⟩ := am_inj2 hs
    exact av_zret C (by decide) hr hlocks dX1_isFull_13
def sf_X1_addItem (a1 : Int) (S : am_S) : Option (Int × am_S) := (am_b1 (sf_X4_put 63 5 (S.1 389) a1 S) (fun S1 => (am_let (am_sI S1 389 (am_w32 ((S1.1 389) + 1))) (fun S3 => (some ((S3.1 389), S3))))))
set_option maxHeartbeats 4000000 in
set_option maxRecDepth 100000 in
theorem ct_X1_addItem (l : Launch) (G : am_G) (a1 : Int) (S : am_S) (x : Int) (S2 : am_S) (hs : sf_X1_addItem a1 S = some (x, S2)) : am_met l yX1_addItem cX1_addItem 3 (some .int) 1 23 G [am_R 6, am_J a1] S (some (am_I x)) S2 := by
  refine am_enter ym_X1_addItem (Nat.le_of_ble_eq_true rfl) ?_
  intro p e s m args below meth c C hr hlocks
  refine av_eq (lv2 := [(0, am_R 6), (1, am_J a1)]) rfl rfl rfl rfl ?_
  unfold sf_X1_addItem at hs
  refine av_aload_n (pc := 0) (j := 0) C dX1_addItem_0 rfl rfl ?_
  refine av_getR (pc := 1) (k := 0) (r := 30) C fl_X1_14 sk_6 rfl dX1_addItem_1 ?_
  refine av_aload_n (pc := 4) (j := 0) C dX1_addItem_4 rfl rfl ?_
  refine av_getI (pc := 5) (k := 5) (n := 389) C fl_X1_29 sk_6 rfl rfl dX1_addItem_5 ?_
  refine av_lload_n (pc := 8) (j := 1) C dX1_addItem_8 rfl rfl ?_
  obtain ⟨S1, hc2, hs⟩ := am_b1_of hs
  refine av_eq (st2 := [am_J a1, am_I (S.1 389), am_R 30]) rfl rfl rfl rfl (av_callV (pc := 9) (as := [am_I (S.1 389), am_J a1]) (rest := []) C (ct_X4_put l G 30 63 5 sk_30 sk_63 rfl (S.1 389) a1 S S1 hc2) ym_X4_put si_X1_37 im_X4_put se_X4_put sk_30 rfl ⟨Nat.le_of_ble_eq_true rfl, Nat.le_of_ble_eq_true rfl⟩ rfl rfl (Nat.le_of_ble_eq_true rfl) dX1_addItem_9 ⟨Nat.le_refl _, Nat.le_refl _⟩ (fun hrv => av_eq (st2 := []) rfl rfl rfl rfl ?_))
  refine av_aload_n (pc := 12) (j := 0) C dX1_addItem_12 rfl rfl ?_
  refine av_dup (pc := 13) C dX1_addItem_13 rfl ?_
  refine av_getI (pc := 14) (k := 5) (n := 389) C fl_X1_29 sk_6 rfl rfl dX1_addItem_14 ?_
  refine av_iconst (pc := 17) C dX1_addItem_17 rfl ?_
  refine av_iadd (pc := 18) C dX1_addItem_18 ?_
  obtain ⟨S3, eS3, hs⟩ := am_let_of hs
  refine av_putI (pc := 19) (k := 5) (n := 389) C fp_X1_29 sk_6 rfl rfl dX1_addItem_19 ?_
  refine av_eq rfl rfl rfl eS3 ?_
  refine av_aload_n (pc := 22) (j := 0) C dX1_addItem_22 rfl rfl ?_
  refine av_getI (pc := 23) (k := 5) (n := 389) C fl_X1_29 sk_6 rfl rfl dX1_addItem_23 ?_
  obtain ⟨rfl, rfl⟩ := am_inj2 hs
  exact av_iret C hr hlocks dX1_addItem_26
def sf_X3_made (S : am_S) : Option (Int × am_S) := (some ((S.1 75), S))
set_option maxHeartbeats 4000000 in
set_option maxRecDepth 100000 in
theorem ct_X3_made (l : Launch) (G : am_G) (S : am_S) (x : Int) (S2 : am_S) (hs : sf_X3_made  S = some (x, S2)) : am_met l yX3_made cX3_made 1 (some .int) 0 0 G [am_R 1] S (some (am_I x)) S2 := by
  refine am_enter ym_X3_made (Nat.le_of_ble_eq_true rfl) ?_
  intro p e s m args below meth c C hr hlocks
  refine av_eq (lv2 := [(0, am_R 1)]) rfl rfl rfl rfl ?_
  unfold sf_X3_made at hs
  refine av_aload_n (pc := 0) (j := 0) C dX3_made_0 rfl rfl ?_
  refine av_getI (pc := 1) (k := 11) (n := 75) C fl_X3_50 sk_1 rfl rfl dX3_made_1 ?_
  obtain ⟨rfl, rfl⟩ := am_inj2 hs
  exact av_iret C hr hlocks dX3_made_4
def sf_X8_sortOf (a1 : Int) (S : am_S) : Option (Int × am_S) := (some ((am_w32 (a1 / 4294967296)), S))
set_option maxHeartbeats 4000000 in
set_option maxRecDepth 100000 in
theorem ct_X8_sortOf (l : Launch) (G : am_G) (a1 : Int) (S : am_S) (x : Int) (S2 : am_S) (hs : sf_X8_sortOf a1 S = some (x, S2)) : am_met l yX8_sortOf cX8_sortOf 2 (some .int) 0 0 G [am_J a1] S (some (am_I x)) S2 := by
  refine am_enter ym_X8_sortOf (Nat.le_of_ble_eq_true rfl) ?_
  intro p e s m args below meth c C hr hlocks
  refine av_eq (lv2 := [(0, am_J a1)]) rfl rfl rfl rfl ?_
  unfold sf_X8_sortOf at hs
  refine av_lload_n (pc := 0) (j := 0) C dX8_sortOf_0 rfl rfl ?_
  refine av_bipush (pc := 1) C dX8_sortOf_1 rfl ?_
  refine av_lshr (pc := 3) C dX8_sortOf_3 ?_
  refine av_l2i (pc := 4) C dX8_sortOf_4 ?_
  obtain ⟨rfl, rfl⟩ := am_inj2 hs
  exact av_iret C hr hlocks dX8_sortOf_5
def sf_X1_hasRoom_12 : Nat → (b1 : Int) → (b2 : Int) → (S : am_S) → Option (Int × am_S)
  | 0, _, _, _ => none
  | fu + 1, b1, b2, S => (if (S.1 389) ≤ b2 then (if 100 < b1 then (some (0, S)) else (some (1, S))) else (am_b2 (sf_X4_valueAt 63 5 b2 S) (fun x5 S4 => (am_b2 (sf_X8_sortOf x5 S4) (fun x8 S7 => (if x8 = 1 then (sf_X1_hasRoom_12 fu b1 (am_w32 (b2 + 1)) S7) else (sf_X1_hasRoom_12 fu (am_w32 (b1 + 1)) (am_w32 (b2 + 1)) S7)))))))
set_option maxHeartbeats 4000000 in
set_option maxRecDepth 100000 in
theorem wk_X1_hasRoom_12 {p : Program} {l : Launch} {e : Env} {s : State} {m : MethodId} {args : Array Value} {below : List Frame} {meth : Method} {c : Code} {G : am_G} (C : am_C p s m args c cX1_hasRoom 3 RX1 G) (hr : meth.sig.returnType = (some .boolean)) (hlocks : meth.locks = false) : ∀ (fu : Nat) (b1 : Int) (b2 : Int) (S : am_S) (x : Int) (S2 : am_S), sf_X1_hasRoom_12 fu b1 b2 S = some (x, S2) → am_V p l e (am_rm 1 21) s m args below meth c (MQ below (am_Q G (some (am_I x)) S2) args s 0 0 (am_A G)) G (am_A G) s.heap 3 0 0 12 [(0, am_R 6), (1, am_I b1), (2, am_I b2)] [] S := by
  intro fu
  induction fu with
  | zero => intro b1 b2 S x S2 hs; cases hs
  | succ fu ih =>
    intro b1 b2 S x S2 hs
    unfold sf_X1_hasRoom_12 at hs
    refine av_iload_n (pc := 12) (j := 2) C dX1_hasRoom_12 rfl rfl ?_
    refine av_aload_n (pc := 13) (j := 0) C dX1_hasRoom_13 rfl rfl ?_
    refine av_getI (pc := 14) (k := 5) (n := 389) C fl_X1_29 sk_6 rfl rfl dX1_hasRoom_14 ?_
    refine av_icmp_ge (pc := 17) (tgt := 44) C dX1_hasRoom_17 (by decide) (fun hc => ?_) (fun hc => ?_)
    · rw [if_pos hc] at hs
      refine av_iload_n (pc := 44) (j := 1) C dX1_hasRoom_44 rfl rfl ?_
      refine av_bipush (pc := 45) C dX1_hasRoom_45 rfl ?_
      refine av_icmp_gt (pc := 47) (tgt := 54) C dX1_hasRoom_47 (by decide) (fun hc => ?_) (fun hc => ?_)
      · rw [if_pos hc] at hs
        refine av_iconst (pc := 54) C dX1_hasRoom_54 rfl ?_
        obtain ⟨rfl, rfl⟩ := am_inj2 hs
        exact av_zret C (by decide) hr hlocks dX1_hasRoom_55
      · rw [if_neg hc] at hs
        refine av_iconst (pc := 50) C dX1_hasRoom_50 rfl ?_
        refine av_goto (pc := 51) (tgt := 55) C dX1_hasRoom_51 (by decide) ?_
        obtain ⟨rfl, rfl⟩ := am_inj2 hs
        exact av_zret C (by decide) hr hlocks dX1_hasRoom_55
    · rw [if_neg hc] at hs
      refine av_aload_n (pc := 20) (j := 0) C dX1_hasRoom_20 rfl rfl ?_
      refine av_getR (pc := 21) (k := 0) (r := 30) C fl_X1_14 sk_6 rfl dX1_hasRoom_21 ?_
      refine av_iload_n (pc := 24) (j := 2) C dX1_hasRoom_24 rfl rfl ?_
      obtain ⟨x5, S4, hc6, hs⟩ := am_b2_of hs
      refine av_eq (st2 := [am_I b2, am_R 30]) rfl rfl rfl rfl (av_callV (pc := 25) (as := [am_I b2]) (rest := []) C (ct_X4_valueAt l G 30 63 5 sk_30 sk_63 rfl b2 S x5 S4 hc6) ym_X4_valueAt si_X1_47 im_X4_valueAt se_X4_valueAt sk_30 rfl ⟨Nat.le_of_ble_eq_true rfl, Nat.le_of_ble_eq_true rfl⟩ rfl rfl (Nat.le_of_ble_eq_true rfl) dX1_hasRoom_25 ⟨Nat.le_refl _, Nat.le_refl _⟩ (fun hrv => av_eq (st2 := [am_J x5]) rfl rfl rfl rfl ?_))
      obtain ⟨x8, S7, hc9, hs⟩ := am_b2_of hs
      refine av_eq (st2 := [am_J x5]) rfl rfl rfl rfl (av_callS (pc := 28) (as := [am_J x5]) (rest := []) C (ct_X8_sortOf l G x5 S4 x8 S7 hc9) ym_X8_sortOf si_X1_51 st_X8_sortOf ⟨Nat.le_of_ble_eq_true rfl, Nat.le_of_ble_eq_true rfl⟩ rfl rfl (Nat.le_of_ble_eq_true rfl) dX1_hasRoom_28 ⟨Nat.le_refl _, Nat.le_refl _⟩ (fun hrv => av_eq (st2 := [am_I x8]) rfl rfl rfl rfl ?_))
      refine av_iconst (pc := 31) C dX1_hasRoom_31 rfl ?_
      refine av_icmp_eq (pc := 32) (tgt := 38) C dX1_hasRoom_32 (by decide) (fun hc => ?_) (fun hc => ?_)
      · rw [if_pos hc] at hs
        refine av_iinc (pc := 38) (j := 2) (lv2 := [(2, am_I (am_w32 (b2 + 1))), (0, am_R 6), (1, am_I b1)]) C dX1_hasRoom_38 rfl (by decide) rfl ?_
        refine av_goto (pc := 41) (tgt := 12) C dX1_hasRoom_41 (by decide) ?_
        refine av_lvsub (lv2 := [(0, am_R 6), (1, am_I b1), (2, am_I (am_w32 (b2 + 1)))]) [1, 2, 0] rfl ?_
        exact ih b1 (am_w32 (b2 + 1)) S7 x S2 hs
      · rw [if_neg hc] at hs
        refine av_iinc (pc := 35) (j := 1) (lv2 := [(1, am_I (am_w32 (b1 + 1))), (0, am_R 6), (2, am_I b2)]) C dX1_hasRoom_35 rfl (by decide) rfl ?_
        refine av_iinc (pc := 38) (j := 2) (lv2 := [(2, am_I (am_w32 (b2 + 1))), (1, am_I (am_w32 (b1 + 1))), (0, am_R 6)]) C dX1_hasRoom_38 rfl (by decide) rfl ?_
        refine av_goto (pc := 41) (tgt := 12) C dX1_hasRoom_41 (by decide) ?_
        refine av_lvsub (lv2 := [(0, am_R 6), (1, am_I (am_w32 (b1 + 1))), (2, am_I (am_w32 (b2 + 1)))]) [2, 1, 0] rfl ?_
        exact ih (am_w32 (b1 + 1)) (am_w32 (b2 + 1)) S7 x S2 hs
def sf_X1_hasRoom (S : am_S) : Option (Int × am_S) := (am_b2 (sf_X3_made  S) (fun x2 S1 => (sf_X1_hasRoom_12 1000 (am_w32 (x2 + 1)) 0 S1)))
set_option maxHeartbeats 4000000 in
set_option maxRecDepth 100000 in
theorem ct_X1_hasRoom (l : Launch) (G : am_G) (S : am_S) (x : Int) (S2 : am_S) (hs : sf_X1_hasRoom  S = some (x, S2)) : am_met l yX1_hasRoom cX1_hasRoom 3 (some .boolean) 1 21 G [am_R 6] S (some (am_I x)) S2 := by
  refine am_enter ym_X1_hasRoom (Nat.le_of_ble_eq_true rfl) ?_
  intro p e s m args below meth c C hr hlocks
  refine av_eq (lv2 := [(0, am_R 6)]) rfl rfl rfl rfl ?_
  unfold sf_X1_hasRoom at hs
  refine av_aload_n (pc := 0) (j := 0) C dX1_hasRoom_0 rfl rfl ?_
  refine av_getR (pc := 1) (k := 4) (r := 1) C fl_X1_33 sk_6 rfl dX1_hasRoom_1 ?_
  obtain ⟨x2, S1, hc3, hs⟩ := am_b2_of hs
  refine av_eq (st2 := [am_R 1]) rfl rfl rfl rfl (av_callV (pc := 4) (as := []) (rest := []) C (ct_X3_made l G  S x2 S1 hc3) ym_X3_made si_X1_41 im_X3_made se_X3_made sk_1 rfl ⟨Nat.le_of_ble_eq_true rfl, Nat.le_of_ble_eq_true rfl⟩ rfl rfl (Nat.le_of_ble_eq_true rfl) dX1_hasRoom_4 ⟨Nat.le_refl _, Nat.le_refl _⟩ (fun hrv => av_eq (st2 := [am_I x2]) rfl rfl rfl rfl ?_))
  refine av_iconst (pc := 7) C dX1_hasRoom_7 rfl ?_
  refine av_iadd (pc := 8) C dX1_hasRoom_8 ?_
  refine av_istore_n (pc := 9) (i := 1) (lv2 := [(1, am_I (am_w32 (x2 + 1))), (0, am_R 6)]) C dX1_hasRoom_9 rfl (by decide) rfl ?_
  refine av_iconst (pc := 10) C dX1_hasRoom_10 rfl ?_
  refine av_istore_n (pc := 11) (i := 2) (lv2 := [(2, am_I 0), (1, am_I (am_w32 (x2 + 1))), (0, am_R 6)]) C dX1_hasRoom_11 rfl (by decide) rfl ?_
  refine av_lvsub (lv2 := [(0, am_R 6), (1, am_I (am_w32 (x2 + 1))), (2, am_I 0)]) [2, 1, 0] rfl ?_
  exact wk_X1_hasRoom_12 C hr hlocks 1000 (am_w32 (x2 + 1)) 0 S1 x S2 hs
def sf_X3_has (a1 : Int) (S : am_S) : Option (Int × am_S) := (am_b2 (sf_X9_isWithin a1 (S.1 75) S) (fun x2 S1 => (am_gz x2 (some (x2, S1)))))
set_option maxHeartbeats 4000000 in
set_option maxRecDepth 100000 in
theorem ct_X3_has (l : Launch) (G : am_G) (a1 : Int) (S : am_S) (x : Int) (S2 : am_S) (hs : sf_X3_has a1 S = some (x, S2)) : am_met l yX3_has cX3_has 2 (some .boolean) 1 21 G [am_R 1, am_I a1] S (some (am_I x)) S2 := by
  refine am_enter ym_X3_has (Nat.le_of_ble_eq_true rfl) ?_
  intro p e s m args below meth c C hr hlocks
  refine av_eq (lv2 := [(0, am_R 1), (1, am_I a1)]) rfl rfl rfl rfl ?_
  unfold sf_X3_has at hs
  refine av_iload_n (pc := 0) (j := 1) C dX3_has_0 rfl rfl ?_
  refine av_aload_n (pc := 1) (j := 0) C dX3_has_1 rfl rfl ?_
  refine av_getI (pc := 2) (k := 11) (n := 75) C fl_X3_50 sk_1 rfl rfl dX3_has_2 ?_
  obtain ⟨x2, S1, hc3, hs⟩ := am_b2_of hs
  refine av_eq (st2 := [am_I (S.1 75), am_I a1]) rfl rfl rfl rfl (av_callSN (pc := 5) (as := [am_I a1, am_I (S.1 75)]) (rest := []) C (ct_X9_isWithin l G a1 (S.1 75) S x2 S1 hc3) ym_X9_isWithin si_X3_63 st_X9_isWithin ⟨Nat.le_of_ble_eq_true rfl, Nat.le_of_ble_eq_true rfl⟩ rfl rfl (Nat.le_of_ble_eq_true rfl) dX3_has_5 ⟨Nat.le_refl _, Nat.le_refl _⟩ (fun hrv => av_eq (st2 := [am_I x2]) rfl rfl rfl rfl ?_))
  obtain ⟨hz, hs⟩ := am_gz_of hs
  obtain ⟨rfl, rfl⟩ := am_inj2 hs
  exact av_zret C hz hr hlocks dX3_has_8
def sf_X3_isKeyUsed (a1 : Int) (S : am_S) : Option (Int × am_S) := (am_b2 (sf_X4_at 44 100 a1 S) (fun x2 S1 => (if x2 = 1 then (some (1, S1)) else (some (0, S1)))))
set_option maxHeartbeats 4000000 in
set_option maxRecDepth 100000 in
theorem ct_X3_isKeyUsed (l : Launch) (G : am_G) (a1 : Int) (S : am_S) (x : Int) (S2 : am_S) (hs : sf_X3_isKeyUsed a1 S = some (x, S2)) : am_met l yX3_isKeyUsed cX3_isKeyUsed 2 (some .boolean) 1 21 G [am_R 1, am_I a1] S (some (am_I x)) S2 := by
  refine am_enter ym_X3_isKeyUsed (Nat.le_of_ble_eq_true rfl) ?_
  intro p e s m args below meth c C hr hlocks
  refine av_eq (lv2 := [(0, am_R 1), (1, am_I a1)]) rfl rfl rfl rfl ?_
  unfold sf_X3_isKeyUsed at hs
  refine av_aload_n (pc := 0) (j := 0) C dX3_isKeyUsed_0 rfl rfl ?_
  refine av_getR (pc := 1) (k := 3) (r := 11) C fl_X3_26 sk_1 rfl dX3_isKeyUsed_1 ?_
  refine av_iload_n (pc := 4) (j := 1) C dX3_isKeyUsed_4 rfl rfl ?_
  obtain ⟨x2, S1, hc3, hs⟩ := am_b2_of hs
  refine av_eq (st2 := [am_I a1, am_R 11]) rfl rfl rfl rfl (av_callV (pc := 5) (as := [am_I a1]) (rest := []) C (ct_X4_at l G 11 44 100 sk_11 sk_44 rfl a1 S x2 S1 hc3) ym_X4_at si_X3_67 im_X4_at se_X4_at sk_11 rfl ⟨Nat.le_of_ble_eq_true rfl, Nat.le_of_ble_eq_true rfl⟩ rfl rfl (Nat.le_of_ble_eq_true rfl) dX3_isKeyUsed_5 ⟨Nat.le_refl _, Nat.le_refl _⟩ (fun hrv => av_eq (st2 := [am_I x2]) rfl rfl rfl rfl ?_))
  refine av_iconst (pc := 8) C dX3_isKeyUsed_8 rfl ?_
  refine av_icmp_ne (pc := 9) (tgt := 16) C dX3_isKeyUsed_9 (by decide) (fun hc => ?_) (fun hc => ?_)
  · rw [if_neg hc] at hs
    refine av_iconst (pc := 16) C dX3_isKeyUsed_16 rfl ?_
    obtain ⟨rfl, rfl⟩ := am_inj2 hs
    exact av_zret C (by decide) hr hlocks dX3_isKeyUsed_17
  · rw [if_pos (Decidable.not_not.mp hc)] at hs
    refine av_iconst (pc := 12) C dX3_isKeyUsed_12 rfl ?_
    refine av_goto (pc := 13) (tgt := 17) C dX3_isKeyUsed_13 (by decide) ?_
    obtain ⟨rfl, rfl⟩ := am_inj2 hs
    exact av_zret C (by decide) hr hlocks dX3_isKeyUsed_17
def sf_X3_lineUp (a1 : Int) (a2 : Int) (a3 : Int) (S : am_S) : Option (am_S) := (if a3 = 0 then (some S) else (if (S.1 76) = 0 then (am_let (am_sI S 77 a1) (fun S5 => (am_let (am_sI S5 78 a2) (fun S6 => (am_let (am_sI S6 76 (am_w32 ((S6.1 76) + a3))) (fun S7 => (some S7))))))) else (am_b1 (sf_X4_put 50 900 (S.1 78) a1 S) (fun S1 => (am_let (am_sI S1 78 a2) (fun S3 => (am_let (am_sI S3 76 (am_w32 ((S3.1 76) + a3))) (fun S4 => (some S4)))))))))
set_option maxHeartbeats 4000000 in
set_option maxRecDepth 100000 in
theorem ct_X3_lineUp (l : Launch) (G : am_G) (a1 : Int) (a2 : Int) (a3 : Int) (S : am_S) (S2 : am_S) (hs : sf_X3_lineUp a1 a2 a3 S = some S2) : am_met l yX3_lineUp cX3_lineUp 4 none 1 23 G [am_R 1, am_I a1, am_I a2, am_I a3] S none S2 := by
  refine am_enter ym_X3_lineUp (Nat.le_of_ble_eq_true rfl) ?_
  intro p e s m args below meth c C hr hlocks
  refine av_eq (lv2 := [(0, am_R 1), (1, am_I a1), (2, am_I a2), (3, am_I a3)]) rfl rfl rfl rfl ?_
  unfold sf_X3_lineUp at hs
  refine av_iload_n (pc := 0) (j := 3) C dX3_lineUp_0 rfl rfl ?_
  refine av_if_ne (pc := 1) (tgt := 5) C dX3_lineUp_1 (by decide) (fun hc => ?_) (fun hc => ?_)
  · rw [if_neg hc] at hs
    refine av_aload_n (pc := 5) (j := 0) C dX3_lineUp_5 rfl rfl ?_
    refine av_getI (pc := 6) (k := 12) (n := 76) C fl_X3_54 sk_1 rfl rfl dX3_lineUp_6 ?_
    refine av_if_ne (pc := 9) (tgt := 20) C dX3_lineUp_9 (by decide) (fun hc => ?_) (fun hc => ?_)
    · rw [if_neg hc] at hs
      refine av_aload_n (pc := 20) (j := 0) C dX3_lineUp_20 rfl rfl ?_
      refine av_getR (pc := 21) (k := 9) (r := 17) C fl_X3_44 sk_1 rfl dX3_lineUp_21 ?_
      refine av_aload_n (pc := 24) (j := 0) C dX3_lineUp_24 rfl rfl ?_
      refine av_getI (pc := 25) (k := 14) (n := 78) C fl_X3_60 sk_1 rfl rfl dX3_lineUp_25 ?_
      refine av_iload_n (pc := 28) (j := 1) C dX3_lineUp_28 rfl rfl ?_
      refine av_i2l (pc := 29) C dX3_lineUp_29 ?_
      obtain ⟨S1, hc2, hs⟩ := am_b1_of hs
      refine av_eq (st2 := [am_J a1, am_I (S.1 78), am_R 17]) rfl rfl rfl rfl (av_callV (pc := 30) (as := [am_I (S.1 78), am_J a1]) (rest := []) C (ct_X4_put l G 17 50 900 sk_17 sk_50 rfl (S.1 78) a1 S S1 hc2) ym_X4_put si_X3_79 im_X4_put se_X4_put sk_17 rfl ⟨Nat.le_of_ble_eq_true rfl, Nat.le_of_ble_eq_true rfl⟩ rfl rfl (Nat.le_of_ble_eq_true rfl) dX3_lineUp_30 ⟨Nat.le_refl _, Nat.le_refl _⟩ (fun hrv => av_eq (st2 := []) rfl rfl rfl rfl ?_))
      refine av_aload_n (pc := 33) (j := 0) C dX3_lineUp_33 rfl rfl ?_
      refine av_iload_n (pc := 34) (j := 2) C dX3_lineUp_34 rfl rfl ?_
      obtain ⟨S3, eS3, hs⟩ := am_let_of hs
      refine av_putI (pc := 35) (k := 14) (n := 78) C fp_X3_60 sk_1 rfl rfl dX3_lineUp_35 ?_
      refine av_eq rfl rfl rfl eS3 ?_
      refine av_aload_n (pc := 38) (j := 0) C dX3_lineUp_38 rfl rfl ?_
      refine av_dup (pc := 39) C dX3_lineUp_39 rfl ?_
      refine av_getI (pc := 40) (k := 12) (n := 76) C fl_X3_54 sk_1 rfl rfl dX3_lineUp_40 ?_
      refine av_iload_n (pc := 43) (j := 3) C dX3_lineUp_43 rfl rfl ?_
      refine av_iadd (pc := 44) C dX3_lineUp_44 ?_
      obtain ⟨S4, eS4, hs⟩ := am_let_of hs
      refine av_putI (pc := 45) (k := 12) (n := 76) C fp_X3_54 sk_1 rfl rfl dX3_lineUp_45 ?_
      refine av_eq rfl rfl rfl eS4 ?_
      obtain rfl := am_inj1 hs
      exact av_vret C hr hlocks dX3_lineUp_48
    · rw [if_pos (Decidable.not_not.mp hc)] at hs
      refine av_aload_n (pc := 12) (j := 0) C dX3_lineUp_12 rfl rfl ?_
      refine av_iload_n (pc := 13) (j := 1) C dX3_lineUp_13 rfl rfl ?_
      obtain ⟨S5, eS5, hs⟩ := am_let_of hs
      refine av_putI (pc := 14) (k := 13) (n := 77) C fp_X3_57 sk_1 rfl rfl dX3_lineUp_14 ?_
      refine av_eq rfl rfl rfl eS5 ?_
      refine av_goto (pc := 17) (tgt := 33) C dX3_lineUp_17 (by decide) ?_
      refine av_aload_n (pc := 33) (j := 0) C dX3_lineUp_33 rfl rfl ?_
      refine av_iload_n (pc := 34) (j := 2) C dX3_lineUp_34 rfl rfl ?_
      obtain ⟨S6, eS6, hs⟩ := am_let_of hs
      refine av_putI (pc := 35) (k := 14) (n := 78) C fp_X3_60 sk_1 rfl rfl dX3_lineUp_35 ?_
      refine av_eq rfl rfl rfl eS6 ?_
      refine av_aload_n (pc := 38) (j := 0) C dX3_lineUp_38 rfl rfl ?_
      refine av_dup (pc := 39) C dX3_lineUp_39 rfl ?_
      refine av_getI (pc := 40) (k := 12) (n := 76) C fl_X3_54 sk_1 rfl rfl dX3_lineUp_40 ?_
      refine av_iload_n (pc := 43) (j := 3) C dX3_lineUp_43 rfl rfl ?_
      refine av_iadd (pc := 44) C dX3_lineUp_44 ?_
      obtain ⟨S7, eS7, hs⟩ := am_let_of hs
      refine av_putI (pc := 45) (k := 12) (n := 76) C fp_X3_54 sk_1 rfl rfl dX3_lineUp_45 ?_
      refine av_eq rfl rfl rfl eS7 ?_
      obtain rfl := am_inj1 hs
      exact av_vret C hr hlocks dX3_lineUp_48
  · rw [if_pos (Decidable.not_not.mp hc)] at hs
    obtain rfl := am_inj1 hs
    exact av_vret C hr hlocks dX3_lineUp_4
def sf_X8_of (a1 : Int) (a2 : Int) (S : am_S) : Option (Int × am_S) := (am_g32 a1 (am_glo (a1 * 4294967296) (a2 % 4294967296) (some (((a1 * 4294967296) + (a2 % 4294967296)), S))))
set_option maxHeartbeats 4000000 in
set_option maxRecDepth 100000 in
theorem ct_X8_of (l : Launch) (G : am_G) (a1 : Int) (a2 : Int) (S : am_S) (x : Int) (S2 : am_S) (hs : sf_X8_of a1 a2 S = some (x, S2)) : am_met l yX8_of cX8_of 2 (some .long) 0 0 G [am_I a1, am_I a2] S (some (am_J x)) S2 := by
  refine am_enter ym_X8_of (Nat.le_of_ble_eq_true rfl) ?_
  intro p e s m args below meth c C hr hlocks
  refine av_eq (lv2 := [(0, am_I a1), (1, am_I a2)]) rfl rfl rfl rfl ?_
  unfold sf_X8_of at hs
  refine av_iload_n (pc := 0) (j := 0) C dX8_of_0 rfl rfl ?_
  refine av_i2l (pc := 1) C dX8_of_1 ?_
  refine av_bipush (pc := 2) C dX8_of_2 rfl ?_
  obtain ⟨hg, hs⟩ := am_g32_of hs
  refine av_lshl (pc := 4) C hg dX8_of_4 ?_
  refine av_iload_n (pc := 5) (j := 1) C dX8_of_5 rfl rfl ?_
  refine av_i2l (pc := 6) C dX8_of_6 ?_
  refine av_ldc2 (pc := 7) C co_X8_9 (by unfold am_r64; omega) dX8_of_7 ?_
  refine av_land (pc := 10) C dX8_of_10 ?_
  obtain ⟨hg, hs⟩ := am_glo_of hs
  refine av_lor (pc := 11) C hg dX8_of_11 ?_
  obtain ⟨rfl, rfl⟩ := am_inj2 hs
  exact av_lret C hr hlocks dX8_of_12
def sf_X9_jobOf (a1 : Int) (a2 : Int) (S : am_S) : Option (Int × am_S) := (some ((am_w32 ((am_w32 (a1 * 9)) + a2)), S))
set_option maxHeartbeats 4000000 in
set_option maxRecDepth 100000 in
theorem ct_X9_jobOf (l : Launch) (G : am_G) (a1 : Int) (a2 : Int) (S : am_S) (x : Int) (S2 : am_S) (hs : sf_X9_jobOf a1 a2 S = some (x, S2)) : am_met l yX9_jobOf cX9_jobOf 2 (some .int) 0 0 G [am_I a1, am_I a2] S (some (am_I x)) S2 := by
  refine am_enter ym_X9_jobOf (Nat.le_of_ble_eq_true rfl) ?_
  intro p e s m args below meth c C hr hlocks
  refine av_eq (lv2 := [(0, am_I a1), (1, am_I a2)]) rfl rfl rfl rfl ?_
  unfold sf_X9_jobOf at hs
  refine av_iload_n (pc := 0) (j := 0) C dX9_jobOf_0 rfl rfl ?_
  refine av_bipush (pc := 1) C dX9_jobOf_1 rfl ?_
  refine av_imul (pc := 3) C dX9_jobOf_3 ?_
  refine av_iload_n (pc := 4) (j := 1) C dX9_jobOf_4 rfl rfl ?_
  refine av_iadd (pc := 5) C dX9_jobOf_5 ?_
  obtain ⟨rfl, rfl⟩ := am_inj2 hs
  exact av_iret C hr hlocks dX9_jobOf_6
def sf_X3_settleBy_141 (b1 : Int) (t0 : Int) (t1 : Int) (S : am_S) : Option (am_S) := (am_b1 (sf_X4_put 42 100 t1 t0 S) (fun S33 => (am_b2 (sf_X4_at 48 100 b1 S33) (fun x36 S35 => (am_b2 (sf_X4_at 49 100 b1 S35) (fun x39 S38 => (am_b2 (sf_X4_at 47 100 b1 S38) (fun x42 S41 => (am_b1 (sf_X3_lineUp x36 x39 x42 S41) (fun S44 => (am_b1 (sf_X4_put 47 100 b1 0 S44) (fun S46 => (some S46)))))))))))))
set_option maxHeartbeats 4000000 in
set_option maxRecDepth 100000 in
theorem wk_X3_settleBy_141 {p : Program} {l : Launch} {e : Env} {s : State} {m : MethodId} {args : Array Value} {below : List Frame} {meth : Method} {c : Code} {G : am_G} (C : am_C p s m args c cX3_settleBy 8 RX3 G) (hr : meth.sig.returnType = none) (hlocks : meth.locks = false) (b1 : Int) (t0 : Int) (t1 : Int) (S : am_S) (S2 : am_S) (hs : sf_X3_settleBy_141 b1 t0 t1 S = some S2) : am_V p l e (am_rm 2 46) s m args below meth c (MQ below (am_Q G none S2) args s 0 0 (am_A G)) G (am_A G) s.heap 8 0 0 141 [(0, am_R 1), (1, am_I b1)] [am_J t0, am_I t1, am_R 9] S := by
  unfold sf_X3_settleBy_141 at hs
  obtain ⟨S33, hc34, hs⟩ := am_b1_of hs
  refine av_eq (st2 := [am_J t0, am_I t1, am_R 9]) rfl rfl rfl rfl (av_callV (pc := 141) (as := [am_I t1, am_J t0]) (rest := []) C (ct_X4_put l G 9 42 100 sk_9 sk_42 rfl t1 t0 S S33 hc34) ym_X4_put si_X3_79 im_X4_put se_X4_put sk_9 rfl ⟨Nat.le_of_ble_eq_true rfl, Nat.le_of_ble_eq_true rfl⟩ rfl rfl (Nat.le_of_ble_eq_true rfl) dX3_settleBy_141 ⟨Nat.le_refl _, Nat.le_refl _⟩ (fun hrv => av_eq (st2 := []) rfl rfl rfl rfl ?_))
  refine av_aload_n (pc := 144) (j := 0) C dX3_settleBy_144 rfl rfl ?_
  refine av_aload_n (pc := 145) (j := 0) C dX3_settleBy_145 rfl rfl ?_
  refine av_getR (pc := 146) (k := 7) (r := 15) C fl_X3_38 sk_1 rfl dX3_settleBy_146 ?_
  refine av_iload_n (pc := 149) (j := 1) C dX3_settleBy_149 rfl rfl ?_
  obtain ⟨x36, S35, hc37, hs⟩ := am_b2_of hs
  refine av_eq (st2 := [am_I b1, am_R 15, am_R 1]) rfl rfl rfl rfl (av_callV (pc := 150) (as := [am_I b1]) (rest := [am_R 1]) C (ct_X4_at l G 15 48 100 sk_15 sk_48 rfl b1 S33 x36 S35 hc37) ym_X4_at si_X3_67 im_X4_at se_X4_at sk_15 rfl ⟨Nat.le_of_ble_eq_true rfl, Nat.le_of_ble_eq_true rfl⟩ rfl rfl (Nat.le_of_ble_eq_true rfl) dX3_settleBy_150 ⟨Nat.le_refl _, Nat.le_refl _⟩ (fun hrv => av_eq (st2 := [am_I x36, am_R 1]) rfl rfl rfl rfl ?_))
  refine av_aload_n (pc := 153) (j := 0) C dX3_settleBy_153 rfl rfl ?_
  refine av_getR (pc := 154) (k := 8) (r := 16) C fl_X3_41 sk_1 rfl dX3_settleBy_154 ?_
  refine av_iload_n (pc := 157) (j := 1) C dX3_settleBy_157 rfl rfl ?_
  obtain ⟨x39, S38, hc40, hs⟩ := am_b2_of hs
  refine av_eq (st2 := [am_I b1, am_R 16, am_I x36, am_R 1]) rfl rfl rfl rfl (av_callV (pc := 158) (as := [am_I b1]) (rest := [am_I x36, am_R 1]) C (ct_X4_at l G 16 49 100 sk_16 sk_49 rfl b1 S35 x39 S38 hc40) ym_X4_at si_X3_67 im_X4_at se_X4_at sk_16 rfl ⟨Nat.le_of_ble_eq_true rfl, Nat.le_of_ble_eq_true rfl⟩ rfl rfl (Nat.le_of_ble_eq_true rfl) dX3_settleBy_158 ⟨Nat.le_refl _, Nat.le_refl _⟩ (fun hrv => av_eq (st2 := [am_I x39, am_I x36, am_R 1]) rfl rfl rfl rfl ?_))
  refine av_aload_n (pc := 161) (j := 0) C dX3_settleBy_161 rfl rfl ?_
  refine av_getR (pc := 162) (k := 6) (r := 14) C fl_X3_35 sk_1 rfl dX3_settleBy_162 ?_
  refine av_iload_n (pc := 165) (j := 1) C dX3_settleBy_165 rfl rfl ?_
  obtain ⟨x42, S41, hc43, hs⟩ := am_b2_of hs
  refine av_eq (st2 := [am_I b1, am_R 14, am_I x39, am_I x36, am_R 1]) rfl rfl rfl rfl (av_callV (pc := 166) (as := [am_I b1]) (rest := [am_I x39, am_I x36, am_R 1]) C (ct_X4_at l G 14 47 100 sk_14 sk_47 rfl b1 S38 x42 S41 hc43) ym_X4_at si_X3_67 im_X4_at se_X4_at sk_14 rfl ⟨Nat.le_of_ble_eq_true rfl, Nat.le_of_ble_eq_true rfl⟩ rfl rfl (Nat.le_of_ble_eq_true rfl) dX3_settleBy_166 ⟨Nat.le_refl _, Nat.le_refl _⟩ (fun hrv => av_eq (st2 := [am_I x42, am_I x39, am_I x36, am_R 1]) rfl rfl rfl rfl ?_))
  obtain ⟨S44, hc45, hs⟩ := am_b1_of hs
  refine av_eq (st2 := [am_I x42, am_I x39, am_I x36, am_R 1]) rfl rfl rfl rfl (av_callV (pc := 169) (as := [am_I x36, am_I x39, am_I x42]) (rest := []) C (ct_X3_lineUp l G x36 x39 x42 S41 S44 hc45) ym_X3_lineUp si_X3_114 im_X3_lineUp se_X3_lineUp sk_1 rfl ⟨Nat.le_of_ble_eq_true rfl, Nat.le_of_ble_eq_true rfl⟩ rfl rfl (Nat.le_of_ble_eq_true rfl) dX3_settleBy_169 ⟨Nat.le_refl _, Nat.le_refl _⟩ (fun hrv => av_eq (st2 := []) rfl rfl rfl rfl ?_))
  refine av_aload_n (pc := 172) (j := 0) C dX3_settleBy_172 rfl rfl ?_
  refine av_getR (pc := 173) (k := 6) (r := 14) C fl_X3_35 sk_1 rfl dX3_settleBy_173 ?_
  refine av_iload_n (pc := 176) (j := 1) C dX3_settleBy_176 rfl rfl ?_
  refine av_lconst (pc := 177) (x := 0) C dX3_settleBy_177 rfl rfl ?_
  obtain ⟨S46, hc47, hs⟩ := am_b1_of hs
  refine av_eq (st2 := [am_J 0, am_I b1, am_R 14]) rfl rfl rfl rfl (av_callV (pc := 178) (as := [am_I b1, am_J 0]) (rest := []) C (ct_X4_put l G 14 47 100 sk_14 sk_47 rfl b1 0 S44 S46 hc47) ym_X4_put si_X3_79 im_X4_put se_X4_put sk_14 rfl ⟨Nat.le_of_ble_eq_true rfl, Nat.le_of_ble_eq_true rfl⟩ rfl rfl (Nat.le_of_ble_eq_true rfl) dX3_settleBy_178 ⟨Nat.le_refl _, Nat.le_refl _⟩ (fun hrv => av_eq (st2 := []) rfl rfl rfl rfl ?_))
  obtain rfl := am_inj1 hs
  exact av_vret C hr hlocks dX3_settleBy_181
def sf_X3_settleBy_111 (b1 : Int) (b3 : Int) (b6 : Int) (b7 : Int) (S : am_S) : Option (am_S) := (am_b1 (sf_X4_put 41 100 b1 b7 S) (fun S28 => (if b6 = 0 then (sf_X3_settleBy_141 b1 b3 b1 S28) else (am_b2 (sf_X8_of 0 (-1) S28) (fun x31 S30 => (sf_X3_settleBy_141 b1 x31 b1 S30))))))
set_option maxHeartbeats 4000000 in
set_option maxRecDepth 100000 in
theorem wk_X3_settleBy_111 {p : Program} {l : Launch} {e : Env} {s : State} {m : MethodId} {args : Array Value} {below : List Frame} {meth : Method} {c : Code} {G : am_G} (C : am_C p s m args c cX3_settleBy 8 RX3 G) (hr : meth.sig.returnType = none) (hlocks : meth.locks = false) (b1 : Int) (b3 : Int) (b6 : Int) (b7 : Int) (S : am_S) (S2 : am_S) (hs : sf_X3_settleBy_111 b1 b3 b6 b7 S = some S2) : am_V p l e (am_rm 2 46) s m args below meth c (MQ below (am_Q G none S2) args s 0 0 (am_A G)) G (am_A G) s.heap 8 0 0 111 [(0, am_R 1), (1, am_I b1), (3, am_J b3), (6, am_I b6), (7, am_I b7)] [] S := by
  unfold sf_X3_settleBy_111 at hs
  refine av_aload_n (pc := 111) (j := 0) C dX3_settleBy_111 rfl rfl ?_
  refine av_getR (pc := 112) (k := 0) (r := 8) C fl_X3_14 sk_1 rfl dX3_settleBy_112 ?_
  refine av_iload_n (pc := 115) (j := 1) C dX3_settleBy_115 rfl rfl ?_
  refine av_iload (pc := 116) (j := 4) C dX3_settleBy_116 rfl ?_
  refine av_i2l (pc := 118) C dX3_settleBy_118 ?_
  obtain ⟨S28, hc29, hs⟩ := am_b1_of hs
  refine av_eq (st2 := [am_J b7, am_I b1, am_R 8]) rfl rfl rfl rfl (av_callV (pc := 119) (as := [am_I b1, am_J b7]) (rest := []) C (ct_X4_put l G 8 41 100 sk_8 sk_41 rfl b1 b7 S S28 hc29) ym_X4_put si_X3_79 im_X4_put se_X4_put sk_8 rfl ⟨Nat.le_of_ble_eq_true rfl, Nat.le_of_ble_eq_true rfl⟩ rfl rfl (Nat.le_of_ble_eq_true rfl) dX3_settleBy_119 ⟨Nat.le_refl _, Nat.le_refl _⟩ (fun hrv => av_eq (st2 := []) rfl rfl rfl rfl ?_))
  refine av_aload_n (pc := 122) (j := 0) C dX3_settleBy_122 rfl rfl ?_
  refine av_getR (pc := 123) (k := 1) (r := 9) C fl_X3_20 sk_1 rfl dX3_settleBy_123 ?_
  refine av_iload_n (pc := 126) (j := 1) C dX3_settleBy_126 rfl rfl ?_
  refine av_iload (pc := 127) (j := 3) C dX3_settleBy_127 rfl ?_
  refine av_if_eq (pc := 129) (tgt := 140) C dX3_settleBy_129 (by decide) (fun hc => ?_) (fun hc => ?_)
  · rw [if_pos hc] at hs
    refine av_lload_n (pc := 140) (j := 2) C dX3_settleBy_140 rfl rfl ?_
    refine av_lvsub (lv2 := [(0, am_R 1), (1, am_I b1)]) [0, 1] rfl ?_
    exact wk_X3_settleBy_141 C hr hlocks b1 b3 b1 S28 S2 hs
  · rw [if_neg hc] at hs
    refine av_iconst (pc := 132) C dX3_settleBy_132 rfl ?_
    refine av_iconst (pc := 133) C dX3_settleBy_133 rfl ?_
    obtain ⟨x31, S30, hc32, hs⟩ := am_b2_of hs
    refine av_eq (st2 := [am_I (-1), am_I 0, am_I b1, am_R 9]) rfl rfl rfl rfl (av_callS (pc := 134) (as := [am_I 0, am_I (-1)]) (rest := [am_I b1, am_R 9]) C (ct_X8_of l G 0 (-1) S28 x31 S30 hc32) ym_X8_of si_X3_106 st_X8_of ⟨Nat.le_of_ble_eq_true rfl, Nat.le_of_ble_eq_true rfl⟩ rfl rfl (Nat.le_of_ble_eq_true rfl) dX3_settleBy_134 ⟨Nat.le_refl _, Nat.le_refl _⟩ (fun hrv => av_eq (st2 := [am_J x31, am_I b1, am_R 9]) rfl rfl rfl rfl ?_))
    refine av_goto (pc := 137) (tgt := 141) C dX3_settleBy_137 (by decide) ?_
    refine av_lvsub (lv2 := [(0, am_R 1), (1, am_I b1)]) [0, 1] rfl ?_
    exact wk_X3_settleBy_141 C hr hlocks b1 x31 b1 S30 S2 hs
def sf_X3_settleBy_71 (b1 : Int) (b3 : Int) (b6 : Int) (t0 : Int) (S : am_S) : Option (am_S) := (if t0 = 1 then (am_b2 (sf_X8_sortOf b3 S) (fun x16 S15 => (if x16 = 0 then (sf_X3_settleBy_111 b1 b3 b6 t0 S15) else (am_b1 (sf_X4_put 46 100 b1 b3 S15) (fun S18 => (am_b2 (sf_X9_jobOf b1 0 S18) (fun x21 S20 => (am_b2 (sf_X9_jobOf b1 0 S20) (fun x24 S23 => (am_b1 (sf_X3_lineUp x21 x24 1 S23) (fun S26 => (some S26)))))))))))) else (sf_X3_settleBy_111 b1 b3 b6 t0 S))
set_option maxHeartbeats 4000000 in
set_option maxRecDepth 100000 in
theorem wk_X3_settleBy_71 {p : Program} {l : Launch} {e : Env} {s : State} {m : MethodId} {args : Array Value} {below : List Frame} {meth : Method} {c : Code} {G : am_G} (C : am_C p s m args c cX3_settleBy 8 RX3 G) (hr : meth.sig.returnType = none) (hlocks : meth.locks = false) (b1 : Int) (b3 : Int) (b6 : Int) (t0 : Int) (S : am_S) (S2 : am_S) (hs : sf_X3_settleBy_71 b1 b3 b6 t0 S = some S2) : am_V p l e (am_rm 2 46) s m args below meth c (MQ below (am_Q G none S2) args s 0 0 (am_A G)) G (am_A G) s.heap 8 0 0 71 [(0, am_R 1), (1, am_I b1), (3, am_J b3), (6, am_I b6)] [am_I t0] S := by
  unfold sf_X3_settleBy_71 at hs
  refine av_istore (pc := 71) (i := 7) (lv2 := [(7, am_I t0), (0, am_R 1), (1, am_I b1), (3, am_J b3), (6, am_I b6)]) C dX3_settleBy_71 (by decide) rfl ?_
  refine av_iload (pc := 73) (j := 0) C dX3_settleBy_73 rfl ?_
  refine av_iconst (pc := 75) C dX3_settleBy_75 rfl ?_
  refine av_icmp_ne (pc := 76) (tgt := 111) C dX3_settleBy_76 (by decide) (fun hc => ?_) (fun hc => ?_)
  · rw [if_neg hc] at hs
    refine av_lvsub (lv2 := [(0, am_R 1), (1, am_I b1), (3, am_J b3), (6, am_I b6), (7, am_I t0)]) [1, 2, 3, 4, 0] rfl ?_
    exact wk_X3_settleBy_111 C hr hlocks b1 b3 b6 t0 S S2 hs
  · rw [if_pos (Decidable.not_not.mp hc)] at hs
    refine av_lload_n (pc := 79) (j := 3) C dX3_settleBy_79 rfl rfl ?_
    obtain ⟨x16, S15, hc17, hs⟩ := am_b2_of hs
    refine av_eq (st2 := [am_J b3]) rfl rfl rfl rfl (av_callS (pc := 80) (as := [am_J b3]) (rest := []) C (ct_X8_sortOf l G b3 S x16 S15 hc17) ym_X8_sortOf si_X3_83 st_X8_sortOf ⟨Nat.le_of_ble_eq_true rfl, Nat.le_of_ble_eq_true rfl⟩ rfl rfl (Nat.le_of_ble_eq_true rfl) dX3_settleBy_80 ⟨Nat.le_refl _, Nat.le_refl _⟩ (fun hrv => av_eq (st2 := [am_I x16]) rfl rfl rfl rfl ?_))
    refine av_if_eq (pc := 83) (tgt := 111) C dX3_settleBy_83 (by decide) (fun hc => ?_) (fun hc => ?_)
    · rw [if_pos hc] at hs
      refine av_lvsub (lv2 := [(0, am_R 1), (1, am_I b1), (3, am_J b3), (6, am_I b6), (7, am_I t0)]) [1, 2, 3, 4, 0] rfl ?_
      exact wk_X3_settleBy_111 C hr hlocks b1 b3 b6 t0 S15 S2 hs
    · rw [if_neg hc] at hs
      refine av_aload_n (pc := 86) (j := 1) C dX3_settleBy_86 rfl rfl ?_
      refine av_getR (pc := 87) (k := 5) (r := 13) C fl_X3_32 sk_1 rfl dX3_settleBy_87 ?_
      refine av_iload_n (pc := 90) (j := 2) C dX3_settleBy_90 rfl rfl ?_
      refine av_lload_n (pc := 91) (j := 3) C dX3_settleBy_91 rfl rfl ?_
      obtain ⟨S18, hc19, hs⟩ := am_b1_of hs
      refine av_eq (st2 := [am_J b3, am_I b1, am_R 13]) rfl rfl rfl rfl (av_callV (pc := 92) (as := [am_I b1, am_J b3]) (rest := []) C (ct_X4_put l G 13 46 100 sk_13 sk_46 rfl b1 b3 S15 S18 hc19) ym_X4_put si_X3_79 im_X4_put se_X4_put sk_13 rfl ⟨Nat.le_of_ble_eq_true rfl, Nat.le_of_ble_eq_true rfl⟩ rfl rfl (Nat.le_of_ble_eq_true rfl) dX3_settleBy_92 ⟨Nat.le_refl _, Nat.le_refl _⟩ (fun hrv => av_eq (st2 := []) rfl rfl rfl rfl ?_))
      refine av_aload_n (pc := 95) (j := 1) C dX3_settleBy_95 rfl rfl ?_
      refine av_iload_n (pc := 96) (j := 2) C dX3_settleBy_96 rfl rfl ?_
      refine av_iconst (pc := 97) C dX3_settleBy_97 rfl ?_
      obtain ⟨x21, S20, hc22, hs⟩ := am_b2_of hs
      refine av_eq (st2 := [am_I 0, am_I b1, am_R 1]) rfl rfl rfl rfl (av_callSN (pc := 98) (as := [am_I b1, am_I 0]) (rest := [am_R 1]) C (ct_X9_jobOf l G b1 0 S18 x21 S20 hc22) ym_X9_jobOf si_X3_110 st_X9_jobOf ⟨Nat.le_of_ble_eq_true rfl, Nat.le_of_ble_eq_true rfl⟩ rfl rfl (Nat.le_of_ble_eq_true rfl) dX3_settleBy_98 ⟨Nat.le_refl _, Nat.le_refl _⟩ (fun hrv => av_eq (st2 := [am_I x21, am_R 1]) rfl rfl rfl rfl ?_))
      refine av_iload_n (pc := 101) (j := 2) C dX3_settleBy_101 rfl rfl ?_
      refine av_iconst (pc := 102) C dX3_settleBy_102 rfl ?_
      obtain ⟨x24, S23, hc25, hs⟩ := am_b2_of hs
      refine av_eq (st2 := [am_I 0, am_I b1, am_I x21, am_R 1]) rfl rfl rfl rfl (av_callSN (pc := 103) (as := [am_I b1, am_I 0]) (rest := [am_I x21, am_R 1]) C (ct_X9_jobOf l G b1 0 S20 x24 S23 hc25) ym_X9_jobOf si_X3_110 st_X9_jobOf ⟨Nat.le_of_ble_eq_true rfl, Nat.le_of_ble_eq_true rfl⟩ rfl rfl (Nat.le_of_ble_eq_true rfl) dX3_settleBy_103 ⟨Nat.le_refl _, Nat.le_refl _⟩ (fun hrv => av_eq (st2 := [am_I x24, am_I x21, am_R 1]) rfl rfl rfl rfl ?_))
      refine av_iconst (pc := 106) C dX3_settleBy_106 rfl ?_
      obtain ⟨S26, hc27, hs⟩ := am_b1_of hs
      refine av_eq (st2 := [am_I 1, am_I x24, am_I x21, am_R 1]) rfl rfl rfl rfl (av_callV (pc := 107) (as := [am_I x21, am_I x24, am_I 1]) (rest := []) C (ct_X3_lineUp l G x21 x24 1 S23 S26 hc27) ym_X3_lineUp si_X3_114 im_X3_lineUp se_X3_lineUp sk_1 rfl ⟨Nat.le_of_ble_eq_true rfl, Nat.le_of_ble_eq_true rfl⟩ rfl rfl (Nat.le_of_ble_eq_true rfl) dX3_settleBy_107 ⟨Nat.le_refl _, Nat.le_refl _⟩ (fun hrv => av_eq (st2 := []) rfl rfl rfl rfl ?_))
      obtain rfl := am_inj1 hs
      exact av_vret C hr hlocks dX3_settleBy_110
def sf_X3_settleBy (a1 : Int) (a2 : Int) (a3 : Int) (a4 : Int) (S : am_S) : Option (am_S) := (am_b2 (sf_X3_has a1 S) (fun x2 S1 => (if x2 = 0 then (some S1) else (am_b2 (sf_X4_at 43 100 a1 S1) (fun x5 S4 => (if a4 = x5 then (am_b2 (sf_X3_isKeyUsed a1 S4) (fun x8 S7 => (if x8 = 0 then (am_b1 (sf_X4_put 44 100 a1 1 S7) (fun S10 => (if a2 = 1 then (am_b2 (sf_X8_of 1 a1 S10) (fun x13 S12 => (if (am_cmp a3 x13) = 0 then (sf_X3_settleBy_71 a1 a3 1 2 S12) else (sf_X3_settleBy_71 a1 a3 0 a2 S12)))) else (sf_X3_settleBy_71 a1 a3 0 a2 S10)))) else (some S7)))) else (some S4)))))))
set_option maxHeartbeats 4000000 in
set_option maxRecDepth 100000 in
theorem ct_X3_settleBy (l : Launch) (G : am_G) (a1 : Int) (a2 : Int) (a3 : Int) (a4 : Int) (S : am_S) (S2 : am_S) (hs : sf_X3_settleBy a1 a2 a3 a4 S = some S2) : am_met l yX3_settleBy cX3_settleBy 8 none 2 46 G [am_R 1, am_I a1, am_I a2, am_J a3, am_I a4] S none S2 := by
  refine am_enter ym_X3_settleBy (Nat.le_of_ble_eq_true rfl) ?_
  intro p e s m args below meth c C hr hlocks
  refine av_eq (lv2 := [(0, am_R 1), (1, am_I a1), (2, am_I a2), (3, am_J a3), (5, am_I a4)]) rfl rfl rfl rfl ?_
  unfold sf_X3_settleBy at hs
  refine av_aload_n (pc := 0) (j := 0) C dX3_settleBy_0 rfl rfl ?_
  refine av_iload_n (pc := 1) (j := 1) C dX3_settleBy_1 rfl rfl ?_
  obtain ⟨x2, S1, hc3, hs⟩ := am_b2_of hs
  refine av_eq (st2 := [am_I a1, am_R 1]) rfl rfl rfl rfl (av_callV (pc := 2) (as := [am_I a1]) (rest := []) C (ct_X3_has l G a1 S x2 S1 hc3) ym_X3_has si_X3_100 im_X3_has se_X3_has sk_1 rfl ⟨Nat.le_of_ble_eq_true rfl, Nat.le_of_ble_eq_true rfl⟩ rfl rfl (Nat.le_of_ble_eq_true rfl) dX3_settleBy_2 ⟨Nat.le_refl _, Nat.le_refl _⟩ (fun hrv => av_eq (st2 := [am_I x2]) rfl rfl rfl rfl ?_))
  refine av_if_eq (pc := 5) (tgt := 29) C dX3_settleBy_5 (by decide) (fun hc => ?_) (fun hc => ?_)
  · rw [if_pos hc] at hs
    obtain rfl := am_inj1 hs
    exact av_vret C hr hlocks dX3_settleBy_29
  · rw [if_neg hc] at hs
    refine av_iload (pc := 8) (j := 4) C dX3_settleBy_8 rfl ?_
    refine av_aload_n (pc := 10) (j := 0) C dX3_settleBy_10 rfl rfl ?_
    refine av_getR (pc := 11) (k := 2) (r := 10) C fl_X3_23 sk_1 rfl dX3_settleBy_11 ?_
    refine av_iload_n (pc := 14) (j := 1) C dX3_settleBy_14 rfl rfl ?_
    obtain ⟨x5, S4, hc6, hs⟩ := am_b2_of hs
    refine av_eq (st2 := [am_I a1, am_R 10, am_I a4]) rfl rfl rfl rfl (av_callV (pc := 15) (as := [am_I a1]) (rest := [am_I a4]) C (ct_X4_at l G 10 43 100 sk_10 sk_43 rfl a1 S1 x5 S4 hc6) ym_X4_at si_X3_67 im_X4_at se_X4_at sk_10 rfl ⟨Nat.le_of_ble_eq_true rfl, Nat.le_of_ble_eq_true rfl⟩ rfl rfl (Nat.le_of_ble_eq_true rfl) dX3_settleBy_15 ⟨Nat.le_refl _, Nat.le_refl _⟩ (fun hrv => av_eq (st2 := [am_I x5, am_I a4]) rfl rfl rfl rfl ?_))
    refine av_icmp_ne (pc := 18) (tgt := 29) C dX3_settleBy_18 (by decide) (fun hc => ?_) (fun hc => ?_)
    · rw [if_neg hc] at hs
      obtain rfl := am_inj1 hs
      exact av_vret C hr hlocks dX3_settleBy_29
    · rw [if_pos (Decidable.not_not.mp hc)] at hs
      refine av_aload_n (pc := 21) (j := 0) C dX3_settleBy_21 rfl rfl ?_
      refine av_iload_n (pc := 22) (j := 1) C dX3_settleBy_22 rfl rfl ?_
      obtain ⟨x8, S7, hc9, hs⟩ := am_b2_of hs
      refine av_eq (st2 := [am_I a1, am_R 1]) rfl rfl rfl rfl (av_callV (pc := 23) (as := [am_I a1]) (rest := []) C (ct_X3_isKeyUsed l G a1 S4 x8 S7 hc9) ym_X3_isKeyUsed si_X3_103 im_X3_isKeyUsed se_X3_isKeyUsed sk_1 rfl ⟨Nat.le_of_ble_eq_true rfl, Nat.le_of_ble_eq_true rfl⟩ rfl rfl (Nat.le_of_ble_eq_true rfl) dX3_settleBy_23 ⟨Nat.le_refl _, Nat.le_refl _⟩ (fun hrv => av_eq (st2 := [am_I x8]) rfl rfl rfl rfl ?_))
      refine av_if_eq (pc := 26) (tgt := 30) C dX3_settleBy_26 (by decide) (fun hc => ?_) (fun hc => ?_)
      · rw [if_pos hc] at hs
        refine av_aload_n (pc := 30) (j := 0) C dX3_settleBy_30 rfl rfl ?_
        refine av_getR (pc := 31) (k := 3) (r := 11) C fl_X3_26 sk_1 rfl dX3_settleBy_31 ?_
        refine av_iload_n (pc := 34) (j := 1) C dX3_settleBy_34 rfl rfl ?_
        refine av_lconst (pc := 35) (x := 1) C dX3_settleBy_35 rfl rfl ?_
        obtain ⟨S10, hc11, hs⟩ := am_b1_of hs
        refine av_eq (st2 := [am_J 1, am_I a1, am_R 11]) rfl rfl rfl rfl (av_callV (pc := 36) (as := [am_I a1, am_J 1]) (rest := []) C (ct_X4_put l G 11 44 100 sk_11 sk_44 rfl a1 1 S7 S10 hc11) ym_X4_put si_X3_79 im_X4_put se_X4_put sk_11 rfl ⟨Nat.le_of_ble_eq_true rfl, Nat.le_of_ble_eq_true rfl⟩ rfl rfl (Nat.le_of_ble_eq_true rfl) dX3_settleBy_36 ⟨Nat.le_refl _, Nat.le_refl _⟩ (fun hrv => av_eq (st2 := []) rfl rfl rfl rfl ?_))
        refine av_iload_n (pc := 39) (j := 2) C dX3_settleBy_39 rfl rfl ?_
        refine av_iconst (pc := 40) C dX3_settleBy_40 rfl ?_
        refine av_icmp_ne (pc := 41) (tgt := 58) C dX3_settleBy_41 (by decide) (fun hc => ?_) (fun hc => ?_)
        · rw [if_neg hc] at hs
          refine av_iconst (pc := 58) C dX3_settleBy_58 rfl ?_
          refine av_istore (pc := 59) (i := 6) (lv2 := [(6, am_I 0), (0, am_R 1), (1, am_I a1), (2, am_I a2), (3, am_J a3), (5, am_I a4)]) C dX3_settleBy_59 (by decide) rfl ?_
          refine av_iload (pc := 61) (j := 0) C dX3_settleBy_61 rfl ?_
          refine av_if_eq (pc := 63) (tgt := 70) C dX3_settleBy_63 (by decide) (fun hc => ?_) (fun hc => absurd (by decide) hc)
          refine av_iload_n (pc := 70) (j := 3) C dX3_settleBy_70 rfl rfl ?_
          refine av_lvsub (lv2 := [(0, am_R 1), (1, am_I a1), (3, am_J a3), (6, am_I 0)]) [1, 2, 4, 0] rfl ?_
          exact wk_X3_settleBy_71 C hr hlocks a1 a3 0 a2 S10 S2 hs
        · rw [if_pos (Decidable.not_not.mp hc)] at hs
          refine av_lload_n (pc := 44) (j := 3) C dX3_settleBy_44 rfl rfl ?_
          refine av_iconst (pc := 45) C dX3_settleBy_45 rfl ?_
          refine av_iload_n (pc := 46) (j := 1) C dX3_settleBy_46 rfl rfl ?_
          obtain ⟨x13, S12, hc14, hs⟩ := am_b2_of hs
          refine av_eq (st2 := [am_I a1, am_I 1, am_J a3]) rfl rfl rfl rfl (av_callS (pc := 47) (as := [am_I 1, am_I a1]) (rest := [am_J a3]) C (ct_X8_of l G 1 a1 S10 x13 S12 hc14) ym_X8_of si_X3_106 st_X8_of ⟨Nat.le_of_ble_eq_true rfl, Nat.le_of_ble_eq_true rfl⟩ rfl rfl (Nat.le_of_ble_eq_true rfl) dX3_settleBy_47 ⟨Nat.le_refl _, Nat.le_refl _⟩ (fun hrv => av_eq (st2 := [am_J x13, am_J a3]) rfl rfl rfl rfl ?_))
          refine av_lcmp (pc := 50) C dX3_settleBy_50 ?_
          refine av_if_ne (pc := 51) (tgt := 58) C dX3_settleBy_51 (by decide) (fun hc => ?_) (fun hc => ?_)
          · rw [if_neg hc] at hs
            refine av_iconst (pc := 58) C dX3_settleBy_58 rfl ?_
            refine av_istore (pc := 59) (i := 6) (lv2 := [(6, am_I 0), (0, am_R 1), (1, am_I a1), (2, am_I a2), (3, am_J a3), (5, am_I a4)]) C dX3_settleBy_59 (by decide) rfl ?_
            refine av_iload (pc := 61) (j := 0) C dX3_settleBy_61 rfl ?_
            refine av_if_eq (pc := 63) (tgt := 70) C dX3_settleBy_63 (by decide) (fun hc => ?_) (fun hc => absurd (by decide) hc)
            refine av_iload_n (pc := 70) (j := 3) C dX3_settleBy_70 rfl rfl ?_
            refine av_lvsub (lv2 := [(0, am_R 1), (1, am_I a1), (3, am_J a3), (6, am_I 0)]) [1, 2, 4, 0] rfl ?_
            exact wk_X3_settleBy_71 C hr hlocks a1 a3 0 a2 S12 S2 hs
          · rw [if_pos (Decidable.not_not.mp hc)] at hs
            refine av_iconst (pc := 54) C dX3_settleBy_54 rfl ?_
            refine av_goto (pc := 55) (tgt := 59) C dX3_settleBy_55 (by decide) ?_
            refine av_istore (pc := 59) (i := 6) (lv2 := [(6, am_I 1), (0, am_R 1), (1, am_I a1), (2, am_I a2), (3, am_J a3), (5, am_I a4)]) C dX3_settleBy_59 (by decide) rfl ?_
            refine av_iload (pc := 61) (j := 0) C dX3_settleBy_61 rfl ?_
            refine av_if_eq (pc := 63) (tgt := 70) C dX3_settleBy_63 (by decide) (fun hc => absurd hc (by decide)) (fun hc => ?_)
            refine av_iconst (pc := 66) C dX3_settleBy_66 rfl ?_
            refine av_goto (pc := 67) (tgt := 71) C dX3_settleBy_67 (by decide) ?_
            refine av_lvsub (lv2 := [(0, am_R 1), (1, am_I a1), (3, am_J a3), (6, am_I 1)]) [1, 2, 4, 0] rfl ?_
            exact wk_X3_settleBy_71 C hr hlocks a1 a3 1 2 S12 S2 hs
      · rw [if_neg hc] at hs
        obtain rfl := am_inj1 hs
        exact av_vret C hr hlocks dX3_settleBy_29
def sf_X1_settleIfComplete (a1 : Int) (S : am_S) : Option (am_S) := (am_b2 (sf_X4_at 65 100 a1 S) (fun x2 S1 => (if 0 < x2 then (some S1) else (am_b2 (sf_X4_at 64 100 a1 S1) (fun x5 S4 => (if x5 = 1 then (some S4) else (am_b2 (sf_X4_at 64 100 a1 S4) (fun x8 S7 => (if x8 = 3 then (am_b2 (sf_X8_of 0 (-5) S7) (fun x19 S18 => (am_b1 (sf_X3_settleBy a1 2 x19 0 S18) (fun S21 => (some S21))))) else (am_b2 (sf_X4_at 66 100 a1 S7) (fun x11 S10 => (am_b2 (sf_X8_of 0 x11 S10) (fun x14 S13 => (am_b1 (sf_X3_settleBy a1 1 x14 0 S13) (fun S16 => (some S16))))))))))))))))
set_option maxHeartbeats 4000000 in
set_option maxRecDepth 100000 in
theorem ct_X1_settleIfComplete (l : Launch) (G : am_G) (a1 : Int) (S : am_S) (S2 : am_S) (hs : sf_X1_settleIfComplete a1 S = some S2) : am_met l yX1_settleIfComplete cX1_settleIfComplete 2 none 3 73 G [am_R 6, am_I a1] S none S2 := by
  refine am_enter ym_X1_settleIfComplete (Nat.le_of_ble_eq_true rfl) ?_
  intro p e s m args below meth c C hr hlocks
  refine av_eq (lv2 := [(0, am_R 6), (1, am_I a1)]) rfl rfl rfl rfl ?_
  unfold sf_X1_settleIfComplete at hs
  refine av_aload_n (pc := 0) (j := 0) C dX1_settleIfComplete_0 rfl rfl ?_
  refine av_getR (pc := 1) (k := 2) (r := 32) C fl_X1_23 sk_6 rfl dX1_settleIfComplete_1 ?_
  refine av_iload_n (pc := 4) (j := 1) C dX1_settleIfComplete_4 rfl rfl ?_
  obtain ⟨x2, S1, hc3, hs⟩ := am_b2_of hs
  refine av_eq (st2 := [am_I a1, am_R 32]) rfl rfl rfl rfl (av_callV (pc := 5) (as := [am_I a1]) (rest := []) C (ct_X4_at l G 32 65 100 sk_32 sk_65 rfl a1 S x2 S1 hc3) ym_X4_at si_X1_74 im_X4_at se_X4_at sk_32 rfl ⟨Nat.le_of_ble_eq_true rfl, Nat.le_of_ble_eq_true rfl⟩ rfl rfl (Nat.le_of_ble_eq_true rfl) dX1_settleIfComplete_5 ⟨Nat.le_refl _, Nat.le_refl _⟩ (fun hrv => av_eq (st2 := [am_I x2]) rfl rfl rfl rfl ?_))
  refine av_if_gt (pc := 8) (tgt := 23) C dX1_settleIfComplete_8 (by decide) (fun hc => ?_) (fun hc => ?_)
  · rw [if_pos hc] at hs
    obtain rfl := am_inj1 hs
    exact av_vret C hr hlocks dX1_settleIfComplete_23
  · rw [if_neg hc] at hs
    refine av_aload_n (pc := 11) (j := 0) C dX1_settleIfComplete_11 rfl rfl ?_
    refine av_getR (pc := 12) (k := 1) (r := 31) C fl_X1_20 sk_6 rfl dX1_settleIfComplete_12 ?_
    refine av_iload_n (pc := 15) (j := 1) C dX1_settleIfComplete_15 rfl rfl ?_
    obtain ⟨x5, S4, hc6, hs⟩ := am_b2_of hs
    refine av_eq (st2 := [am_I a1, am_R 31]) rfl rfl rfl rfl (av_callV (pc := 16) (as := [am_I a1]) (rest := []) C (ct_X4_at l G 31 64 100 sk_31 sk_64 rfl a1 S1 x5 S4 hc6) ym_X4_at si_X1_74 im_X4_at se_X4_at sk_31 rfl ⟨Nat.le_of_ble_eq_true rfl, Nat.le_of_ble_eq_true rfl⟩ rfl rfl (Nat.le_of_ble_eq_true rfl) dX1_settleIfComplete_16 ⟨Nat.le_refl _, Nat.le_refl _⟩ (fun hrv => av_eq (st2 := [am_I x5]) rfl rfl rfl rfl ?_))
    refine av_iconst (pc := 19) C dX1_settleIfComplete_19 rfl ?_
    refine av_icmp_ne (pc := 20) (tgt := 24) C dX1_settleIfComplete_20 (by decide) (fun hc => ?_) (fun hc => ?_)
    · rw [if_neg hc] at hs
      refine av_aload_n (pc := 24) (j := 0) C dX1_settleIfComplete_24 rfl rfl ?_
      refine av_getR (pc := 25) (k := 1) (r := 31) C fl_X1_20 sk_6 rfl dX1_settleIfComplete_25 ?_
      refine av_iload_n (pc := 28) (j := 1) C dX1_settleIfComplete_28 rfl rfl ?_
      obtain ⟨x8, S7, hc9, hs⟩ := am_b2_of hs
      refine av_eq (st2 := [am_I a1, am_R 31]) rfl rfl rfl rfl (av_callV (pc := 29) (as := [am_I a1]) (rest := []) C (ct_X4_at l G 31 64 100 sk_31 sk_64 rfl a1 S4 x8 S7 hc9) ym_X4_at si_X1_74 im_X4_at se_X4_at sk_31 rfl ⟨Nat.le_of_ble_eq_true rfl, Nat.le_of_ble_eq_true rfl⟩ rfl rfl (Nat.le_of_ble_eq_true rfl) dX1_settleIfComplete_29 ⟨Nat.le_refl _, Nat.le_refl _⟩ (fun hrv => av_eq (st2 := [am_I x8]) rfl rfl rfl rfl ?_))
      refine av_iconst (pc := 32) C dX1_settleIfComplete_32 rfl ?_
      refine av_icmp_ne (pc := 33) (tgt := 55) C dX1_settleIfComplete_33 (by decide) (fun hc => ?_) (fun hc => ?_)
      · rw [if_neg hc] at hs
        refine av_aload_n (pc := 55) (j := 0) C dX1_settleIfComplete_55 rfl rfl ?_
        refine av_getR (pc := 56) (k := 4) (r := 1) C fl_X1_33 sk_6 rfl dX1_settleIfComplete_56 ?_
        refine av_iload_n (pc := 59) (j := 1) C dX1_settleIfComplete_59 rfl rfl ?_
        refine av_iconst (pc := 60) C dX1_settleIfComplete_60 rfl ?_
        refine av_iconst (pc := 61) C dX1_settleIfComplete_61 rfl ?_
        refine av_aload_n (pc := 62) (j := 0) C dX1_settleIfComplete_62 rfl rfl ?_
        refine av_getR (pc := 63) (k := 3) (r := 33) C fl_X1_26 sk_6 rfl dX1_settleIfComplete_63 ?_
        refine av_iload_n (pc := 66) (j := 1) C dX1_settleIfComplete_66 rfl rfl ?_
        obtain ⟨x11, S10, hc12, hs⟩ := am_b2_of hs
        refine av_eq (st2 := [am_I a1, am_R 33, am_I 0, am_I 1, am_I a1, am_R 1]) rfl rfl rfl rfl (av_callV (pc := 67) (as := [am_I a1]) (rest := [am_I 0, am_I 1, am_I a1, am_R 1]) C (ct_X4_at l G 33 66 100 sk_33 sk_66 rfl a1 S7 x11 S10 hc12) ym_X4_at si_X1_74 im_X4_at se_X4_at sk_33 rfl ⟨Nat.le_of_ble_eq_true rfl, Nat.le_of_ble_eq_true rfl⟩ rfl rfl (Nat.le_of_ble_eq_true rfl) dX1_settleIfComplete_67 ⟨Nat.le_refl _, Nat.le_refl _⟩ (fun hrv => av_eq (st2 := [am_I x11, am_I 0, am_I 1, am_I a1, am_R 1]) rfl rfl rfl rfl ?_))
        obtain ⟨x14, S13, hc15, hs⟩ := am_b2_of hs
        refine av_eq (st2 := [am_I x11, am_I 0, am_I 1, am_I a1, am_R 1]) rfl rfl rfl rfl (av_callS (pc := 70) (as := [am_I 0, am_I x11]) (rest := [am_I 1, am_I a1, am_R 1]) C (ct_X8_of l G 0 x11 S10 x14 S13 hc15) ym_X8_of si_X1_85 st_X8_of ⟨Nat.le_of_ble_eq_true rfl, Nat.le_of_ble_eq_true rfl⟩ rfl rfl (Nat.le_of_ble_eq_true rfl) dX1_settleIfComplete_70 ⟨Nat.le_refl _, Nat.le_refl _⟩ (fun hrv => av_eq (st2 := [am_J x14, am_I 1, am_I a1, am_R 1]) rfl rfl rfl rfl ?_))
        refine av_iconst (pc := 73) C dX1_settleIfComplete_73 rfl ?_
        obtain ⟨S16, hc17, hs⟩ := am_b1_of hs
        refine av_eq (st2 := [am_I 0, am_J x14, am_I 1, am_I a1, am_R 1]) rfl rfl rfl rfl (av_callV (pc := 74) (as := [am_I a1, am_I 1, am_J x14, am_I 0]) (rest := []) C (ct_X3_settleBy l G a1 1 x14 0 S13 S16 hc17) ym_X3_settleBy si_X1_81 im_X3_settleBy se_X3_settleBy sk_1 rfl ⟨Nat.le_of_ble_eq_true rfl, Nat.le_of_ble_eq_true rfl⟩ rfl rfl (Nat.le_of_ble_eq_true rfl) dX1_settleIfComplete_74 ⟨Nat.le_refl _, Nat.le_refl _⟩ (fun hrv => av_eq (st2 := []) rfl rfl rfl rfl ?_))
        obtain rfl := am_inj1 hs
        exact av_vret C hr hlocks dX1_settleIfComplete_77
      · rw [if_pos (Decidable.not_not.mp hc)] at hs
        refine av_aload_n (pc := 36) (j := 0) C dX1_settleIfComplete_36 rfl rfl ?_
        refine av_getR (pc := 37) (k := 4) (r := 1) C fl_X1_33 sk_6 rfl dX1_settleIfComplete_37 ?_
        refine av_iload_n (pc := 40) (j := 1) C dX1_settleIfComplete_40 rfl rfl ?_
        refine av_iconst (pc := 41) C dX1_settleIfComplete_41 rfl ?_
        refine av_iconst (pc := 42) C dX1_settleIfComplete_42 rfl ?_
        refine av_bipush (pc := 43) C dX1_settleIfComplete_43 rfl ?_
        obtain ⟨x19, S18, hc20, hs⟩ := am_b2_of hs
        refine av_eq (st2 := [am_I (-5), am_I 0, am_I 2, am_I a1, am_R 1]) rfl rfl rfl rfl (av_callS (pc := 45) (as := [am_I 0, am_I (-5)]) (rest := [am_I 2, am_I a1, am_R 1]) C (ct_X8_of l G 0 (-5) S7 x19 S18 hc20) ym_X8_of si_X1_85 st_X8_of ⟨Nat.le_of_ble_eq_true rfl, Nat.le_of_ble_eq_true rfl⟩ rfl rfl (Nat.le_of_ble_eq_true rfl) dX1_settleIfComplete_45 ⟨Nat.le_refl _, Nat.le_refl _⟩ (fun hrv => av_eq (st2 := [am_J x19, am_I 2, am_I a1, am_R 1]) rfl rfl rfl rfl ?_))
        refine av_iconst (pc := 48) C dX1_settleIfComplete_48 rfl ?_
        obtain ⟨S21, hc22, hs⟩ := am_b1_of hs
        refine av_eq (st2 := [am_I 0, am_J x19, am_I 2, am_I a1, am_R 1]) rfl rfl rfl rfl (av_callV (pc := 49) (as := [am_I a1, am_I 2, am_J x19, am_I 0]) (rest := []) C (ct_X3_settleBy l G a1 2 x19 0 S18 S21 hc22) ym_X3_settleBy si_X1_81 im_X3_settleBy se_X3_settleBy sk_1 rfl ⟨Nat.le_of_ble_eq_true rfl, Nat.le_of_ble_eq_true rfl⟩ rfl rfl (Nat.le_of_ble_eq_true rfl) dX1_settleIfComplete_49 ⟨Nat.le_refl _, Nat.le_refl _⟩ (fun hrv => av_eq (st2 := []) rfl rfl rfl rfl ?_))
        refine av_goto (pc := 52) (tgt := 77) C dX1_settleIfComplete_52 (by decide) ?_
        obtain rfl := am_inj1 hs
        exact av_vret C hr hlocks dX1_settleIfComplete_77
    · rw [if_pos (Decidable.not_not.mp hc)] at hs
      obtain rfl := am_inj1 hs
      exact av_vret C hr hlocks dX1_settleIfComplete_23
def sf_X3_make (S : am_S) : Option (Int × am_S) := (am_b1 (sf_X4_put 41 100 (S.1 75) 0 S) (fun S1 => (am_b1 (sf_X4_put 42 100 (S.1 75) 0 S1) (fun S3 => (am_b1 (sf_X4_put 43 100 (S.1 75) 0 S3) (fun S5 => (am_b1 (sf_X4_put 44 100 (S.1 75) 0 S5) (fun S7 => (am_b1 (sf_X4_put 45 100 (S.1 75) 0 S7) (fun S9 => (am_b1 (sf_X4_put 47 100 (S.1 75) 0 S9) (fun S11 => (am_let (am_sI S11 75 (am_w32 ((S11.1 75) + 1))) (fun S13 => (some ((S.1 75), S13))))))))))))))))
set_option maxHeartbeats 4000000 in
set_option maxRecDepth 100000 in
theorem ct_X3_make (l : Launch) (G : am_G) (S : am_S) (x : Int) (S2 : am_S) (hs : sf_X3_make  S = some (x, S2)) : am_met l yX3_make cX3_make 2 (some .int) 1 23 G [am_R 1] S (some (am_I x)) S2 := by
  refine am_enter ym_X3_make (Nat.le_of_ble_eq_true rfl) ?_
  intro p e s m args below meth c C hr hlocks
  refine av_eq (lv2 := [(0, am_R 1)]) rfl rfl rfl rfl ?_
  unfold sf_X3_make at hs
  refine av_aload_n (pc := 0) (j := 0) C dX3_make_0 rfl rfl ?_
  refine av_getI (pc := 1) (k := 11) (n := 75) C fl_X3_50 sk_1 rfl rfl dX3_make_1 ?_
  refine av_istore_n (pc := 4) (i := 1) (lv2 := [(1, am_I (S.1 75)), (0, am_R 1)]) C dX3_make_4 rfl (by decide) rfl ?_
  refine av_aload_n (pc := 5) (j := 1) C dX3_make_5 rfl rfl ?_
  refine av_getR (pc := 6) (k := 0) (r := 8) C fl_X3_14 sk_1 rfl dX3_make_6 ?_
  refine av_iload_n (pc := 9) (j := 0) C dX3_make_9 rfl rfl ?_
  refine av_lconst (pc := 10) (x := 0) C dX3_make_10 rfl rfl ?_
  obtain ⟨S1, hc2, hs⟩ := am_b1_of hs
  refine av_eq (st2 := [am_J 0, am_I (S.1 75), am_R 8]) rfl rfl rfl rfl (av_callV (pc := 11) (as := [am_I (S.1 75), am_J 0]) (rest := []) C (ct_X4_put l G 8 41 100 sk_8 sk_41 rfl (S.1 75) 0 S S1 hc2) ym_X4_put si_X3_79 im_X4_put se_X4_put sk_8 rfl ⟨Nat.le_of_ble_eq_true rfl, Nat.le_of_ble_eq_true rfl⟩ rfl rfl (Nat.le_of_ble_eq_true rfl) dX3_make_11 ⟨Nat.le_refl _, Nat.le_refl _⟩ (fun hrv => av_eq (st2 := []) rfl rfl rfl rfl ?_))
  refine av_aload_n (pc := 14) (j := 1) C dX3_make_14 rfl rfl ?_
  refine av_getR (pc := 15) (k := 1) (r := 9) C fl_X3_20 sk_1 rfl dX3_make_15 ?_
  refine av_iload_n (pc := 18) (j := 0) C dX3_make_18 rfl rfl ?_
  refine av_lconst (pc := 19) (x := 0) C dX3_make_19 rfl rfl ?_
  obtain ⟨S3, hc4, hs⟩ := am_b1_of hs
  refine av_eq (st2 := [am_J 0, am_I (S.1 75), am_R 9]) rfl rfl rfl rfl (av_callV (pc := 20) (as := [am_I (S.1 75), am_J 0]) (rest := []) C (ct_X4_put l G 9 42 100 sk_9 sk_42 rfl (S.1 75) 0 S1 S3 hc4) ym_X4_put si_X3_79 im_X4_put se_X4_put sk_9 rfl ⟨Nat.le_of_ble_eq_true rfl, Nat.le_of_ble_eq_true rfl⟩ rfl rfl (Nat.le_of_ble_eq_true rfl) dX3_make_20 ⟨Nat.le_refl _, Nat.le_refl _⟩ (fun hrv => av_eq (st2 := []) rfl rfl rfl rfl ?_))
  refine av_aload_n (pc := 23) (j := 1) C dX3_make_23 rfl rfl ?_
  refine av_getR (pc := 24) (k := 2) (r := 10) C fl_X3_23 sk_1 rfl dX3_make_24 ?_
  refine av_iload_n (pc := 27) (j := 0) C dX3_make_27 rfl rfl ?_
  refine av_lconst (pc := 28) (x := 0) C dX3_make_28 rfl rfl ?_
  obtain ⟨S5, hc6, hs⟩ := am_b1_of hs
  refine av_eq (st2 := [am_J 0, am_I (S.1 75), am_R 10]) rfl rfl rfl rfl (av_callV (pc := 29) (as := [am_I (S.1 75), am_J 0]) (rest := []) C (ct_X4_put l G 10 43 100 sk_10 sk_43 rfl (S.1 75) 0 S3 S5 hc6) ym_X4_put si_X3_79 im_X4_put se_X4_put sk_10 rfl ⟨Nat.le_of_ble_eq_true rfl, Nat.le_of_ble_eq_true rfl⟩ rfl rfl (Nat.le_of_ble_eq_true rfl) dX3_make_29 ⟨Nat.le_refl _, Nat.le_refl _⟩ (fun hrv => av_eq (st2 := []) rfl rfl rfl rfl ?_))
  refine av_aload_n (pc := 32) (j := 1) C dX3_make_32 rfl rfl ?_
  refine av_getR (pc := 33) (k := 3) (r := 11) C fl_X3_26 sk_1 rfl dX3_make_33 ?_
  refine av_iload_n (pc := 36) (j := 0) C dX3_make_36 rfl rfl ?_
  refine av_lconst (pc := 37) (x := 0) C dX3_make_37 rfl rfl ?_
  obtain ⟨S7, hc8, hs⟩ := am_b1_of hs
  refine av_eq (st2 := [am_J 0, am_I (S.1 75), am_R 11]) rfl rfl rfl rfl (av_callV (pc := 38) (as := [am_I (S.1 75), am_J 0]) (rest := []) C (ct_X4_put l G 11 44 100 sk_11 sk_44 rfl (S.1 75) 0 S5 S7 hc8) ym_X4_put si_X3_79 im_X4_put se_X4_put sk_11 rfl ⟨Nat.le_of_ble_eq_true rfl, Nat.le_of_ble_eq_true rfl⟩ rfl rfl (Nat.le_of_ble_eq_true rfl) dX3_make_38 ⟨Nat.le_refl _, Nat.le_refl _⟩ (fun hrv => av_eq (st2 := []) rfl rfl rfl rfl ?_))
  refine av_aload_n (pc := 41) (j := 1) C dX3_make_41 rfl rfl ?_
  refine av_getR (pc := 42) (k := 4) (r := 12) C fl_X3_29 sk_1 rfl dX3_make_42 ?_
  refine av_iload_n (pc := 45) (j := 0) C dX3_make_45 rfl rfl ?_
  refine av_lconst (pc := 46) (x := 0) C dX3_make_46 rfl rfl ?_
  obtain ⟨S9, hc10, hs⟩ := am_b1_of hs
  refine av_eq (st2 := [am_J 0, am_I (S.1 75), am_R 12]) rfl rfl rfl rfl (av_callV (pc := 47) (as := [am_I (S.1 75), am_J 0]) (rest := []) C (ct_X4_put l G 12 45 100 sk_12 sk_45 rfl (S.1 75) 0 S7 S9 hc10) ym_X4_put si_X3_79 im_X4_put se_X4_put sk_12 rfl ⟨Nat.le_of_ble_eq_true rfl, Nat.le_of_ble_eq_true rfl⟩ rfl rfl (Nat.le_of_ble_eq_true rfl) dX3_make_47 ⟨Nat.le_refl _, Nat.le_refl _⟩ (fun hrv => av_eq (st2 := []) rfl rfl rfl rfl ?_))
  refine av_aload_n (pc := 50) (j := 1) C dX3_make_50 rfl rfl ?_
  refine av_getR (pc := 51) (k := 6) (r := 14) C fl_X3_35 sk_1 rfl dX3_make_51 ?_
  refine av_iload_n (pc := 54) (j := 0) C dX3_make_54 rfl rfl ?_
  refine av_lconst (pc := 55) (x := 0) C dX3_make_55 rfl rfl ?_
  obtain ⟨S11, hc12, hs⟩ := am_b1_of hs
  refine av_eq (st2 := [am_J 0, am_I (S.1 75), am_R 14]) rfl rfl rfl rfl (av_callV (pc := 56) (as := [am_I (S.1 75), am_J 0]) (rest := []) C (ct_X4_put l G 14 47 100 sk_14 sk_47 rfl (S.1 75) 0 S9 S11 hc12) ym_X4_put si_X3_79 im_X4_put se_X4_put sk_14 rfl ⟨Nat.le_of_ble_eq_true rfl, Nat.le_of_ble_eq_true rfl⟩ rfl rfl (Nat.le_of_ble_eq_true rfl) dX3_make_56 ⟨Nat.le_refl _, Nat.le_refl _⟩ (fun hrv => av_eq (st2 := []) rfl rfl rfl rfl ?_))
  refine av_aload_n (pc := 59) (j := 1) C dX3_make_59 rfl rfl ?_
  refine av_dup (pc := 60) C dX3_make_60 rfl ?_
  refine av_getI (pc := 61) (k := 11) (n := 75) C fl_X3_50 sk_1 rfl rfl dX3_make_61 ?_
  refine av_iconst (pc := 64) C dX3_make_64 rfl ?_
  refine av_iadd (pc := 65) C dX3_make_65 ?_
  obtain ⟨S13, eS13, hs⟩ := am_let_of hs
  refine av_putI (pc := 66) (k := 11) (n := 75) C fp_X3_50 sk_1 rfl rfl dX3_make_66 ?_
  refine av_eq rfl rfl rfl eS13 ?_
  refine av_iload_n (pc := 69) (j := 0) C dX3_make_69 rfl rfl ?_
  obtain ⟨rfl, rfl⟩ := am_inj2 hs
  exact av_iret C hr hlocks dX3_make_70
def sf_X8_numberOf (a1 : Int) (S : am_S) : Option (Int × am_S) := (some ((am_w32 a1), S))
set_option maxHeartbeats 4000000 in
set_option maxRecDepth 100000 in
theorem ct_X8_numberOf (l : Launch) (G : am_G) (a1 : Int) (S : am_S) (x : Int) (S2 : am_S) (hs : sf_X8_numberOf a1 S = some (x, S2)) : am_met l yX8_numberOf cX8_numberOf 2 (some .int) 0 0 G [am_J a1] S (some (am_I x)) S2 := by
  refine am_enter ym_X8_numberOf (Nat.le_of_ble_eq_true rfl) ?_
  intro p e s m args below meth c C hr hlocks
  refine av_eq (lv2 := [(0, am_J a1)]) rfl rfl rfl rfl ?_
  unfold sf_X8_numberOf at hs
  refine av_lload_n (pc := 0) (j := 0) C dX8_numberOf_0 rfl rfl ?_
  refine av_l2i (pc := 1) C dX8_numberOf_1 ?_
  obtain ⟨rfl, rfl⟩ := am_inj2 hs
  exact av_iret C hr hlocks dX8_numberOf_2
def sf_X3_promiseFor (a1 : Int) (S : am_S) : Option (Int × am_S) := (am_b2 (sf_X8_sortOf a1 S) (fun x2 S1 => (if x2 = 1 then (am_b2 (sf_X8_numberOf a1 S1) (fun x10 S9 => (some (x10, S9)))) else (am_b2 (sf_X3_make  S1) (fun x5 S4 => (am_b1 (sf_X3_settleBy x5 1 a1 0 S4) (fun S7 => (some (x5, S7)))))))))
set_option maxHeartbeats 4000000 in
set_option maxRecDepth 100000 in
theorem ct_X3_promiseFor (l : Launch) (G : am_G) (a1 : Int) (S : am_S) (x : Int) (S2 : am_S) (hs : sf_X3_promiseFor a1 S = some (x, S2)) : am_met l yX3_promiseFor cX3_promiseFor 4 (some .int) 3 73 G [am_R 1, am_J a1] S (some (am_I x)) S2 := by
  refine am_enter ym_X3_promiseFor (Nat.le_of_ble_eq_true rfl) ?_
  intro p e s m args below meth c C hr hlocks
  refine av_eq (lv2 := [(0, am_R 1), (1, am_J a1)]) rfl rfl rfl rfl ?_
  unfold sf_X3_promiseFor at hs
  refine av_lload_n (pc := 0) (j := 1) C dX3_promiseFor_0 rfl rfl ?_
  obtain ⟨x2, S1, hc3, hs⟩ := am_b2_of hs
  refine av_eq (st2 := [am_J a1]) rfl rfl rfl rfl (av_callS (pc := 1) (as := [am_J a1]) (rest := []) C (ct_X8_sortOf l G a1 S x2 S1 hc3) ym_X8_sortOf si_X3_83 st_X8_sortOf ⟨Nat.le_of_ble_eq_true rfl, Nat.le_of_ble_eq_true rfl⟩ rfl rfl (Nat.le_of_ble_eq_true rfl) dX3_promiseFor_1 ⟨Nat.le_refl _, Nat.le_refl _⟩ (fun hrv => av_eq (st2 := [am_I x2]) rfl rfl rfl rfl ?_))
  refine av_iconst (pc := 4) C dX3_promiseFor_4 rfl ?_
  refine av_icmp_ne (pc := 5) (tgt := 13) C dX3_promiseFor_5 (by decide) (fun hc => ?_) (fun hc => ?_)
  · rw [if_neg hc] at hs
    refine av_aload_n (pc := 13) (j := 0) C dX3_promiseFor_13 rfl rfl ?_
    obtain ⟨x5, S4, hc6, hs⟩ := am_b2_of hs
    refine av_eq (st2 := [am_R 1]) rfl rfl rfl rfl (av_callV (pc := 14) (as := []) (rest := []) C (ct_X3_make l G  S1 x5 S4 hc6) ym_X3_make si_X3_92 im_X3_make se_X3_make sk_1 rfl ⟨Nat.le_of_ble_eq_true rfl, Nat.le_of_ble_eq_true rfl⟩ rfl rfl (Nat.le_of_ble_eq_true rfl) dX3_promiseFor_14 ⟨Nat.le_refl _, Nat.le_refl _⟩ (fun hrv => av_eq (st2 := [am_I x5]) rfl rfl rfl rfl ?_))
    refine av_istore_n (pc := 17) (i := 3) (lv2 := [(3, am_I x5), (0, am_R 1), (1, am_J a1)]) C dX3_promiseFor_17 rfl (by decide) rfl ?_
    refine av_aload_n (pc := 18) (j := 1) C dX3_promiseFor_18 rfl rfl ?_
    refine av_iload_n (pc := 19) (j := 0) C dX3_promiseFor_19 rfl rfl ?_
    refine av_iconst (pc := 20) C dX3_promiseFor_20 rfl ?_
    refine av_lload_n (pc := 21) (j := 2) C dX3_promiseFor_21 rfl rfl ?_
    refine av_iconst (pc := 22) C dX3_promiseFor_22 rfl ?_
    obtain ⟨S7, hc8, hs⟩ := am_b1_of hs
    refine av_eq (st2 := [am_I 0, am_J a1, am_I 1, am_I x5, am_R 1]) rfl rfl rfl rfl (av_callV (pc := 23) (as := [am_I x5, am_I 1, am_J a1, am_I 0]) (rest := []) C (ct_X3_settleBy l G x5 1 a1 0 S4 S7 hc8) ym_X3_settleBy si_X3_96 im_X3_settleBy se_X3_settleBy sk_1 rfl ⟨Nat.le_of_ble_eq_true rfl, Nat.le_of_ble_eq_true rfl⟩ rfl rfl (Nat.le_of_ble_eq_true rfl) dX3_promiseFor_23 ⟨Nat.le_refl _, Nat.le_refl _⟩ (fun hrv => av_eq (st2 := []) rfl rfl rfl rfl ?_))
    refine av_iload_n (pc := 26) (j := 0) C dX3_promiseFor_26 rfl rfl ?_
    obtain ⟨rfl, rfl⟩ := am_inj2 hs
    exact av_iret C hr hlocks dX3_promiseFor_27
  · rw [if_pos (Decidable.not_not.mp hc)] at hs
    refine av_lload_n (pc := 8) (j := 1) C dX3_promiseFor_8 rfl rfl ?_
    obtain ⟨x10, S9, hc11, hs⟩ := am_b2_of hs
    refine av_eq (st2 := [am_J a1]) rfl rfl rfl rfl (av_callS (pc := 9) (as := [am_J a1]) (rest := []) C (ct_X8_numberOf l G a1 S1 x10 S9 hc11) ym_X8_numberOf si_X3_89 st_X8_numberOf ⟨Nat.le_of_ble_eq_true rfl, Nat.le_of_ble_eq_true rfl⟩ rfl rfl (Nat.le_of_ble_eq_true rfl) dX3_promiseFor_9 ⟨Nat.le_refl _, Nat.le_refl _⟩ (fun hrv => av_eq (st2 := [am_I x10]) rfl rfl rfl rfl ?_))
    obtain ⟨rfl, rfl⟩ := am_inj2 hs
    exact av_iret C hr hlocks dX3_promiseFor_12
def sf_X3_waitFor_81 (b1 : Int) (b2 : Int) (b3 : Int) (S : am_S) : Option (am_S) := (am_b1 (sf_X4_put 49 100 b1 b2 S) (fun S20 => (am_b1 (sf_X4_put 47 100 b1 (am_w32 (b3 + 1)) S20) (fun S22 => (some S22)))))
set_option maxHeartbeats 4000000 in
set_option maxRecDepth 100000 in
theorem wk_X3_waitFor_81 {p : Program} {l : Launch} {e : Env} {s : State} {m : MethodId} {args : Array Value} {below : List Frame} {meth : Method} {c : Code} {G : am_G} (C : am_C p s m args c cX3_waitFor 4 RX3 G) (hr : meth.sig.returnType = none) (hlocks : meth.locks = false) (b1 : Int) (b2 : Int) (b3 : Int) (S : am_S) (S2 : am_S) (hs : sf_X3_waitFor_81 b1 b2 b3 S = some S2) : am_V p l e (am_rm 2 46) s m args below meth c (MQ below (am_Q G none S2) args s 0 0 (am_A G)) G (am_A G) s.heap 4 0 0 81 [(0, am_R 1), (1, am_I b1), (2, am_I b2), (3, am_I b3)] [] S := by
  unfold sf_X3_waitFor_81 at hs
  refine av_aload_n (pc := 81) (j := 0) C dX3_waitFor_81 rfl rfl ?_
  refine av_getR (pc := 82) (k := 8) (r := 16) C fl_X3_41 sk_1 rfl dX3_waitFor_82 ?_
  refine av_iload_n (pc := 85) (j := 1) C dX3_waitFor_85 rfl rfl ?_
  refine av_iload_n (pc := 86) (j := 2) C dX3_waitFor_86 rfl rfl ?_
  refine av_i2l (pc := 87) C dX3_waitFor_87 ?_
  obtain ⟨S20, hc21, hs⟩ := am_b1_of hs
  refine av_eq (st2 := [am_J b2, am_I b1, am_R 16]) rfl rfl rfl rfl (av_callV (pc := 88) (as := [am_I b1, am_J b2]) (rest := []) C (ct_X4_put l G 16 49 100 sk_16 sk_49 rfl b1 b2 S S20 hc21) ym_X4_put si_X3_79 im_X4_put se_X4_put sk_16 rfl ⟨Nat.le_of_ble_eq_true rfl, Nat.le_of_ble_eq_true rfl⟩ rfl rfl (Nat.le_of_ble_eq_true rfl) dX3_waitFor_88 ⟨Nat.le_refl _, Nat.le_refl _⟩ (fun hrv => av_eq (st2 := []) rfl rfl rfl rfl ?_))
  refine av_aload_n (pc := 91) (j := 0) C dX3_waitFor_91 rfl rfl ?_
  refine av_getR (pc := 92) (k := 6) (r := 14) C fl_X3_35 sk_1 rfl dX3_waitFor_92 ?_
  refine av_iload_n (pc := 95) (j := 1) C dX3_waitFor_95 rfl rfl ?_
  refine av_iload_n (pc := 96) (j := 3) C dX3_waitFor_96 rfl rfl ?_
  refine av_iconst (pc := 97) C dX3_waitFor_97 rfl ?_
  refine av_iadd (pc := 98) C dX3_waitFor_98 ?_
  refine av_i2l (pc := 99) C dX3_waitFor_99 ?_
  obtain ⟨S22, hc23, hs⟩ := am_b1_of hs
  refine av_eq (st2 := [am_J (am_w32 (b3 + 1)), am_I b1, am_R 14]) rfl rfl rfl rfl (av_callV (pc := 100) (as := [am_I b1, am_J (am_w32 (b3 + 1))]) (rest := []) C (ct_X4_put l G 14 47 100 sk_14 sk_47 rfl b1 (am_w32 (b3 + 1)) S20 S22 hc23) ym_X4_put si_X3_79 im_X4_put se_X4_put sk_14 rfl ⟨Nat.le_of_ble_eq_true rfl, Nat.le_of_ble_eq_true rfl⟩ rfl rfl (Nat.le_of_ble_eq_true rfl) dX3_waitFor_100 ⟨Nat.le_refl _, Nat.le_refl _⟩ (fun hrv => av_eq (st2 := []) rfl rfl rfl rfl ?_))
  obtain rfl := am_inj1 hs
  exact av_vret C hr hlocks dX3_waitFor_103
def sf_X3_waitFor (a1 : Int) (a2 : Int) (S : am_S) : Option (am_S) := (am_b1 (sf_X4_put 45 100 a1 1 S) (fun S1 => (am_b1 (sf_X4_put 51 900 a2 a1 S1) (fun S3 => (am_b2 (sf_X4_at 41 100 a1 S3) (fun x6 S5 => (if x6 = 0 then (am_b2 (sf_X4_at 47 100 a1 S5) (fun x9 S8 => (if x9 = 0 then (am_b1 (sf_X4_put 48 100 a1 a2 S8) (fun S16 => (sf_X3_waitFor_81 a1 a2 x9 S16))) else (am_b2 (sf_X4_at 49 100 a1 S8) (fun x12 S11 => (am_b1 (sf_X4_put 50 900 x12 a2 S11) (fun S14 => (sf_X3_waitFor_81 a1 a2 x9 S14)))))))) else (am_b1 (sf_X3_lineUp a2 a2 1 S5) (fun S18 => (some S18))))))))))
set_option maxHeartbeats 4000000 in
set_option maxRecDepth 100000 in
theorem ct_X3_waitFor (l : Launch) (G : am_G) (a1 : Int) (a2 : Int) (S : am_S) (S2 : am_S) (hs : sf_X3_waitFor a1 a2 S = some S2) : am_met l yX3_waitFor cX3_waitFor 4 none 2 46 G [am_R 1, am_I a1, am_I a2] S none S2 := by
  refine am_enter ym_X3_waitFor (Nat.le_of_ble_eq_true rfl) ?_
  intro p e s m args below meth c C hr hlocks
  refine av_eq (lv2 := [(0, am_R 1), (1, am_I a1), (2, am_I a2)]) rfl rfl rfl rfl ?_
  unfold sf_X3_waitFor at hs
  refine av_aload_n (pc := 0) (j := 0) C dX3_waitFor_0 rfl rfl ?_
  refine av_getR (pc := 1) (k := 4) (r := 12) C fl_X3_29 sk_1 rfl dX3_waitFor_1 ?_
  refine av_iload_n (pc := 4) (j := 1) C dX3_waitFor_4 rfl rfl ?_
  refine av_lconst (pc := 5) (x := 1) C dX3_waitFor_5 rfl rfl ?_
  obtain ⟨S1, hc2, hs⟩ := am_b1_of hs
  refine av_eq (st2 := [am_J 1, am_I a1, am_R 12]) rfl rfl rfl rfl (av_callV (pc := 6) (as := [am_I a1, am_J 1]) (rest := []) C (ct_X4_put l G 12 45 100 sk_12 sk_45 rfl a1 1 S S1 hc2) ym_X4_put si_X3_79 im_X4_put se_X4_put sk_12 rfl ⟨Nat.le_of_ble_eq_true rfl, Nat.le_of_ble_eq_true rfl⟩ rfl rfl (Nat.le_of_ble_eq_true rfl) dX3_waitFor_6 ⟨Nat.le_refl _, Nat.le_refl _⟩ (fun hrv => av_eq (st2 := []) rfl rfl rfl rfl ?_))
  refine av_aload_n (pc := 9) (j := 0) C dX3_waitFor_9 rfl rfl ?_
  refine av_getR (pc := 10) (k := 10) (r := 18) C fl_X3_47 sk_1 rfl dX3_waitFor_10 ?_
  refine av_iload_n (pc := 13) (j := 2) C dX3_waitFor_13 rfl rfl ?_
  refine av_iload_n (pc := 14) (j := 1) C dX3_waitFor_14 rfl rfl ?_
  refine av_i2l (pc := 15) C dX3_waitFor_15 ?_
  obtain ⟨S3, hc4, hs⟩ := am_b1_of hs
  refine av_eq (st2 := [am_J a1, am_I a2, am_R 18]) rfl rfl rfl rfl (av_callV (pc := 16) (as := [am_I a2, am_J a1]) (rest := []) C (ct_X4_put l G 18 51 900 sk_18 sk_51 rfl a2 a1 S1 S3 hc4) ym_X4_put si_X3_79 im_X4_put se_X4_put sk_18 rfl ⟨Nat.le_of_ble_eq_true rfl, Nat.le_of_ble_eq_true rfl⟩ rfl rfl (Nat.le_of_ble_eq_true rfl) dX3_waitFor_16 ⟨Nat.le_refl _, Nat.le_refl _⟩ (fun hrv => av_eq (st2 := []) rfl rfl rfl rfl ?_))
  refine av_aload_n (pc := 19) (j := 0) C dX3_waitFor_19 rfl rfl ?_
  refine av_getR (pc := 20) (k := 0) (r := 8) C fl_X3_14 sk_1 rfl dX3_waitFor_20 ?_
  refine av_iload_n (pc := 23) (j := 1) C dX3_waitFor_23 rfl rfl ?_
  obtain ⟨x6, S5, hc7, hs⟩ := am_b2_of hs
  refine av_eq (st2 := [am_I a1, am_R 8]) rfl rfl rfl rfl (av_callV (pc := 24) (as := [am_I a1]) (rest := []) C (ct_X4_at l G 8 41 100 sk_8 sk_41 rfl a1 S3 x6 S5 hc7) ym_X4_at si_X3_67 im_X4_at se_X4_at sk_8 rfl ⟨Nat.le_of_ble_eq_true rfl, Nat.le_of_ble_eq_true rfl⟩ rfl rfl (Nat.le_of_ble_eq_true rfl) dX3_waitFor_24 ⟨Nat.le_refl _, Nat.le_refl _⟩ (fun hrv => av_eq (st2 := [am_I x6]) rfl rfl rfl rfl ?_))
  refine av_if_eq (pc := 27) (tgt := 38) C dX3_waitFor_27 (by decide) (fun hc => ?_) (fun hc => ?_)
  · rw [if_pos hc] at hs
    refine av_aload_n (pc := 38) (j := 0) C dX3_waitFor_38 rfl rfl ?_
    refine av_getR (pc := 39) (k := 6) (r := 14) C fl_X3_35 sk_1 rfl dX3_waitFor_39 ?_
    refine av_iload_n (pc := 42) (j := 1) C dX3_waitFor_42 rfl rfl ?_
    obtain ⟨x9, S8, hc10, hs⟩ := am_b2_of hs
    refine av_eq (st2 := [am_I a1, am_R 14]) rfl rfl rfl rfl (av_callV (pc := 43) (as := [am_I a1]) (rest := []) C (ct_X4_at l G 14 47 100 sk_14 sk_47 rfl a1 S5 x9 S8 hc10) ym_X4_at si_X3_67 im_X4_at se_X4_at sk_14 rfl ⟨Nat.le_of_ble_eq_true rfl, Nat.le_of_ble_eq_true rfl⟩ rfl rfl (Nat.le_of_ble_eq_true rfl) dX3_waitFor_43 ⟨Nat.le_refl _, Nat.le_refl _⟩ (fun hrv => av_eq (st2 := [am_I x9]) rfl rfl rfl rfl ?_))
    refine av_istore_n (pc := 46) (i := 3) (lv2 := [(3, am_I x9), (0, am_R 1), (1, am_I a1), (2, am_I a2)]) C dX3_waitFor_46 rfl (by decide) rfl ?_
    refine av_iload_n (pc := 47) (j := 0) C dX3_waitFor_47 rfl rfl ?_
    refine av_if_ne (pc := 48) (tgt := 64) C dX3_waitFor_48 (by decide) (fun hc => ?_) (fun hc => ?_)
    · rw [if_neg hc] at hs
      refine av_aload_n (pc := 64) (j := 1) C dX3_waitFor_64 rfl rfl ?_
      refine av_getR (pc := 65) (k := 9) (r := 17) C fl_X3_44 sk_1 rfl dX3_waitFor_65 ?_
      refine av_aload_n (pc := 68) (j := 1) C dX3_waitFor_68 rfl rfl ?_
      refine av_getR (pc := 69) (k := 8) (r := 16) C fl_X3_41 sk_1 rfl dX3_waitFor_69 ?_
      refine av_iload_n (pc := 72) (j := 2) C dX3_waitFor_72 rfl rfl ?_
      obtain ⟨x12, S11, hc13, hs⟩ := am_b2_of hs
      refine av_eq (st2 := [am_I a1, am_R 16, am_R 17]) rfl rfl rfl rfl (av_callV (pc := 73) (as := [am_I a1]) (rest := [am_R 17]) C (ct_X4_at l G 16 49 100 sk_16 sk_49 rfl a1 S8 x12 S11 hc13) ym_X4_at si_X3_67 im_X4_at se_X4_at sk_16 rfl ⟨Nat.le_of_ble_eq_true rfl, Nat.le_of_ble_eq_true rfl⟩ rfl rfl (Nat.le_of_ble_eq_true rfl) dX3_waitFor_73 ⟨Nat.le_refl _, Nat.le_refl _⟩ (fun hrv => av_eq (st2 := [am_I x12, am_R 17]) rfl rfl rfl rfl ?_))
      refine av_iload_n (pc := 76) (j := 3) C dX3_waitFor_76 rfl rfl ?_
      refine av_i2l (pc := 77) C dX3_waitFor_77 ?_
      obtain ⟨S14, hc15, hs⟩ := am_b1_of hs
      refine av_eq (st2 := [am_J a2, am_I x12, am_R 17]) rfl rfl rfl rfl (av_callV (pc := 78) (as := [am_I x12, am_J a2]) (rest := []) C (ct_X4_put l G 17 50 900 sk_17 sk_50 rfl x12 a2 S11 S14 hc15) ym_X4_put si_X3_79 im_X4_put se_X4_put sk_17 rfl ⟨Nat.le_of_ble_eq_true rfl, Nat.le_of_ble_eq_true rfl⟩ rfl rfl (Nat.le_of_ble_eq_true rfl) dX3_waitFor_78 ⟨Nat.le_refl _, Nat.le_refl _⟩ (fun hrv => av_eq (st2 := []) rfl rfl rfl rfl ?_))
      refine av_lvsub (lv2 := [(0, am_R 1), (1, am_I a1), (2, am_I a2), (3, am_I x9)]) [1, 2, 3, 0] rfl ?_
      exact wk_X3_waitFor_81 C hr hlocks a1 a2 x9 S14 S2 hs
    · rw [if_pos (Decidable.not_not.mp hc)] at hs
      refine av_aload_n (pc := 51) (j := 1) C dX3_waitFor_51 rfl rfl ?_
      refine av_getR (pc := 52) (k := 7) (r := 15) C fl_X3_38 sk_1 rfl dX3_waitFor_52 ?_
      refine av_iload_n (pc := 55) (j := 2) C dX3_waitFor_55 rfl rfl ?_
      refine av_iload_n (pc := 56) (j := 3) C dX3_waitFor_56 rfl rfl ?_
      refine av_i2l (pc := 57) C dX3_waitFor_57 ?_
      obtain ⟨S16, hc17, hs⟩ := am_b1_of hs
      refine av_eq (st2 := [am_J a2, am_I a1, am_R 15]) rfl rfl rfl rfl (av_callV (pc := 58) (as := [am_I a1, am_J a2]) (rest := []) C (ct_X4_put l G 15 48 100 sk_15 sk_48 rfl a1 a2 S8 S16 hc17) ym_X4_put si_X3_79 im_X4_put se_X4_put sk_15 rfl ⟨Nat.le_of_ble_eq_true rfl, Nat.le_of_ble_eq_true rfl⟩ rfl rfl (Nat.le_of_ble_eq_true rfl) dX3_waitFor_58 ⟨Nat.le_refl _, Nat.le_refl _⟩ (fun hrv => av_eq (st2 := []) rfl rfl rfl rfl ?_))
      refine av_goto (pc := 61) (tgt := 81) C dX3_waitFor_61 (by decide) ?_
      refine av_lvsub (lv2 := [(0, am_R 1), (1, am_I a1), (2, am_I a2), (3, am_I x9)]) [1, 2, 3, 0] rfl ?_
      exact wk_X3_waitFor_81 C hr hlocks a1 a2 x9 S16 S2 hs
  · rw [if_neg hc] at hs
    refine av_aload_n (pc := 30) (j := 0) C dX3_waitFor_30 rfl rfl ?_
    refine av_iload_n (pc := 31) (j := 2) C dX3_waitFor_31 rfl rfl ?_
    refine av_iload_n (pc := 32) (j := 2) C dX3_waitFor_32 rfl rfl ?_
    refine av_iconst (pc := 33) C dX3_waitFor_33 rfl ?_
    obtain ⟨S18, hc19, hs⟩ := am_b1_of hs
    refine av_eq (st2 := [am_I 1, am_I a2, am_I a2, am_R 1]) rfl rfl rfl rfl (av_callV (pc := 34) (as := [am_I a2, am_I a2, am_I 1]) (rest := []) C (ct_X3_lineUp l G a2 a2 1 S5 S18 hc19) ym_X3_lineUp si_X3_114 im_X3_lineUp se_X3_lineUp sk_1 rfl ⟨Nat.le_of_ble_eq_true rfl, Nat.le_of_ble_eq_true rfl⟩ rfl rfl (Nat.le_of_ble_eq_true rfl) dX3_waitFor_34 ⟨Nat.le_refl _, Nat.le_refl _⟩ (fun hrv => av_eq (st2 := []) rfl rfl rfl rfl ?_))
    obtain rfl := am_inj1 hs
    exact av_vret C hr hlocks dX3_waitFor_37
def sf_X1_form_42 : Nat → (b2 : Int) → (b3 : Int) → (S : am_S) → Option (Int × am_S)
  | 0, _, _, _ => none
  | fu + 1, b2, b3, S => (if (S.1 389) ≤ b3 then (am_let (am_sI S 389 0) (fun S10 => (am_b1 (sf_X1_settleIfComplete b2 S10) (fun S11 => (some (b2, S11)))))) else (am_b2 (sf_X4_valueAt 63 5 b3 S) (fun x14 S13 => (am_b2 (sf_X3_promiseFor x14 S13) (fun x17 S16 => (am_b2 (sf_X9_jobOf b2 (am_w32 (4 + b3)) S16) (fun x20 S19 => (am_b1 (sf_X3_waitFor x17 x20 S19) (fun S22 => (sf_X1_form_42 fu b2 (am_w32 (b3 + 1)) S22))))))))))
set_option maxHeartbeats 4000000 in
set_option maxRecDepth 100000 in
theorem wk_X1_form_42 {p : Program} {l : Launch} {e : Env} {s : State} {m : MethodId} {args : Array Value} {below : List Frame} {meth : Method} {c : Code} {G : am_G} (C : am_C p s m args c cX1_form 5 RX1 G) (hr : meth.sig.returnType = (some .int)) (hlocks : meth.locks = false) : ∀ (fu : Nat) (b2 : Int) (b3 : Int) (S : am_S) (x : Int) (S2 : am_S), sf_X1_form_42 fu b2 b3 S = some (x, S2) → am_V p l e (am_rm 4 96) s m args below meth c (MQ below (am_Q G (some (am_I x)) S2) args s 0 0 (am_A G)) G (am_A G) s.heap 5 0 0 42 [(0, am_R 6), (2, am_I b2), (3, am_I b3)] [] S := by
  intro fu
  induction fu with
  | zero => intro b2 b3 S x S2 hs; cases hs
  | succ fu ih =>
    intro b2 b3 S x S2 hs
    unfold sf_X1_form_42 at hs
    refine av_iload_n (pc := 42) (j := 2) C dX1_form_42 rfl rfl ?_
    refine av_aload_n (pc := 43) (j := 0) C dX1_form_43 rfl rfl ?_
    refine av_getI (pc := 44) (k := 5) (n := 389) C fl_X1_29 sk_6 rfl rfl dX1_form_44 ?_
    refine av_icmp_ge (pc := 47) (tgt := 89) C dX1_form_47 (by decide) (fun hc => ?_) (fun hc => ?_)
    · rw [if_pos hc] at hs
      refine av_aload_n (pc := 89) (j := 0) C dX1_form_89 rfl rfl ?_
      refine av_iconst (pc := 90) C dX1_form_90 rfl ?_
      obtain ⟨S10, eS10, hs⟩ := am_let_of hs
      refine av_putI (pc := 91) (k := 5) (n := 389) C fp_X1_29 sk_6 rfl rfl dX1_form_91 ?_
      refine av_eq rfl rfl rfl eS10 ?_
      refine av_aload_n (pc := 94) (j := 0) C dX1_form_94 rfl rfl ?_
      refine av_iload_n (pc := 95) (j := 1) C dX1_form_95 rfl rfl ?_
      obtain ⟨S11, hc12, hs⟩ := am_b1_of hs
      refine av_eq (st2 := [am_I b2, am_R 6]) rfl rfl rfl rfl (av_callV (pc := 96) (as := [am_I b2]) (rest := []) C (ct_X1_settleIfComplete l G b2 S10 S11 hc12) ym_X1_settleIfComplete si_X1_71 im_X1_settleIfComplete se_X1_settleIfComplete sk_6 rfl ⟨Nat.le_of_ble_eq_true rfl, Nat.le_of_ble_eq_true rfl⟩ rfl rfl (Nat.le_of_ble_eq_true rfl) dX1_form_96 ⟨Nat.le_refl _, Nat.le_refl _⟩ (fun hrv => av_eq (st2 := []) rfl rfl rfl rfl ?_))
      refine av_iload_n (pc := 99) (j := 1) C dX1_form_99 rfl rfl ?_
      obtain ⟨rfl, rfl⟩ := am_inj2 hs
      exact av_iret C hr hlocks dX1_form_100
    · rw [if_neg hc] at hs
      refine av_aload_n (pc := 50) (j := 0) C dX1_form_50 rfl rfl ?_
      refine av_getR (pc := 51) (k := 4) (r := 1) C fl_X1_33 sk_6 rfl dX1_form_51 ?_
      refine av_aload_n (pc := 54) (j := 0) C dX1_form_54 rfl rfl ?_
      refine av_getR (pc := 55) (k := 0) (r := 30) C fl_X1_14 sk_6 rfl dX1_form_55 ?_
      refine av_iload_n (pc := 58) (j := 2) C dX1_form_58 rfl rfl ?_
      obtain ⟨x14, S13, hc15, hs⟩ := am_b2_of hs
      refine av_eq (st2 := [am_I b3, am_R 30, am_R 1]) rfl rfl rfl rfl (av_callV (pc := 59) (as := [am_I b3]) (rest := [am_R 1]) C (ct_X4_valueAt l G 30 63 5 sk_30 sk_63 rfl b3 S x14 S13 hc15) ym_X4_valueAt si_X1_47 im_X4_valueAt se_X4_valueAt sk_30 rfl ⟨Nat.le_of_ble_eq_true rfl, Nat.le_of_ble_eq_true rfl⟩ rfl rfl (Nat.le_of_ble_eq_true rfl) dX1_form_59 ⟨Nat.le_refl _, Nat.le_refl _⟩ (fun hrv => av_eq (st2 := [am_J x14, am_R 1]) rfl rfl rfl rfl ?_))
      obtain ⟨x17, S16, hc18, hs⟩ := am_b2_of hs
      refine av_eq (st2 := [am_J x14, am_R 1]) rfl rfl rfl rfl (av_callV (pc := 62) (as := [am_J x14]) (rest := []) C (ct_X3_promiseFor l G x14 S13 x17 S16 hc18) ym_X3_promiseFor si_X1_60 im_X3_promiseFor se_X3_promiseFor sk_1 rfl ⟨Nat.le_of_ble_eq_true rfl, Nat.le_of_ble_eq_true rfl⟩ rfl rfl (Nat.le_of_ble_eq_true rfl) dX1_form_62 ⟨Nat.le_refl _, Nat.le_refl _⟩ (fun hrv => av_eq (st2 := [am_I x17]) rfl rfl rfl rfl ?_))
      refine av_istore (pc := 65) (i := 4) (lv2 := [(4, am_I x17), (0, am_R 6), (2, am_I b2), (3, am_I b3)]) C dX1_form_65 (by decide) rfl ?_
      refine av_aload_n (pc := 67) (j := 1) C dX1_form_67 rfl rfl ?_
      refine av_getR (pc := 68) (k := 4) (r := 1) C fl_X1_33 sk_6 rfl dX1_form_68 ?_
      refine av_iload (pc := 71) (j := 0) C dX1_form_71 rfl ?_
      refine av_iload_n (pc := 73) (j := 2) C dX1_form_73 rfl rfl ?_
      refine av_iconst (pc := 74) C dX1_form_74 rfl ?_
      refine av_iload_n (pc := 75) (j := 3) C dX1_form_75 rfl rfl ?_
      refine av_iadd (pc := 76) C dX1_form_76 ?_
      obtain ⟨x20, S19, hc21, hs⟩ := am_b2_of hs
      refine av_eq (st2 := [am_I (am_w32 (4 + b3)), am_I b2, am_I x17, am_R 1]) rfl rfl rfl rfl (av_callSN (pc := 77) (as := [am_I b2, am_I (am_w32 (4 + b3))]) (rest := [am_I x17, am_R 1]) C (ct_X9_jobOf l G b2 (am_w32 (4 + b3)) S16 x20 S19 hc21) ym_X9_jobOf si_X1_63 st_X9_jobOf ⟨Nat.le_of_ble_eq_true rfl, Nat.le_of_ble_eq_true rfl⟩ rfl rfl (Nat.le_of_ble_eq_true rfl) dX1_form_77 ⟨Nat.le_refl _, Nat.le_refl _⟩ (fun hrv => av_eq (st2 := [am_I x20, am_I x17, am_R 1]) rfl rfl rfl rfl ?_))
      obtain ⟨S22, hc23, hs⟩ := am_b1_of hs
      refine av_eq (st2 := [am_I x20, am_I x17, am_R 1]) rfl rfl rfl rfl (av_callV (pc := 80) (as := [am_I x17, am_I x20]) (rest := []) C (ct_X3_waitFor l G x17 x20 S19 S22 hc23) ym_X3_waitFor si_X1_67 im_X3_waitFor se_X3_waitFor sk_1 rfl ⟨Nat.le_of_ble_eq_true rfl, Nat.le_of_ble_eq_true rfl⟩ rfl rfl (Nat.le_of_ble_eq_true rfl) dX1_form_80 ⟨Nat.le_refl _, Nat.le_refl _⟩ (fun hrv => av_eq (st2 := []) rfl rfl rfl rfl ?_))
      refine av_iinc (pc := 83) (j := 3) (lv2 := [(3, am_I (am_w32 (b3 + 1))), (4, am_I x17), (0, am_R 6), (2, am_I b2)]) C dX1_form_83 rfl (by decide) rfl ?_
      refine av_goto (pc := 86) (tgt := 42) C dX1_form_86 (by decide) ?_
      refine av_lvsub (lv2 := [(0, am_R 6), (2, am_I b2), (3, am_I (am_w32 (b3 + 1)))]) [2, 3, 0] rfl ?_
      exact ih b2 (am_w32 (b3 + 1)) S22 x S2 hs
def sf_X1_form (a1 : Int) (S : am_S) : Option (Int × am_S) := (am_b2 (sf_X3_make  S) (fun x2 S1 => (am_b1 (sf_X4_put 64 100 x2 a1 S1) (fun S4 => (am_b1 (sf_X4_put 65 100 x2 (S4.1 389) S4) (fun S6 => (am_b1 (sf_X4_put 66 100 x2 0 S6) (fun S8 => (sf_X1_form_42 1000 x2 0 S8)))))))))
set_option maxHeartbeats 4000000 in
set_option maxRecDepth 100000 in
theorem ct_X1_form (l : Launch) (G : am_G) (a1 : Int) (S : am_S) (x : Int) (S2 : am_S) (hs : sf_X1_form a1 S = some (x, S2)) : am_met l yX1_form cX1_form 5 (some .int) 4 96 G [am_R 6, am_I a1] S (some (am_I x)) S2 := by
  refine am_enter ym_X1_form (Nat.le_of_ble_eq_true rfl) ?_
  intro p e s m args below meth c C hr hlocks
  refine av_eq (lv2 := [(0, am_R 6), (1, am_I a1)]) rfl rfl rfl rfl ?_
  unfold sf_X1_form at hs
  refine av_aload_n (pc := 0) (j := 0) C dX1_form_0 rfl rfl ?_
  refine av_getR (pc := 1) (k := 4) (r := 1) C fl_X1_33 sk_6 rfl dX1_form_1 ?_
  obtain ⟨x2, S1, hc3, hs⟩ := am_b2_of hs
  refine av_eq (st2 := [am_R 1]) rfl rfl rfl rfl (av_callV (pc := 4) (as := []) (rest := []) C (ct_X3_make l G  S x2 S1 hc3) ym_X3_make si_X1_57 im_X3_make se_X3_make sk_1 rfl ⟨Nat.le_of_ble_eq_true rfl, Nat.le_of_ble_eq_true rfl⟩ rfl rfl (Nat.le_of_ble_eq_true rfl) dX1_form_4 ⟨Nat.le_refl _, Nat.le_refl _⟩ (fun hrv => av_eq (st2 := [am_I x2]) rfl rfl rfl rfl ?_))
  refine av_istore_n (pc := 7) (i := 2) (lv2 := [(2, am_I x2), (0, am_R 6), (1, am_I a1)]) C dX1_form_7 rfl (by decide) rfl ?_
  refine av_aload_n (pc := 8) (j := 1) C dX1_form_8 rfl rfl ?_
  refine av_getR (pc := 9) (k := 1) (r := 31) C fl_X1_20 sk_6 rfl dX1_form_9 ?_
  refine av_iload_n (pc := 12) (j := 0) C dX1_form_12 rfl rfl ?_
  refine av_iload_n (pc := 13) (j := 2) C dX1_form_13 rfl rfl ?_
  refine av_i2l (pc := 14) C dX1_form_14 ?_
  obtain ⟨S4, hc5, hs⟩ := am_b1_of hs
  refine av_eq (st2 := [am_J a1, am_I x2, am_R 31]) rfl rfl rfl rfl (av_callV (pc := 15) (as := [am_I x2, am_J a1]) (rest := []) C (ct_X4_put l G 31 64 100 sk_31 sk_64 rfl x2 a1 S1 S4 hc5) ym_X4_put si_X1_37 im_X4_put se_X4_put sk_31 rfl ⟨Nat.le_of_ble_eq_true rfl, Nat.le_of_ble_eq_true rfl⟩ rfl rfl (Nat.le_of_ble_eq_true rfl) dX1_form_15 ⟨Nat.le_refl _, Nat.le_refl _⟩ (fun hrv => av_eq (st2 := []) rfl rfl rfl rfl ?_))
  refine av_aload_n (pc := 18) (j := 1) C dX1_form_18 rfl rfl ?_
  refine av_getR (pc := 19) (k := 2) (r := 32) C fl_X1_23 sk_6 rfl dX1_form_19 ?_
  refine av_iload_n (pc := 22) (j := 0) C dX1_form_22 rfl rfl ?_
  refine av_aload_n (pc := 23) (j := 1) C dX1_form_23 rfl rfl ?_
  refine av_getI (pc := 24) (k := 5) (n := 389) C fl_X1_29 sk_6 rfl rfl dX1_form_24 ?_
  refine av_i2l (pc := 27) C dX1_form_27 ?_
  obtain ⟨S6, hc7, hs⟩ := am_b1_of hs
  refine av_eq (st2 := [am_J (S4.1 389), am_I x2, am_R 32]) rfl rfl rfl rfl (av_callV (pc := 28) (as := [am_I x2, am_J (S4.1 389)]) (rest := []) C (ct_X4_put l G 32 65 100 sk_32 sk_65 rfl x2 (S4.1 389) S4 S6 hc7) ym_X4_put si_X1_37 im_X4_put se_X4_put sk_32 rfl ⟨Nat.le_of_ble_eq_true rfl, Nat.le_of_ble_eq_true rfl⟩ rfl rfl (Nat.le_of_ble_eq_true rfl) dX1_form_28 ⟨Nat.le_refl _, Nat.le_refl _⟩ (fun hrv => av_eq (st2 := []) rfl rfl rfl rfl ?_))
  refine av_aload_n (pc := 31) (j := 1) C dX1_form_31 rfl rfl ?_
  refine av_getR (pc := 32) (k := 3) (r := 33) C fl_X1_26 sk_6 rfl dX1_form_32 ?_
  refine av_iload_n (pc := 35) (j := 0) C dX1_form_35 rfl rfl ?_
  refine av_lconst (pc := 36) (x := 0) C dX1_form_36 rfl rfl ?_
  obtain ⟨S8, hc9, hs⟩ := am_b1_of hs
  refine av_eq (st2 := [am_J 0, am_I x2, am_R 33]) rfl rfl rfl rfl (av_callV (pc := 37) (as := [am_I x2, am_J 0]) (rest := []) C (ct_X4_put l G 33 66 100 sk_33 sk_66 rfl x2 0 S6 S8 hc9) ym_X4_put si_X1_37 im_X4_put se_X4_put sk_33 rfl ⟨Nat.le_of_ble_eq_true rfl, Nat.le_of_ble_eq_true rfl⟩ rfl rfl (Nat.le_of_ble_eq_true rfl) dX1_form_37 ⟨Nat.le_refl _, Nat.le_refl _⟩ (fun hrv => av_eq (st2 := []) rfl rfl rfl rfl ?_))
  refine av_iconst (pc := 40) C dX1_form_40 rfl ?_
  refine av_istore_n (pc := 41) (i := 3) (lv2 := [(3, am_I 0), (2, am_I x2), (0, am_R 6), (1, am_I a1)]) C dX1_form_41 rfl (by decide) rfl ?_
  refine av_lvsub (lv2 := [(0, am_R 6), (2, am_I x2), (3, am_I 0)]) [2, 1, 0] rfl ?_
  exact wk_X1_form_42 C hr hlocks 1000 x2 0 S8 x S2 hs
def sf_X1_settlePlace_90 (b1 : Int) (b3 : Int) (b4 : Int) (b6 : Int) (S : am_S) : Option (am_S) := (if b6 = 3 then (if b3 = 1 then (am_b1 (sf_X3_settleBy b1 b3 b4 0 S) (fun S21 => (some S21))) else (some S)) else (some S))
set_option maxHeartbeats 4000000 in
set_option maxRecDepth 100000 in
theorem wk_X1_settlePlace_90 {p : Program} {l : Launch} {e : Env} {s : State} {m : MethodId} {args : Array Value} {below : List Frame} {meth : Method} {c : Code} {G : am_G} (C : am_C p s m args c cX1_settlePlace 8 RX1 G) (hr : meth.sig.returnType = none) (hlocks : meth.locks = false) (b1 : Int) (b3 : Int) (b4 : Int) (b6 : Int) (S : am_S) (S2 : am_S) (hs : sf_X1_settlePlace_90 b1 b3 b4 b6 S = some S2) : am_V p l e (am_rm 3 73) s m args below meth c (MQ below (am_Q G none S2) args s 0 0 (am_A G)) G (am_A G) s.heap 8 0 0 90 [(0, am_R 6), (1, am_I b1), (3, am_I b3), (4, am_J b4), (6, am_I b6)] [] S := by
  unfold sf_X1_settlePlace_90 at hs
  refine av_iload (pc := 90) (j := 4) C dX1_settlePlace_90 rfl ?_
  refine av_iconst (pc := 92) C dX1_settlePlace_92 rfl ?_
  refine av_icmp_ne (pc := 93) (tgt := 113) C dX1_settlePlace_93 (by decide) (fun hc => ?_) (fun hc => ?_)
  · rw [if_neg hc] at hs
    obtain rfl := am_inj1 hs
    exact av_vret C hr hlocks dX1_settlePlace_113
  · rw [if_pos (Decidable.not_not.mp hc)] at hs
    refine av_iload_n (pc := 96) (j := 2) C dX1_settlePlace_96 rfl rfl ?_
    refine av_iconst (pc := 97) C dX1_settlePlace_97 rfl ?_
    refine av_icmp_ne (pc := 98) (tgt := 113) C dX1_settlePlace_98 (by decide) (fun hc => ?_) (fun hc => ?_)
    · rw [if_neg hc] at hs
      obtain rfl := am_inj1 hs
      exact av_vret C hr hlocks dX1_settlePlace_113
    · rw [if_pos (Decidable.not_not.mp hc)] at hs
      refine av_aload_n (pc := 101) (j := 0) C dX1_settlePlace_101 rfl rfl ?_
      refine av_getR (pc := 102) (k := 4) (r := 1) C fl_X1_33 sk_6 rfl dX1_settlePlace_102 ?_
      refine av_iload_n (pc := 105) (j := 1) C dX1_settlePlace_105 rfl rfl ?_
      refine av_iload_n (pc := 106) (j := 2) C dX1_settlePlace_106 rfl rfl ?_
      refine av_lload (pc := 107) (j := 3) C dX1_settlePlace_107 rfl ?_
      refine av_iconst (pc := 109) C dX1_settlePlace_109 rfl ?_
      obtain ⟨S21, hc22, hs⟩ := am_b1_of hs
      refine av_eq (st2 := [am_I 0, am_J b4, am_I b3, am_I b1, am_R 1]) rfl rfl rfl rfl (av_callV (pc := 110) (as := [am_I b1, am_I b3, am_J b4, am_I 0]) (rest := []) C (ct_X3_settleBy l G b1 b3 b4 0 S S21 hc22) ym_X3_settleBy si_X1_81 im_X3_settleBy se_X3_settleBy sk_1 rfl ⟨Nat.le_of_ble_eq_true rfl, Nat.le_of_ble_eq_true rfl⟩ rfl rfl (Nat.le_of_ble_eq_true rfl) dX1_settlePlace_110 ⟨Nat.le_refl _, Nat.le_refl _⟩ (fun hrv => av_eq (st2 := []) rfl rfl rfl rfl ?_))
      obtain rfl := am_inj1 hs
      exact av_vret C hr hlocks dX1_settlePlace_113
def sf_X1_settlePlace_74 (b1 : Int) (b3 : Int) (b4 : Int) (b6 : Int) (S : am_S) : Option (am_S) := (if b6 = 1 then (am_b1 (sf_X3_settleBy b1 b3 b4 0 S) (fun S12 => (some S12))) else (if b6 = 0 then (if b3 = 2 then (am_b1 (sf_X3_settleBy b1 b3 b4 0 S) (fun S14 => (some S14))) else (sf_X1_settlePlace_90 b1 b3 b4 b6 S)) else (sf_X1_settlePlace_90 b1 b3 b4 b6 S)))
set_option maxHeartbeats 4000000 in
set_option maxRecDepth 100000 in
theorem wk_X1_settlePlace_74 {p : Program} {l : Launch} {e : Env} {s : State} {m : MethodId} {args : Array Value} {below : List Frame} {meth : Method} {c : Code} {G : am_G} (C : am_C p s m args c cX1_settlePlace 8 RX1 G) (hr : meth.sig.returnType = none) (hlocks : meth.locks = false) (b1 : Int) (b3 : Int) (b4 : Int) (b6 : Int) (S : am_S) (S2 : am_S) (hs : sf_X1_settlePlace_74 b1 b3 b4 b6 S = some S2) : am_V p l e (am_rm 3 73) s m args below meth c (MQ below (am_Q G none S2) args s 0 0 (am_A G)) G (am_A G) s.heap 8 0 0 74 [(0, am_R 6), (1, am_I b1), (3, am_I b3), (4, am_J b4), (6, am_I b6)] [] S := by
  unfold sf_X1_settlePlace_74 at hs
  refine av_iload (pc := 74) (j := 4) C dX1_settlePlace_74 rfl ?_
  refine av_iconst (pc := 76) C dX1_settlePlace_76 rfl ?_
  refine av_icmp_eq (pc := 77) (tgt := 101) C dX1_settlePlace_77 (by decide) (fun hc => ?_) (fun hc => ?_)
  · rw [if_pos hc] at hs
    refine av_aload_n (pc := 101) (j := 0) C dX1_settlePlace_101 rfl rfl ?_
    refine av_getR (pc := 102) (k := 4) (r := 1) C fl_X1_33 sk_6 rfl dX1_settlePlace_102 ?_
    refine av_iload_n (pc := 105) (j := 1) C dX1_settlePlace_105 rfl rfl ?_
    refine av_iload_n (pc := 106) (j := 2) C dX1_settlePlace_106 rfl rfl ?_
    refine av_lload (pc := 107) (j := 3) C dX1_settlePlace_107 rfl ?_
    refine av_iconst (pc := 109) C dX1_settlePlace_109 rfl ?_
    obtain ⟨S12, hc13, hs⟩ := am_b1_of hs
    refine av_eq (st2 := [am_I 0, am_J b4, am_I b3, am_I b1, am_R 1]) rfl rfl rfl rfl (av_callV (pc := 110) (as := [am_I b1, am_I b3, am_J b4, am_I 0]) (rest := []) C (ct_X3_settleBy l G b1 b3 b4 0 S S12 hc13) ym_X3_settleBy si_X1_81 im_X3_settleBy se_X3_settleBy sk_1 rfl ⟨Nat.le_of_ble_eq_true rfl, Nat.le_of_ble_eq_true rfl⟩ rfl rfl (Nat.le_of_ble_eq_true rfl) dX1_settlePlace_110 ⟨Nat.le_refl _, Nat.le_refl _⟩ (fun hrv => av_eq (st2 := []) rfl rfl rfl rfl ?_))
    obtain rfl := am_inj1 hs
    exact av_vret C hr hlocks dX1_settlePlace_113
  · rw [if_neg hc] at hs
    refine av_iload (pc := 80) (j := 4) C dX1_settlePlace_80 rfl ?_
    refine av_if_ne (pc := 82) (tgt := 90) C dX1_settlePlace_82 (by decide) (fun hc => ?_) (fun hc => ?_)
    · rw [if_neg hc] at hs
      exact wk_X1_settlePlace_90 C hr hlocks b1 b3 b4 b6 S S2 hs
    · rw [if_pos (Decidable.not_not.mp hc)] at hs
      refine av_iload_n (pc := 85) (j := 2) C dX1_settlePlace_85 rfl rfl ?_
      refine av_iconst (pc := 86) C dX1_settlePlace_86 rfl ?_
      refine av_icmp_eq (pc := 87) (tgt := 101) C dX1_settlePlace_87 (by decide) (fun hc => ?_) (fun hc => ?_)
      · rw [if_pos hc] at hs
        refine av_aload_n (pc := 101) (j := 0) C dX1_settlePlace_101 rfl rfl ?_
        refine av_getR (pc := 102) (k := 4) (r := 1) C fl_X1_33 sk_6 rfl dX1_settlePlace_102 ?_
        refine av_iload_n (pc := 105) (j := 1) C dX1_settlePlace_105 rfl rfl ?_
        refine av_iload_n (pc := 106) (j := 2) C dX1_settlePlace_106 rfl rfl ?_
        refine av_lload (pc := 107) (j := 3) C dX1_settlePlace_107 rfl ?_
        refine av_iconst (pc := 109) C dX1_settlePlace_109 rfl ?_
        obtain ⟨S14, hc15, hs⟩ := am_b1_of hs
        refine av_eq (st2 := [am_I 0, am_J b4, am_I b3, am_I b1, am_R 1]) rfl rfl rfl rfl (av_callV (pc := 110) (as := [am_I b1, am_I b3, am_J b4, am_I 0]) (rest := []) C (ct_X3_settleBy l G b1 b3 b4 0 S S14 hc15) ym_X3_settleBy si_X1_81 im_X3_settleBy se_X3_settleBy sk_1 rfl ⟨Nat.le_of_ble_eq_true rfl, Nat.le_of_ble_eq_true rfl⟩ rfl rfl (Nat.le_of_ble_eq_true rfl) dX1_settlePlace_110 ⟨Nat.le_refl _, Nat.le_refl _⟩ (fun hrv => av_eq (st2 := []) rfl rfl rfl rfl ?_))
        obtain rfl := am_inj1 hs
        exact av_vret C hr hlocks dX1_settlePlace_113
      · rw [if_neg hc] at hs
        exact wk_X1_settlePlace_90 C hr hlocks b1 b3 b4 b6 S S2 hs
def sf_X1_settlePlace_48 (b1 : Int) (b2 : Int) (b3 : Int) (b4 : Int) (b6 : Int) (t0 : Int) (S : am_S) : Option (am_S) := (am_b2 (sf_X4_at 66 100 b1 S) (fun x17 S16 => (am_b1 (sf_X4_put 66 100 b1 (am_w32 (x17 + (am_w32 ((am_w32 (b2 + 1)) * t0)))) S16) (fun S19 => (sf_X1_settlePlace_74 b1 b3 b4 b6 S19)))))
set_option maxHeartbeats 4000000 in
set_option maxRecDepth 100000 in
theorem wk_X1_settlePlace_48 {p : Program} {l : Launch} {e : Env} {s : State} {m : MethodId} {args : Array Value} {below : List Frame} {meth : Method} {c : Code} {G : am_G} (C : am_C p s m args c cX1_settlePlace 8 RX1 G) (hr : meth.sig.returnType = none) (hlocks : meth.locks = false) (b1 : Int) (b2 : Int) (b3 : Int) (b4 : Int) (b6 : Int) (t0 : Int) (S : am_S) (S2 : am_S) (hs : sf_X1_settlePlace_48 b1 b2 b3 b4 b6 t0 S = some S2) : am_V p l e (am_rm 3 73) s m args below meth c (MQ below (am_Q G none S2) args s 0 0 (am_A G)) G (am_A G) s.heap 8 0 0 48 [(0, am_R 6), (1, am_I b1), (2, am_I b2), (3, am_I b3), (4, am_J b4), (6, am_I b6)] [am_I t0] S := by
  unfold sf_X1_settlePlace_48 at hs
  refine av_istore (pc := 48) (i := 7) (lv2 := [(7, am_I t0), (0, am_R 6), (1, am_I b1), (2, am_I b2), (3, am_I b3), (4, am_J b4), (6, am_I b6)]) C dX1_settlePlace_48 (by decide) rfl ?_
  refine av_aload_n (pc := 50) (j := 1) C dX1_settlePlace_50 rfl rfl ?_
  refine av_getR (pc := 51) (k := 3) (r := 33) C fl_X1_26 sk_6 rfl dX1_settlePlace_51 ?_
  refine av_iload_n (pc := 54) (j := 2) C dX1_settlePlace_54 rfl rfl ?_
  refine av_aload_n (pc := 55) (j := 1) C dX1_settlePlace_55 rfl rfl ?_
  refine av_getR (pc := 56) (k := 3) (r := 33) C fl_X1_26 sk_6 rfl dX1_settlePlace_56 ?_
  refine av_iload_n (pc := 59) (j := 2) C dX1_settlePlace_59 rfl rfl ?_
  obtain ⟨x17, S16, hc18, hs⟩ := am_b2_of hs
  refine av_eq (st2 := [am_I b1, am_R 33, am_I b1, am_R 33]) rfl rfl rfl rfl (av_callV (pc := 60) (as := [am_I b1]) (rest := [am_I b1, am_R 33]) C (ct_X4_at l G 33 66 100 sk_33 sk_66 rfl b1 S x17 S16 hc18) ym_X4_at si_X1_74 im_X4_at se_X4_at sk_33 rfl ⟨Nat.le_of_ble_eq_true rfl, Nat.le_of_ble_eq_true rfl⟩ rfl rfl (Nat.le_of_ble_eq_true rfl) dX1_settlePlace_60 ⟨Nat.le_refl _, Nat.le_refl _⟩ (fun hrv => av_eq (st2 := [am_I x17, am_I b1, am_R 33]) rfl rfl rfl rfl ?_))
  refine av_iload_n (pc := 63) (j := 3) C dX1_settlePlace_63 rfl rfl ?_
  refine av_iconst (pc := 64) C dX1_settlePlace_64 rfl ?_
  refine av_iadd (pc := 65) C dX1_settlePlace_65 ?_
  refine av_iload (pc := 66) (j := 0) C dX1_settlePlace_66 rfl ?_
  refine av_imul (pc := 68) C dX1_settlePlace_68 ?_
  refine av_iadd (pc := 69) C dX1_settlePlace_69 ?_
  refine av_i2l (pc := 70) C dX1_settlePlace_70 ?_
  obtain ⟨S19, hc20, hs⟩ := am_b1_of hs
  refine av_eq (st2 := [am_J (am_w32 (x17 + (am_w32 ((am_w32 (b2 + 1)) * t0)))), am_I b1, am_R 33]) rfl rfl rfl rfl (av_callV (pc := 71) (as := [am_I b1, am_J (am_w32 (x17 + (am_w32 ((am_w32 (b2 + 1)) * t0))))]) (rest := []) C (ct_X4_put l G 33 66 100 sk_33 sk_66 rfl b1 (am_w32 (x17 + (am_w32 ((am_w32 (b2 + 1)) * t0)))) S16 S19 hc20) ym_X4_put si_X1_37 im_X4_put se_X4_put sk_33 rfl ⟨Nat.le_of_ble_eq_true rfl, Nat.le_of_ble_eq_true rfl⟩ rfl rfl (Nat.le_of_ble_eq_true rfl) dX1_settlePlace_71 ⟨Nat.le_refl _, Nat.le_refl _⟩ (fun hrv => av_eq (st2 := []) rfl rfl rfl rfl ?_))
  refine av_lvsub (lv2 := [(0, am_R 6), (1, am_I b1), (3, am_I b3), (4, am_J b4), (6, am_I b6)]) [1, 2, 4, 5, 6] rfl ?_
  exact wk_X1_settlePlace_74 C hr hlocks b1 b3 b4 b6 S19 S2 hs
def sf_X1_settlePlace (a1 : Int) (a2 : Int) (a3 : Int) (a4 : Int) (S : am_S) : Option (am_S) := (am_b2 (sf_X4_at 64 100 a1 S) (fun x2 S1 => (am_b2 (sf_X4_at 65 100 a1 S1) (fun x5 S4 => (am_b1 (sf_X4_put 65 100 a1 (am_w32 (x5 - 1)) S4) (fun S7 => (if a3 = 1 then (if x2 = 0 then (am_b2 (sf_X8_numberOf a4 S7) (fun x10 S9 => (sf_X1_settlePlace_48 a1 a2 a3 a4 x2 x10 S9))) else (sf_X1_settlePlace_48 a1 a2 a3 a4 x2 1 S7)) else (sf_X1_settlePlace_74 a1 a3 a4 x2 S7))))))))
set_option maxHeartbeats 4000000 in
set_option maxRecDepth 100000 in
theorem ct_X1_settlePlace (l : Launch) (G : am_G) (a1 : Int) (a2 : Int) (a3 : Int) (a4 : Int) (S : am_S) (S2 : am_S) (hs : sf_X1_settlePlace a1 a2 a3 a4 S = some S2) : am_met l yX1_settlePlace cX1_settlePlace 8 none 3 73 G [am_R 6, am_I a1, am_I a2, am_I a3, am_J a4] S none S2 := by
  refine am_enter ym_X1_settlePlace (Nat.le_of_ble_eq_true rfl) ?_
  intro p e s m args below meth c C hr hlocks
  refine av_eq (lv2 := [(0, am_R 6), (1, am_I a1), (2, am_I a2), (3, am_I a3), (4, am_J a4)]) rfl rfl rfl rfl ?_
  unfold sf_X1_settlePlace at hs
  refine av_aload_n (pc := 0) (j := 0) C dX1_settlePlace_0 rfl rfl ?_
  refine av_getR (pc := 1) (k := 1) (r := 31) C fl_X1_20 sk_6 rfl dX1_settlePlace_1 ?_
  refine av_iload_n (pc := 4) (j := 1) C dX1_settlePlace_4 rfl rfl ?_
  obtain ⟨x2, S1, hc3, hs⟩ := am_b2_of hs
  refine av_eq (st2 := [am_I a1, am_R 31]) rfl rfl rfl rfl (av_callV (pc := 5) (as := [am_I a1]) (rest := []) C (ct_X4_at l G 31 64 100 sk_31 sk_64 rfl a1 S x2 S1 hc3) ym_X4_at si_X1_74 im_X4_at se_X4_at sk_31 rfl ⟨Nat.le_of_ble_eq_true rfl, Nat.le_of_ble_eq_true rfl⟩ rfl rfl (Nat.le_of_ble_eq_true rfl) dX1_settlePlace_5 ⟨Nat.le_refl _, Nat.le_refl _⟩ (fun hrv => av_eq (st2 := [am_I x2]) rfl rfl rfl rfl ?_))
  refine av_istore (pc := 8) (i := 6) (lv2 := [(6, am_I x2), (0, am_R 6), (1, am_I a1), (2, am_I a2), (3, am_I a3), (4, am_J a4)]) C dX1_settlePlace_8 (by decide) rfl ?_
  refine av_aload_n (pc := 10) (j := 1) C dX1_settlePlace_10 rfl rfl ?_
  refine av_getR (pc := 11) (k := 2) (r := 32) C fl_X1_23 sk_6 rfl dX1_settlePlace_11 ?_
  refine av_iload_n (pc := 14) (j := 2) C dX1_settlePlace_14 rfl rfl ?_
  refine av_aload_n (pc := 15) (j := 1) C dX1_settlePlace_15 rfl rfl ?_
  refine av_getR (pc := 16) (k := 2) (r := 32) C fl_X1_23 sk_6 rfl dX1_settlePlace_16 ?_
  refine av_iload_n (pc := 19) (j := 2) C dX1_settlePlace_19 rfl rfl ?_
  obtain ⟨x5, S4, hc6, hs⟩ := am_b2_of hs
  refine av_eq (st2 := [am_I a1, am_R 32, am_I a1, am_R 32]) rfl rfl rfl rfl (av_callV (pc := 20) (as := [am_I a1]) (rest := [am_I a1, am_R 32]) C (ct_X4_at l G 32 65 100 sk_32 sk_65 rfl a1 S1 x5 S4 hc6) ym_X4_at si_X1_74 im_X4_at se_X4_at sk_32 rfl ⟨Nat.le_of_ble_eq_true rfl, Nat.le_of_ble_eq_true rfl⟩ rfl rfl (Nat.le_of_ble_eq_true rfl) dX1_settlePlace_20 ⟨Nat.le_refl _, Nat.le_refl _⟩ (fun hrv => av_eq (st2 := [am_I x5, am_I a1, am_R 32]) rfl rfl rfl rfl ?_))
  refine av_iconst (pc := 23) C dX1_settlePlace_23 rfl ?_
  refine av_isub (pc := 24) C dX1_settlePlace_24 ?_
  refine av_i2l (pc := 25) C dX1_settlePlace_25 ?_
  obtain ⟨S7, hc8, hs⟩ := am_b1_of hs
  refine av_eq (st2 := [am_J (am_w32 (x5 - 1)), am_I a1, am_R 32]) rfl rfl rfl rfl (av_callV (pc := 26) (as := [am_I a1, am_J (am_w32 (x5 - 1))]) (rest := []) C (ct_X4_put l G 32 65 100 sk_32 sk_65 rfl a1 (am_w32 (x5 - 1)) S4 S7 hc8) ym_X4_put si_X1_37 im_X4_put se_X4_put sk_32 rfl ⟨Nat.le_of_ble_eq_true rfl, Nat.le_of_ble_eq_true rfl⟩ rfl rfl (Nat.le_of_ble_eq_true rfl) dX1_settlePlace_26 ⟨Nat.le_refl _, Nat.le_refl _⟩ (fun hrv => av_eq (st2 := []) rfl rfl rfl rfl ?_))
  refine av_iload_n (pc := 29) (j := 4) C dX1_settlePlace_29 rfl rfl ?_
  refine av_iconst (pc := 30) C dX1_settlePlace_30 rfl ?_
  refine av_icmp_ne (pc := 31) (tgt := 74) C dX1_settlePlace_31 (by decide) (fun hc => ?_) (fun hc => ?_)
  · rw [if_neg hc] at hs
    refine av_lvsub (lv2 := [(0, am_R 6), (1, am_I a1), (3, am_I a3), (4, am_J a4), (6, am_I x2)]) [1, 2, 4, 5, 0] rfl ?_
    exact wk_X1_settlePlace_74 C hr hlocks a1 a3 a4 x2 S7 S2 hs
  · rw [if_pos (Decidable.not_not.mp hc)] at hs
    refine av_iload (pc := 34) (j := 0) C dX1_settlePlace_34 rfl ?_
    refine av_if_ne (pc := 36) (tgt := 47) C dX1_settlePlace_36 (by decide) (fun hc => ?_) (fun hc => ?_)
    · rw [if_neg hc] at hs
      refine av_iconst (pc := 47) C dX1_settlePlace_47 rfl ?_
      refine av_lvsub (lv2 := [(0, am_R 6), (1, am_I a1), (2, am_I a2), (3, am_I a3), (4, am_J a4), (6, am_I x2)]) [1, 2, 3, 4, 5, 0] rfl ?_
      exact wk_X1_settlePlace_48 C hr hlocks a1 a2 a3 a4 x2 1 S7 S2 hs
    · rw [if_pos (Decidable.not_not.mp hc)] at hs
      refine av_lload (pc := 39) (j := 5) C dX1_settlePlace_39 rfl ?_
      obtain ⟨x10, S9, hc11, hs⟩ := am_b2_of hs
      refine av_eq (st2 := [am_J a4]) rfl rfl rfl rfl (av_callS (pc := 41) (as := [am_J a4]) (rest := []) C (ct_X8_numberOf l G a4 S7 x10 S9 hc11) ym_X8_numberOf si_X1_78 st_X8_numberOf ⟨Nat.le_of_ble_eq_true rfl, Nat.le_of_ble_eq_true rfl⟩ rfl rfl (Nat.le_of_ble_eq_true rfl) dX1_settlePlace_41 ⟨Nat.le_refl _, Nat.le_refl _⟩ (fun hrv => av_eq (st2 := [am_I x10]) rfl rfl rfl rfl ?_))
      refine av_goto (pc := 44) (tgt := 48) C dX1_settlePlace_44 (by decide) ?_
      refine av_lvsub (lv2 := [(0, am_R 6), (1, am_I a1), (2, am_I a2), (3, am_I a3), (4, am_J a4), (6, am_I x2)]) [1, 2, 3, 4, 5, 0] rfl ?_
      exact wk_X1_settlePlace_48 C hr hlocks a1 a2 a3 a4 x2 x10 S9 S2 hs
def sf_X2_clear (S : am_S) : Option (am_S) := (am_let (am_sI S 322 0) (fun S1 => (am_let (am_sI S1 323 0) (fun S2 => (some S2)))))
set_option maxHeartbeats 4000000 in
set_option maxRecDepth 100000 in
theorem ct_X2_clear (l : Launch) (G : am_G) (S : am_S) (S2 : am_S) (hs : sf_X2_clear  S = some S2) : am_met l yX2_clear cX2_clear 1 none 0 0 G [am_R 5] S none S2 := by
  refine am_enter ym_X2_clear (Nat.le_of_ble_eq_true rfl) ?_
  intro p e s m args below meth c C hr hlocks
  refine av_eq (lv2 := [(0, am_R 5)]) rfl rfl rfl rfl ?_
  unfold sf_X2_clear at hs
  refine av_aload_n (pc := 0) (j := 0) C dX2_clear_0 rfl rfl ?_
  refine av_iconst (pc := 1) C dX2_clear_1 rfl ?_
  obtain ⟨S1, eS1, hs⟩ := am_let_of hs
  refine av_putI (pc := 2) (k := 2) (n := 322) C fp_X2_23 sk_5 rfl rfl dX2_clear_2 ?_
  refine av_eq rfl rfl rfl eS1 ?_
  refine av_aload_n (pc := 5) (j := 0) C dX2_clear_5 rfl rfl ?_
  refine av_iconst (pc := 6) C dX2_clear_6 rfl ?_
  obtain ⟨S2, eS2, hs⟩ := am_let_of hs
  refine av_putI (pc := 7) (k := 3) (n := 323) C fp_X2_27 sk_5 rfl rfl dX2_clear_7 ?_
  refine av_eq rfl rfl rfl eS2 ?_
  obtain rfl := am_inj1 hs
  exact av_vret C hr hlocks dX2_clear_10
def sf_X2_beginTurn (S : am_S) : Option (am_S) := (am_let (am_sI S 323 (am_w32 ((S.1 323) + 1))) (fun S1 => (some S1)))
set_option maxHeartbeats 4000000 in
set_option maxRecDepth 100000 in
theorem ct_X2_beginTurn (l : Launch) (G : am_G) (S : am_S) (S2 : am_S) (hs : sf_X2_beginTurn  S = some S2) : am_met l yX2_beginTurn cX2_beginTurn 1 none 0 0 G [am_R 5] S none S2 := by
  refine am_enter ym_X2_beginTurn (Nat.le_of_ble_eq_true rfl) ?_
  intro p e s m args below meth c C hr hlocks
  refine av_eq (lv2 := [(0, am_R 5)]) rfl rfl rfl rfl ?_
  unfold sf_X2_beginTurn at hs
  refine av_aload_n (pc := 0) (j := 0) C dX2_beginTurn_0 rfl rfl ?_
  refine av_dup (pc := 1) C dX2_beginTurn_1 rfl ?_
  refine av_getI (pc := 2) (k := 3) (n := 323) C fl_X2_27 sk_5 rfl rfl dX2_beginTurn_2 ?_
  refine av_iconst (pc := 5) C dX2_beginTurn_5 rfl ?_
  refine av_iadd (pc := 6) C dX2_beginTurn_6 ?_
  obtain ⟨S1, eS1, hs⟩ := am_let_of hs
  refine av_putI (pc := 7) (k := 3) (n := 323) C fp_X2_27 sk_5 rfl rfl dX2_beginTurn_7 ?_
  refine av_eq rfl rfl rfl eS1 ?_
  obtain rfl := am_inj1 hs
  exact av_vret C hr hlocks dX2_beginTurn_10
def sf_X2_turns (S : am_S) : Option (Int × am_S) := (some ((S.1 323), S))
set_option maxHeartbeats 4000000 in
set_option maxRecDepth 100000 in
theorem ct_X2_turns (l : Launch) (G : am_G) (S : am_S) (x : Int) (S2 : am_S) (hs : sf_X2_turns  S = some (x, S2)) : am_met l yX2_turns cX2_turns 1 (some .int) 0 0 G [am_R 5] S (some (am_I x)) S2 := by
  refine am_enter ym_X2_turns (Nat.le_of_ble_eq_true rfl) ?_
  intro p e s m args below meth c C hr hlocks
  refine av_eq (lv2 := [(0, am_R 5)]) rfl rfl rfl rfl ?_
  unfold sf_X2_turns at hs
  refine av_aload_n (pc := 0) (j := 0) C dX2_turns_0 rfl rfl ?_
  refine av_getI (pc := 1) (k := 3) (n := 323) C fl_X2_27 sk_5 rfl rfl dX2_turns_1 ?_
  obtain ⟨rfl, rfl⟩ := am_inj2 hs
  exact av_iret C hr hlocks dX2_turns_4
def sf_X2_total (S : am_S) : Option (Int × am_S) := (some ((S.1 322), S))
set_option maxHeartbeats 4000000 in
set_option maxRecDepth 100000 in
theorem ct_X2_total (l : Launch) (G : am_G) (S : am_S) (x : Int) (S2 : am_S) (hs : sf_X2_total  S = some (x, S2)) : am_met l yX2_total cX2_total 1 (some .int) 0 0 G [am_R 5] S (some (am_I x)) S2 := by
  refine am_enter ym_X2_total (Nat.le_of_ble_eq_true rfl) ?_
  intro p e s m args below meth c C hr hlocks
  refine av_eq (lv2 := [(0, am_R 5)]) rfl rfl rfl rfl ?_
  unfold sf_X2_total at hs
  refine av_aload_n (pc := 0) (j := 0) C dX2_total_0 rfl rfl ?_
  refine av_getI (pc := 1) (k := 2) (n := 322) C fl_X2_23 sk_5 rfl rfl dX2_total_1 ?_
  obtain ⟨rfl, rfl⟩ := am_inj2 hs
  exact av_iret C hr hlocks dX2_total_4
def sf_X2_kept (S : am_S) : Option (Int × am_S) := (some ((am_min (S.1 322) 60), S))
set_option maxHeartbeats 4000000 in
set_option maxRecDepth 100000 in
theorem ct_X2_kept (l : Launch) (G : am_G) (S : am_S) (x : Int) (S2 : am_S) (hs : sf_X2_kept  S = some (x, S2)) : am_met l yX2_kept cX2_kept 1 (some .int) 1 21 G [am_R 5] S (some (am_I x)) S2 := by
  refine am_enter ym_X2_kept (Nat.le_of_ble_eq_true rfl) ?_
  intro p e s m args below meth c C hr hlocks
  refine av_eq (lv2 := [(0, am_R 5)]) rfl rfl rfl rfl ?_
  unfold sf_X2_kept at hs
  refine av_aload_n (pc := 0) (j := 0) C dX2_kept_0 rfl rfl ?_
  refine av_getI (pc := 1) (k := 2) (n := 322) C fl_X2_23 sk_5 rfl rfl dX2_kept_1 ?_
  refine av_bipush (pc := 4) C dX2_kept_4 rfl ?_
  refine av_mmin (pc := 6) C si_X2_30 st_M_min ini_M cod_M_min ⟨Nat.le_of_ble_eq_true rfl, Nat.le_of_ble_eq_true rfl⟩ (Nat.le_of_ble_eq_true rfl) dX2_kept_6 ⟨Nat.le_refl _, Nat.le_refl _⟩ ?_
  obtain ⟨rfl, rfl⟩ := am_inj2 hs
  exact av_iret C hr hlocks dX2_kept_9
def sf_X2_add (a1 : Int) (S : am_S) : Option (am_S) := (am_b1 (sf_X4_put 61 60 (Int.tmod (S.1 322) 60) a1 S) (fun S1 => (am_b1 (sf_X4_put 62 60 (Int.tmod (S1.1 322) 60) (S1.1 323) S1) (fun S3 => (am_let (am_sI S3 322 (am_w32 ((S3.1 322) + 1))) (fun S5 => (some S5)))))))
set_option maxHeartbeats 4000000 in
set_option maxRecDepth 100000 in
theorem ct_X2_add (l : Launch) (G : am_G) (a1 : Int) (S : am_S) (S2 : am_S) (hs : sf_X2_add a1 S = some S2) : am_met l yX2_add cX2_add 3 none 1 23 G [am_R 5, am_J a1] S none S2 := by
  refine am_enter ym_X2_add (Nat.le_of_ble_eq_true rfl) ?_
  intro p e s m args below meth c C hr hlocks
  refine av_eq (lv2 := [(0, am_R 5), (1, am_J a1)]) rfl rfl rfl rfl ?_
  unfold sf_X2_add at hs
  refine av_aload_n (pc := 0) (j := 0) C dX2_add_0 rfl rfl ?_
  refine av_getR (pc := 1) (k := 0) (r := 28) C fl_X2_14 sk_5 rfl dX2_add_1 ?_
  refine av_aload_n (pc := 4) (j := 0) C dX2_add_4 rfl rfl ?_
  refine av_getI (pc := 5) (k := 2) (n := 322) C fl_X2_23 sk_5 rfl rfl dX2_add_5 ?_
  refine av_bipush (pc := 8) C dX2_add_8 rfl ?_
  refine av_irem (pc := 10) C dX2_add_10 (by decide) ?_
  refine av_lload_n (pc := 11) (j := 1) C dX2_add_11 rfl rfl ?_
  obtain ⟨S1, hc2, hs⟩ := am_b1_of hs
  refine av_eq (st2 := [am_J a1, am_I (Int.tmod (S.1 322) 60), am_R 28]) rfl rfl rfl rfl (av_callV (pc := 12) (as := [am_I (Int.tmod (S.1 322) 60), am_J a1]) (rest := []) C (ct_X4_put l G 28 61 60 sk_28 sk_61 rfl (Int.tmod (S.1 322) 60) a1 S S1 hc2) ym_X4_put si_X2_36 im_X4_put se_X4_put sk_28 rfl ⟨Nat.le_of_ble_eq_true rfl, Nat.le_of_ble_eq_true rfl⟩ rfl rfl (Nat.le_of_ble_eq_true rfl) dX2_add_12 ⟨Nat.le_refl _, Nat.le_refl _⟩ (fun hrv => av_eq (st2 := []) rfl rfl rfl rfl ?_))
  refine av_aload_n (pc := 15) (j := 0) C dX2_add_15 rfl rfl ?_
  refine av_getR (pc := 16) (k := 1) (r := 29) C fl_X2_20 sk_5 rfl dX2_add_16 ?_
  refine av_aload_n (pc := 19) (j := 0) C dX2_add_19 rfl rfl ?_
  refine av_getI (pc := 20) (k := 2) (n := 322) C fl_X2_23 sk_5 rfl rfl dX2_add_20 ?_
  refine av_bipush (pc := 23) C dX2_add_23 rfl ?_
  refine av_irem (pc := 25) C dX2_add_25 (by decide) ?_
  refine av_aload_n (pc := 26) (j := 0) C dX2_add_26 rfl rfl ?_
  refine av_getI (pc := 27) (k := 3) (n := 323) C fl_X2_27 sk_5 rfl rfl dX2_add_27 ?_
  refine av_i2l (pc := 30) C dX2_add_30 ?_
  obtain ⟨S3, hc4, hs⟩ := am_b1_of hs
  refine av_eq (st2 := [am_J (S1.1 323), am_I (Int.tmod (S1.1 322) 60), am_R 29]) rfl rfl rfl rfl (av_callV (pc := 31) (as := [am_I (Int.tmod (S1.1 322) 60), am_J (S1.1 323)]) (rest := []) C (ct_X4_put l G 29 62 60 sk_29 sk_62 rfl (Int.tmod (S1.1 322) 60) (S1.1 323) S1 S3 hc4) ym_X4_put si_X2_36 im_X4_put se_X4_put sk_29 rfl ⟨Nat.le_of_ble_eq_true rfl, Nat.le_of_ble_eq_true rfl⟩ rfl rfl (Nat.le_of_ble_eq_true rfl) dX2_add_31 ⟨Nat.le_refl _, Nat.le_refl _⟩ (fun hrv => av_eq (st2 := []) rfl rfl rfl rfl ?_))
  refine av_aload_n (pc := 34) (j := 0) C dX2_add_34 rfl rfl ?_
  refine av_dup (pc := 35) C dX2_add_35 rfl ?_
  refine av_getI (pc := 36) (k := 2) (n := 322) C fl_X2_23 sk_5 rfl rfl dX2_add_36 ?_
  refine av_iconst (pc := 39) C dX2_add_39 rfl ?_
  refine av_iadd (pc := 40) C dX2_add_40 ?_
  obtain ⟨S5, eS5, hs⟩ := am_let_of hs
  refine av_putI (pc := 41) (k := 2) (n := 322) C fp_X2_23 sk_5 rfl rfl dX2_add_41 ?_
  refine av_eq rfl rfl rfl eS5 ?_
  obtain rfl := am_inj1 hs
  exact av_vret C hr hlocks dX2_add_44
def sf_X2_valueOf (a1 : Int) (S : am_S) : Option (Int × am_S) := (am_b2 (sf_X4_valueAt 61 60 (Int.tmod (am_w32 ((am_w32 ((S.1 322) - 1)) - a1)) 60) S) (fun x2 S1 => (some (x2, S1))))
set_option maxHeartbeats 4000000 in
set_option maxRecDepth 100000 in
theorem ct_X2_valueOf (l : Launch) (G : am_G) (a1 : Int) (S : am_S) (x : Int) (S2 : am_S) (hs : sf_X2_valueOf a1 S = some (x, S2)) : am_met l yX2_valueOf cX2_valueOf 2 (some .long) 1 21 G [am_R 5, am_I a1] S (some (am_J x)) S2 := by
  refine am_enter ym_X2_valueOf (Nat.le_of_ble_eq_true rfl) ?_
  intro p e s m args below meth c C hr hlocks
  refine av_eq (lv2 := [(0, am_R 5), (1, am_I a1)]) rfl rfl rfl rfl ?_
  unfold sf_X2_valueOf at hs
  refine av_aload_n (pc := 0) (j := 0) C dX2_valueOf_0 rfl rfl ?_
  refine av_getR (pc := 1) (k := 0) (r := 28) C fl_X2_14 sk_5 rfl dX2_valueOf_1 ?_
  refine av_aload_n (pc := 4) (j := 0) C dX2_valueOf_4 rfl rfl ?_
  refine av_getI (pc := 5) (k := 2) (n := 322) C fl_X2_23 sk_5 rfl rfl dX2_valueOf_5 ?_
  refine av_iconst (pc := 8) C dX2_valueOf_8 rfl ?_
  refine av_isub (pc := 9) C dX2_valueOf_9 ?_
  refine av_iload_n (pc := 10) (j := 1) C dX2_valueOf_10 rfl rfl ?_
  refine av_isub (pc := 11) C dX2_valueOf_11 ?_
  refine av_bipush (pc := 12) C dX2_valueOf_12 rfl ?_
  refine av_irem (pc := 14) C dX2_valueOf_14 (by decide) ?_
  obtain ⟨x2, S1, hc3, hs⟩ := am_b2_of hs
  refine av_eq (st2 := [am_I (Int.tmod (am_w32 ((am_w32 ((S.1 322) - 1)) - a1)) 60), am_R 28]) rfl rfl rfl rfl (av_callV (pc := 15) (as := [am_I (Int.tmod (am_w32 ((am_w32 ((S.1 322) - 1)) - a1)) 60)]) (rest := []) C (ct_X4_valueAt l G 28 61 60 sk_28 sk_61 rfl (Int.tmod (am_w32 ((am_w32 ((S.1 322) - 1)) - a1)) 60) S x2 S1 hc3) ym_X4_valueAt si_X2_40 im_X4_valueAt se_X4_valueAt sk_28 rfl ⟨Nat.le_of_ble_eq_true rfl, Nat.le_of_ble_eq_true rfl⟩ rfl rfl (Nat.le_of_ble_eq_true rfl) dX2_valueOf_15 ⟨Nat.le_refl _, Nat.le_refl _⟩ (fun hrv => av_eq (st2 := [am_J x2]) rfl rfl rfl rfl ?_))
  obtain ⟨rfl, rfl⟩ := am_inj2 hs
  exact av_lret C hr hlocks dX2_valueOf_18
def sf_X2_turnOf (a1 : Int) (S : am_S) : Option (Int × am_S) := (am_b2 (sf_X4_at 62 60 (Int.tmod (am_w32 ((am_w32 ((S.1 322) - 1)) - a1)) 60) S) (fun x2 S1 => (some (x2, S1))))
set_option maxHeartbeats 4000000 in
set_option maxRecDepth 100000 in
theorem ct_X2_turnOf (l : Launch) (G : am_G) (a1 : Int) (S : am_S) (x : Int) (S2 : am_S) (hs : sf_X2_turnOf a1 S = some (x, S2)) : am_met l yX2_turnOf cX2_turnOf 2 (some .int) 1 21 G [am_R 5, am_I a1] S (some (am_I x)) S2 := by
  refine am_enter ym_X2_turnOf (Nat.le_of_ble_eq_true rfl) ?_
  intro p e s m args below meth c C hr hlocks
  refine av_eq (lv2 := [(0, am_R 5), (1, am_I a1)]) rfl rfl rfl rfl ?_
  unfold sf_X2_turnOf at hs
  refine av_aload_n (pc := 0) (j := 0) C dX2_turnOf_0 rfl rfl ?_
  refine av_getR (pc := 1) (k := 1) (r := 29) C fl_X2_20 sk_5 rfl dX2_turnOf_1 ?_
  refine av_aload_n (pc := 4) (j := 0) C dX2_turnOf_4 rfl rfl ?_
  refine av_getI (pc := 5) (k := 2) (n := 322) C fl_X2_23 sk_5 rfl rfl dX2_turnOf_5 ?_
  refine av_iconst (pc := 8) C dX2_turnOf_8 rfl ?_
  refine av_isub (pc := 9) C dX2_turnOf_9 ?_
  refine av_iload_n (pc := 10) (j := 1) C dX2_turnOf_10 rfl rfl ?_
  refine av_isub (pc := 11) C dX2_turnOf_11 ?_
  refine av_bipush (pc := 12) C dX2_turnOf_12 rfl ?_
  refine av_irem (pc := 14) C dX2_turnOf_14 (by decide) ?_
  obtain ⟨x2, S1, hc3, hs⟩ := am_b2_of hs
  refine av_eq (st2 := [am_I (Int.tmod (am_w32 ((am_w32 ((S.1 322) - 1)) - a1)) 60), am_R 29]) rfl rfl rfl rfl (av_callV (pc := 15) (as := [am_I (Int.tmod (am_w32 ((am_w32 ((S.1 322) - 1)) - a1)) 60)]) (rest := []) C (ct_X4_at l G 29 62 60 sk_29 sk_62 rfl (Int.tmod (am_w32 ((am_w32 ((S.1 322) - 1)) - a1)) 60) S x2 S1 hc3) ym_X4_at si_X2_44 im_X4_at se_X4_at sk_29 rfl ⟨Nat.le_of_ble_eq_true rfl, Nat.le_of_ble_eq_true rfl⟩ rfl rfl (Nat.le_of_ble_eq_true rfl) dX2_turnOf_15 ⟨Nat.le_refl _, Nat.le_refl _⟩ (fun hrv => av_eq (st2 := [am_I x2]) rfl rfl rfl rfl ?_))
  obtain ⟨rfl, rfl⟩ := am_inj2 hs
  exact av_iret C hr hlocks dX2_turnOf_18
def sf_X3_clear (S : am_S) : Option (am_S) := (am_let (am_sI S 75 0) (fun S1 => (am_let (am_sI S1 76 0) (fun S2 => (some S2)))))
set_option maxHeartbeats 4000000 in
set_option maxRecDepth 100000 in
theorem ct_X3_clear (l : Launch) (G : am_G) (S : am_S) (S2 : am_S) (hs : sf_X3_clear  S = some S2) : am_met l yX3_clear cX3_clear 1 none 0 0 G [am_R 1] S none S2 := by
  refine am_enter ym_X3_clear (Nat.le_of_ble_eq_true rfl) ?_
  intro p e s m args below meth c C hr hlocks
  refine av_eq (lv2 := [(0, am_R 1)]) rfl rfl rfl rfl ?_
  unfold sf_X3_clear at hs
  refine av_aload_n (pc := 0) (j := 0) C dX3_clear_0 rfl rfl ?_
  refine av_iconst (pc := 1) C dX3_clear_1 rfl ?_
  obtain ⟨S1, eS1, hs⟩ := am_let_of hs
  refine av_putI (pc := 2) (k := 11) (n := 75) C fp_X3_50 sk_1 rfl rfl dX3_clear_2 ?_
  refine av_eq rfl rfl rfl eS1 ?_
  refine av_aload_n (pc := 5) (j := 0) C dX3_clear_5 rfl rfl ?_
  refine av_iconst (pc := 6) C dX3_clear_6 rfl ?_
  obtain ⟨S2, eS2, hs⟩ := am_let_of hs
  refine av_putI (pc := 7) (k := 12) (n := 76) C fp_X3_54 sk_1 rfl rfl dX3_clear_7 ?_
  refine av_eq rfl rfl rfl eS2 ?_
  obtain rfl := am_inj1 hs
  exact av_vret C hr hlocks dX3_clear_10
def sf_X3_isFull (S : am_S) : Option (Int × am_S) := (if (S.1 75) < 100 then (some (0, S)) else (some (1, S)))
set_option maxHeartbeats 4000000 in
set_option maxRecDepth 100000 in
theorem ct_X3_isFull (l : Launch) (G : am_G) (S : am_S) (x : Int) (S2 : am_S) (hs : sf_X3_isFull  S = some (x, S2)) : am_met l yX3_isFull cX3_isFull 1 (some .boolean) 0 0 G [am_R 1] S (some (am_I x)) S2 := by
  refine am_enter ym_X3_isFull (Nat.le_of_ble_eq_true rfl) ?_
  intro p e s m args below meth c C hr hlocks
  refine av_eq (lv2 := [(0, am_R 1)]) rfl rfl rfl rfl ?_
  unfold sf_X3_isFull at hs
  refine av_aload_n (pc := 0) (j := 0) C dX3_isFull_0 rfl rfl ?_
  refine av_getI (pc := 1) (k := 11) (n := 75) C fl_X3_50 sk_1 rfl rfl dX3_isFull_1 ?_
  refine av_bipush (pc := 4) C dX3_isFull_4 rfl ?_
  refine av_icmp_lt (pc := 6) (tgt := 13) C dX3_isFull_6 (by decide) (fun hc => ?_) (fun hc => ?_)
  · rw [if_pos hc] at hs
    refine av_iconst (pc := 13) C dX3_isFull_13 rfl ?_
    obtain ⟨rfl, rfl⟩ := am_inj2 hs
    exact av_zret C (by decide) hr hlocks dX3_isFull_14
  · rw [if_neg hc] at hs
    refine av_iconst (pc := 9) C dX3_isFull_9 rfl ?_
    refine av_goto (pc := 10) (tgt := 14) C dX3_isFull_10 (by decide) ?_
    obtain ⟨rfl, rfl⟩ := am_inj2 hs
    exact av_zret C (by decide) hr hlocks dX3_isFull_14
def sf_X3_statusOf (a1 : Int) (S : am_S) : Option (Int × am_S) := (am_b2 (sf_X4_at 41 100 a1 S) (fun x2 S1 => (some (x2, S1))))
set_option maxHeartbeats 4000000 in
set_option maxRecDepth 100000 in
theorem ct_X3_statusOf (l : Launch) (G : am_G) (a1 : Int) (S : am_S) (x : Int) (S2 : am_S) (hs : sf_X3_statusOf a1 S = some (x, S2)) : am_met l yX3_statusOf cX3_statusOf 2 (some .int) 1 21 G [am_R 1, am_I a1] S (some (am_I x)) S2 := by
  refine am_enter ym_X3_statusOf (Nat.le_of_ble_eq_true rfl) ?_
  intro p e s m args below meth c C hr hlocks
  refine av_eq (lv2 := [(0, am_R 1), (1, am_I a1)]) rfl rfl rfl rfl ?_
  unfold sf_X3_statusOf at hs
  refine av_aload_n (pc := 0) (j := 0) C dX3_statusOf_0 rfl rfl ?_
  refine av_getR (pc := 1) (k := 0) (r := 8) C fl_X3_14 sk_1 rfl dX3_statusOf_1 ?_
  refine av_iload_n (pc := 4) (j := 1) C dX3_statusOf_4 rfl rfl ?_
  obtain ⟨x2, S1, hc3, hs⟩ := am_b2_of hs
  refine av_eq (st2 := [am_I a1, am_R 8]) rfl rfl rfl rfl (av_callV (pc := 5) (as := [am_I a1]) (rest := []) C (ct_X4_at l G 8 41 100 sk_8 sk_41 rfl a1 S x2 S1 hc3) ym_X4_at si_X3_67 im_X4_at se_X4_at sk_8 rfl ⟨Nat.le_of_ble_eq_true rfl, Nat.le_of_ble_eq_true rfl⟩ rfl rfl (Nat.le_of_ble_eq_true rfl) dX3_statusOf_5 ⟨Nat.le_refl _, Nat.le_refl _⟩ (fun hrv => av_eq (st2 := [am_I x2]) rfl rfl rfl rfl ?_))
  obtain ⟨rfl, rfl⟩ := am_inj2 hs
  exact av_iret C hr hlocks dX3_statusOf_8
def sf_X3_valueOf (a1 : Int) (S : am_S) : Option (Int × am_S) := (am_b2 (sf_X4_valueAt 42 100 a1 S) (fun x2 S1 => (some (x2, S1))))
set_option maxHeartbeats 4000000 in
set_option maxRecDepth 100000 in
theorem ct_X3_valueOf (l : Launch) (G : am_G) (a1 : Int) (S : am_S) (x : Int) (S2 : am_S) (hs : sf_X3_valueOf a1 S = some (x, S2)) : am_met l yX3_valueOf cX3_valueOf 2 (some .long) 1 21 G [am_R 1, am_I a1] S (some (am_J x)) S2 := by
  refine am_enter ym_X3_valueOf (Nat.le_of_ble_eq_true rfl) ?_
  intro p e s m args below meth c C hr hlocks
  refine av_eq (lv2 := [(0, am_R 1), (1, am_I a1)]) rfl rfl rfl rfl ?_
  unfold sf_X3_valueOf at hs
  refine av_aload_n (pc := 0) (j := 0) C dX3_valueOf_0 rfl rfl ?_
  refine av_getR (pc := 1) (k := 1) (r := 9) C fl_X3_20 sk_1 rfl dX3_valueOf_1 ?_
  refine av_iload_n (pc := 4) (j := 1) C dX3_valueOf_4 rfl rfl ?_
  obtain ⟨x2, S1, hc3, hs⟩ := am_b2_of hs
  refine av_eq (st2 := [am_I a1, am_R 9]) rfl rfl rfl rfl (av_callV (pc := 5) (as := [am_I a1]) (rest := []) C (ct_X4_valueAt l G 9 42 100 sk_9 sk_42 rfl a1 S x2 S1 hc3) ym_X4_valueAt si_X3_71 im_X4_valueAt se_X4_valueAt sk_9 rfl ⟨Nat.le_of_ble_eq_true rfl, Nat.le_of_ble_eq_true rfl⟩ rfl rfl (Nat.le_of_ble_eq_true rfl) dX3_valueOf_5 ⟨Nat.le_refl _, Nat.le_refl _⟩ (fun hrv => av_eq (st2 := [am_J x2]) rfl rfl rfl rfl ?_))
  obtain ⟨rfl, rfl⟩ := am_inj2 hs
  exact av_lret C hr hlocks dX3_valueOf_8
def sf_X3_lastKeyOf (a1 : Int) (S : am_S) : Option (Int × am_S) := (am_b2 (sf_X4_at 43 100 a1 S) (fun x2 S1 => (some (x2, S1))))
set_option maxHeartbeats 4000000 in
set_option maxRecDepth 100000 in
theorem ct_X3_lastKeyOf (l : Launch) (G : am_G) (a1 : Int) (S : am_S) (x : Int) (S2 : am_S) (hs : sf_X3_lastKeyOf a1 S = some (x, S2)) : am_met l yX3_lastKeyOf cX3_lastKeyOf 2 (some .int) 1 21 G [am_R 1, am_I a1] S (some (am_I x)) S2 := by
  refine am_enter ym_X3_lastKeyOf (Nat.le_of_ble_eq_true rfl) ?_
  intro p e s m args below meth c C hr hlocks
  refine av_eq (lv2 := [(0, am_R 1), (1, am_I a1)]) rfl rfl rfl rfl ?_
  unfold sf_X3_lastKeyOf at hs
  refine av_aload_n (pc := 0) (j := 0) C dX3_lastKeyOf_0 rfl rfl ?_
  refine av_getR (pc := 1) (k := 2) (r := 10) C fl_X3_23 sk_1 rfl dX3_lastKeyOf_1 ?_
  refine av_iload_n (pc := 4) (j := 1) C dX3_lastKeyOf_4 rfl rfl ?_
  obtain ⟨x2, S1, hc3, hs⟩ := am_b2_of hs
  refine av_eq (st2 := [am_I a1, am_R 10]) rfl rfl rfl rfl (av_callV (pc := 5) (as := [am_I a1]) (rest := []) C (ct_X4_at l G 10 43 100 sk_10 sk_43 rfl a1 S x2 S1 hc3) ym_X4_at si_X3_67 im_X4_at se_X4_at sk_10 rfl ⟨Nat.le_of_ble_eq_true rfl, Nat.le_of_ble_eq_true rfl⟩ rfl rfl (Nat.le_of_ble_eq_true rfl) dX3_lastKeyOf_5 ⟨Nat.le_refl _, Nat.le_refl _⟩ (fun hrv => av_eq (st2 := [am_I x2]) rfl rfl rfl rfl ?_))
  obtain ⟨rfl, rfl⟩ := am_inj2 hs
  exact av_iret C hr hlocks dX3_lastKeyOf_8
def sf_X3_reactionsOf (a1 : Int) (S : am_S) : Option (Int × am_S) := (am_b2 (sf_X4_at 47 100 a1 S) (fun x2 S1 => (some (x2, S1))))
set_option maxHeartbeats 4000000 in
set_option maxRecDepth 100000 in
theorem ct_X3_reactionsOf (l : Launch) (G : am_G) (a1 : Int) (S : am_S) (x : Int) (S2 : am_S) (hs : sf_X3_reactionsOf a1 S = some (x, S2)) : am_met l yX3_reactionsOf cX3_reactionsOf 2 (some .int) 1 21 G [am_R 1, am_I a1] S (some (am_I x)) S2 := by
  refine am_enter ym_X3_reactionsOf (Nat.le_of_ble_eq_true rfl) ?_
  intro p e s m args below meth c C hr hlocks
  refine av_eq (lv2 := [(0, am_R 1), (1, am_I a1)]) rfl rfl rfl rfl ?_
  unfold sf_X3_reactionsOf at hs
  refine av_aload_n (pc := 0) (j := 0) C dX3_reactionsOf_0 rfl rfl ?_
  refine av_getR (pc := 1) (k := 6) (r := 14) C fl_X3_35 sk_1 rfl dX3_reactionsOf_1 ?_
  refine av_iload_n (pc := 4) (j := 1) C dX3_reactionsOf_4 rfl rfl ?_
  obtain ⟨x2, S1, hc3, hs⟩ := am_b2_of hs
  refine av_eq (st2 := [am_I a1, am_R 14]) rfl rfl rfl rfl (av_callV (pc := 5) (as := [am_I a1]) (rest := []) C (ct_X4_at l G 14 47 100 sk_14 sk_47 rfl a1 S x2 S1 hc3) ym_X4_at si_X3_67 im_X4_at se_X4_at sk_14 rfl ⟨Nat.le_of_ble_eq_true rfl, Nat.le_of_ble_eq_true rfl⟩ rfl rfl (Nat.le_of_ble_eq_true rfl) dX3_reactionsOf_5 ⟨Nat.le_refl _, Nat.le_refl _⟩ (fun hrv => av_eq (st2 := [am_I x2]) rfl rfl rfl rfl ?_))
  obtain ⟨rfl, rfl⟩ := am_inj2 hs
  exact av_iret C hr hlocks dX3_reactionsOf_8
def sf_X3_isLoose (a1 : Int) (S : am_S) : Option (Int × am_S) := (am_b2 (sf_X4_at 41 100 a1 S) (fun x2 S1 => (if x2 = 2 then (am_b2 (sf_X4_at 45 100 a1 S1) (fun x5 S4 => (if x5 = 0 then (some (1, S4)) else (some (0, S4))))) else (some (0, S1)))))
set_option maxHeartbeats 4000000 in
set_option maxRecDepth 100000 in
theorem ct_X3_isLoose (l : Launch) (G : am_G) (a1 : Int) (S : am_S) (x : Int) (S2 : am_S) (hs : sf_X3_isLoose a1 S = some (x, S2)) : am_met l yX3_isLoose cX3_isLoose 2 (some .boolean) 1 21 G [am_R 1, am_I a1] S (some (am_I x)) S2 := by
  refine am_enter ym_X3_isLoose (Nat.le_of_ble_eq_true rfl) ?_
  intro p e s m args below meth c C hr hlocks
  refine av_eq (lv2 := [(0, am_R 1), (1, am_I a1)]) rfl rfl rfl rfl ?_
  unfold sf_X3_isLoose at hs
  refine av_aload_n (pc := 0) (j := 0) C dX3_isLoose_0 rfl rfl ?_
  refine av_getR (pc := 1) (k := 0) (r := 8) C fl_X3_14 sk_1 rfl dX3_isLoose_1 ?_
  refine av_iload_n (pc := 4) (j := 1) C dX3_isLoose_4 rfl rfl ?_
  obtain ⟨x2, S1, hc3, hs⟩ := am_b2_of hs
  refine av_eq (st2 := [am_I a1, am_R 8]) rfl rfl rfl rfl (av_callV (pc := 5) (as := [am_I a1]) (rest := []) C (ct_X4_at l G 8 41 100 sk_8 sk_41 rfl a1 S x2 S1 hc3) ym_X4_at si_X3_67 im_X4_at se_X4_at sk_8 rfl ⟨Nat.le_of_ble_eq_true rfl, Nat.le_of_ble_eq_true rfl⟩ rfl rfl (Nat.le_of_ble_eq_true rfl) dX3_isLoose_5 ⟨Nat.le_refl _, Nat.le_refl _⟩ (fun hrv => av_eq (st2 := [am_I x2]) rfl rfl rfl rfl ?_))
  refine av_iconst (pc := 8) C dX3_isLoose_8 rfl ?_
  refine av_icmp_ne (pc := 9) (tgt := 27) C dX3_isLoose_9 (by decide) (fun hc => ?_) (fun hc => ?_)
  · rw [if_neg hc] at hs
    refine av_iconst (pc := 27) C dX3_isLoose_27 rfl ?_
    obtain ⟨rfl, rfl⟩ := am_inj2 hs
    exact av_zret C (by decide) hr hlocks dX3_isLoose_28
  · rw [if_pos (Decidable.not_not.mp hc)] at hs
    refine av_aload_n (pc := 12) (j := 0) C dX3_isLoose_12 rfl rfl ?_
    refine av_getR (pc := 13) (k := 4) (r := 12) C fl_X3_29 sk_1 rfl dX3_isLoose_13 ?_
    refine av_iload_n (pc := 16) (j := 1) C dX3_isLoose_16 rfl rfl ?_
    obtain ⟨x5, S4, hc6, hs⟩ := am_b2_of hs
    refine av_eq (st2 := [am_I a1, am_R 12]) rfl rfl rfl rfl (av_callV (pc := 17) (as := [am_I a1]) (rest := []) C (ct_X4_at l G 12 45 100 sk_12 sk_45 rfl a1 S1 x5 S4 hc6) ym_X4_at si_X3_67 im_X4_at se_X4_at sk_12 rfl ⟨Nat.le_of_ble_eq_true rfl, Nat.le_of_ble_eq_true rfl⟩ rfl rfl (Nat.le_of_ble_eq_true rfl) dX3_isLoose_17 ⟨Nat.le_refl _, Nat.le_refl _⟩ (fun hrv => av_eq (st2 := [am_I x5]) rfl rfl rfl rfl ?_))
    refine av_if_ne (pc := 20) (tgt := 27) C dX3_isLoose_20 (by decide) (fun hc => ?_) (fun hc => ?_)
    · rw [if_neg hc] at hs
      refine av_iconst (pc := 27) C dX3_isLoose_27 rfl ?_
      obtain ⟨rfl, rfl⟩ := am_inj2 hs
      exact av_zret C (by decide) hr hlocks dX3_isLoose_28
    · rw [if_pos (Decidable.not_not.mp hc)] at hs
      refine av_iconst (pc := 23) C dX3_isLoose_23 rfl ?_
      refine av_goto (pc := 24) (tgt := 28) C dX3_isLoose_24 (by decide) ?_
      obtain ⟨rfl, rfl⟩ := am_inj2 hs
      exact av_zret C (by decide) hr hlocks dX3_isLoose_28
def sf_X3_loose_4 : Nat → (b1 : Int) → (b2 : Int) → (S : am_S) → Option (Int × am_S)
  | 0, _, _, _ => none
  | fu + 1, b1, b2, S => (if (S.1 75) ≤ b2 then (some (b1, S)) else (am_b2 (sf_X3_isLoose b2 S) (fun x2 S1 => (if x2 = 0 then (sf_X3_loose_4 fu b1 (am_w32 (b2 + 1)) S1) else (sf_X3_loose_4 fu (am_w32 (b1 + 1)) (am_w32 (b2 + 1)) S1)))))
set_option maxHeartbeats 4000000 in
set_option maxRecDepth 100000 in
theorem wk_X3_loose_4 {p : Program} {l : Launch} {e : Env} {s : State} {m : MethodId} {args : Array Value} {below : List Frame} {meth : Method} {c : Code} {G : am_G} (C : am_C p s m args c cX3_loose 3 RX3 G) (hr : meth.sig.returnType = (some .int)) (hlocks : meth.locks = false) : ∀ (fu : Nat) (b1 : Int) (b2 : Int) (S : am_S) (x : Int) (S2 : am_S), sf_X3_loose_4 fu b1 b2 S = some (x, S2) → am_V p l e (am_rm 2 42) s m args below meth c (MQ below (am_Q G (some (am_I x)) S2) args s 0 0 (am_A G)) G (am_A G) s.heap 3 0 0 4 [(0, am_R 1), (1, am_I b1), (2, am_I b2)] [] S := by
  intro fu
  induction fu with
  | zero => intro b1 b2 S x S2 hs; cases hs
  | succ fu ih =>
    intro b1 b2 S x S2 hs
    unfold sf_X3_loose_4 at hs
    refine av_iload_n (pc := 4) (j := 2) C dX3_loose_4 rfl rfl ?_
    refine av_aload_n (pc := 5) (j := 0) C dX3_loose_5 rfl rfl ?_
    refine av_getI (pc := 6) (k := 11) (n := 75) C fl_X3_50 sk_1 rfl rfl dX3_loose_6 ?_
    refine av_icmp_ge (pc := 9) (tgt := 29) C dX3_loose_9 (by decide) (fun hc => ?_) (fun hc => ?_)
    · rw [if_pos hc] at hs
      refine av_iload_n (pc := 29) (j := 1) C dX3_loose_29 rfl rfl ?_
      obtain ⟨rfl, rfl⟩ := am_inj2 hs
      exact av_iret C hr hlocks dX3_loose_30
    · rw [if_neg hc] at hs
      refine av_aload_n (pc := 12) (j := 0) C dX3_loose_12 rfl rfl ?_
      refine av_iload_n (pc := 13) (j := 2) C dX3_loose_13 rfl rfl ?_
      obtain ⟨x2, S1, hc3, hs⟩ := am_b2_of hs
      refine av_eq (st2 := [am_I b2, am_R 1]) rfl rfl rfl rfl (av_callV (pc := 14) (as := [am_I b2]) (rest := []) C (ct_X3_isLoose l G b2 S x2 S1 hc3) ym_X3_isLoose si_X3_75 im_X3_isLoose se_X3_isLoose sk_1 rfl ⟨Nat.le_of_ble_eq_true rfl, Nat.le_of_ble_eq_true rfl⟩ rfl rfl (Nat.le_of_ble_eq_true rfl) dX3_loose_14 ⟨Nat.le_refl _, Nat.le_refl _⟩ (fun hrv => av_eq (st2 := [am_I x2]) rfl rfl rfl rfl ?_))
      refine av_if_eq (pc := 17) (tgt := 23) C dX3_loose_17 (by decide) (fun hc => ?_) (fun hc => ?_)
      · rw [if_pos hc] at hs
        refine av_iinc (pc := 23) (j := 2) (lv2 := [(2, am_I (am_w32 (b2 + 1))), (0, am_R 1), (1, am_I b1)]) C dX3_loose_23 rfl (by decide) rfl ?_
        refine av_goto (pc := 26) (tgt := 4) C dX3_loose_26 (by decide) ?_
        refine av_lvsub (lv2 := [(0, am_R 1), (1, am_I b1), (2, am_I (am_w32 (b2 + 1)))]) [1, 2, 0] rfl ?_
        exact ih b1 (am_w32 (b2 + 1)) S1 x S2 hs
      · rw [if_neg hc] at hs
        refine av_iinc (pc := 20) (j := 1) (lv2 := [(1, am_I (am_w32 (b1 + 1))), (0, am_R 1), (2, am_I b2)]) C dX3_loose_20 rfl (by decide) rfl ?_
        refine av_iinc (pc := 23) (j := 2) (lv2 := [(2, am_I (am_w32 (b2 + 1))), (1, am_I (am_w32 (b1 + 1))), (0, am_R 1)]) C dX3_loose_23 rfl (by decide) rfl ?_
        refine av_goto (pc := 26) (tgt := 4) C dX3_loose_26 (by decide) ?_
        refine av_lvsub (lv2 := [(0, am_R 1), (1, am_I (am_w32 (b1 + 1))), (2, am_I (am_w32 (b2 + 1)))]) [2, 1, 0] rfl ?_
        exact ih (am_w32 (b1 + 1)) (am_w32 (b2 + 1)) S1 x S2 hs
def sf_X3_loose (S : am_S) : Option (Int × am_S) := (sf_X3_loose_4 1000 0 0 S)
set_option maxHeartbeats 4000000 in
set_option maxRecDepth 100000 in
theorem ct_X3_loose (l : Launch) (G : am_G) (S : am_S) (x : Int) (S2 : am_S) (hs : sf_X3_loose  S = some (x, S2)) : am_met l yX3_loose cX3_loose 3 (some .int) 2 42 G [am_R 1] S (some (am_I x)) S2 := by
  refine am_enter ym_X3_loose (Nat.le_of_ble_eq_true rfl) ?_
  intro p e s m args below meth c C hr hlocks
  refine av_eq (lv2 := [(0, am_R 1)]) rfl rfl rfl rfl ?_
  unfold sf_X3_loose at hs
  refine av_iconst (pc := 0) C dX3_loose_0 rfl ?_
  refine av_istore_n (pc := 1) (i := 1) (lv2 := [(1, am_I 0), (0, am_R 1)]) C dX3_loose_1 rfl (by decide) rfl ?_
  refine av_iconst (pc := 2) C dX3_loose_2 rfl ?_
  refine av_istore_n (pc := 3) (i := 2) (lv2 := [(2, am_I 0), (1, am_I 0), (0, am_R 1)]) C dX3_loose_3 rfl (by decide) rfl ?_
  refine av_lvsub (lv2 := [(0, am_R 1), (1, am_I 0), (2, am_I 0)]) [2, 1, 0] rfl ?_
  exact wk_X3_loose_4 C hr hlocks 1000 0 0 S x S2 hs
def sf_X3_addKey (a1 : Int) (S : am_S) : Option (Int × am_S) := (am_b2 (sf_X4_at 43 100 a1 S) (fun x2 S1 => (am_b1 (sf_X4_put 43 100 a1 (am_w32 (x2 + 1)) S1) (fun S4 => (am_b1 (sf_X4_put 44 100 a1 0 S4) (fun S6 => (some ((am_w32 (x2 + 1)), S6))))))))
set_option maxHeartbeats 4000000 in
set_option maxRecDepth 100000 in
theorem ct_X3_addKey (l : Launch) (G : am_G) (a1 : Int) (S : am_S) (x : Int) (S2 : am_S) (hs : sf_X3_addKey a1 S = some (x, S2)) : am_met l yX3_addKey cX3_addKey 3 (some .int) 1 23 G [am_R 1, am_I a1] S (some (am_I x)) S2 := by
  refine am_enter ym_X3_addKey (Nat.le_of_ble_eq_true rfl) ?_
  intro p e s m args below meth c C hr hlocks
  refine av_eq (lv2 := [(0, am_R 1), (1, am_I a1)]) rfl rfl rfl rfl ?_
  unfold sf_X3_addKey at hs
  refine av_aload_n (pc := 0) (j := 0) C dX3_addKey_0 rfl rfl ?_
  refine av_getR (pc := 1) (k := 2) (r := 10) C fl_X3_23 sk_1 rfl dX3_addKey_1 ?_
  refine av_iload_n (pc := 4) (j := 1) C dX3_addKey_4 rfl rfl ?_
  obtain ⟨x2, S1, hc3, hs⟩ := am_b2_of hs
  refine av_eq (st2 := [am_I a1, am_R 10]) rfl rfl rfl rfl (av_callV (pc := 5) (as := [am_I a1]) (rest := []) C (ct_X4_at l G 10 43 100 sk_10 sk_43 rfl a1 S x2 S1 hc3) ym_X4_at si_X3_67 im_X4_at se_X4_at sk_10 rfl ⟨Nat.le_of_ble_eq_true rfl, Nat.le_of_ble_eq_true rfl⟩ rfl rfl (Nat.le_of_ble_eq_true rfl) dX3_addKey_5 ⟨Nat.le_refl _, Nat.le_refl _⟩ (fun hrv => av_eq (st2 := [am_I x2]) rfl rfl rfl rfl ?_))
  refine av_iconst (pc := 8) C dX3_addKey_8 rfl ?_
  refine av_iadd (pc := 9) C dX3_addKey_9 ?_
  refine av_istore_n (pc := 10) (i := 2) (lv2 := [(2, am_I (am_w32 (x2 + 1))), (0, am_R 1), (1, am_I a1)]) C dX3_addKey_10 rfl (by decide) rfl ?_
  refine av_aload_n (pc := 11) (j := 1) C dX3_addKey_11 rfl rfl ?_
  refine av_getR (pc := 12) (k := 2) (r := 10) C fl_X3_23 sk_1 rfl dX3_addKey_12 ?_
  refine av_iload_n (pc := 15) (j := 2) C dX3_addKey_15 rfl rfl ?_
  refine av_iload_n (pc := 16) (j := 0) C dX3_addKey_16 rfl rfl ?_
  refine av_i2l (pc := 17) C dX3_addKey_17 ?_
  obtain ⟨S4, hc5, hs⟩ := am_b1_of hs
  refine av_eq (st2 := [am_J (am_w32 (x2 + 1)), am_I a1, am_R 10]) rfl rfl rfl rfl (av_callV (pc := 18) (as := [am_I a1, am_J (am_w32 (x2 + 1))]) (rest := []) C (ct_X4_put l G 10 43 100 sk_10 sk_43 rfl a1 (am_w32 (x2 + 1)) S1 S4 hc5) ym_X4_put si_X3_79 im_X4_put se_X4_put sk_10 rfl ⟨Nat.le_of_ble_eq_true rfl, Nat.le_of_ble_eq_true rfl⟩ rfl rfl (Nat.le_of_ble_eq_true rfl) dX3_addKey_18 ⟨Nat.le_refl _, Nat.le_refl _⟩ (fun hrv => av_eq (st2 := []) rfl rfl rfl rfl ?_))
  refine av_aload_n (pc := 21) (j := 1) C dX3_addKey_21 rfl rfl ?_
  refine av_getR (pc := 22) (k := 3) (r := 11) C fl_X3_26 sk_1 rfl dX3_addKey_22 ?_
  refine av_iload_n (pc := 25) (j := 2) C dX3_addKey_25 rfl rfl ?_
  refine av_lconst (pc := 26) (x := 0) C dX3_addKey_26 rfl rfl ?_
  obtain ⟨S6, hc7, hs⟩ := am_b1_of hs
  refine av_eq (st2 := [am_J 0, am_I a1, am_R 11]) rfl rfl rfl rfl (av_callV (pc := 27) (as := [am_I a1, am_J 0]) (rest := []) C (ct_X4_put l G 11 44 100 sk_11 sk_44 rfl a1 0 S4 S6 hc7) ym_X4_put si_X3_79 im_X4_put se_X4_put sk_11 rfl ⟨Nat.le_of_ble_eq_true rfl, Nat.le_of_ble_eq_true rfl⟩ rfl rfl (Nat.le_of_ble_eq_true rfl) dX3_addKey_27 ⟨Nat.le_refl _, Nat.le_refl _⟩ (fun hrv => av_eq (st2 := []) rfl rfl rfl rfl ?_))
  refine av_iload_n (pc := 30) (j := 0) C dX3_addKey_30 rfl rfl ?_
  obtain ⟨rfl, rfl⟩ := am_inj2 hs
  exact av_iret C hr hlocks dX3_addKey_31
def sf_X3_toAdopt (a1 : Int) (S : am_S) : Option (Int × am_S) := (am_b2 (sf_X4_valueAt 46 100 a1 S) (fun x2 S1 => (some (x2, S1))))
set_option maxHeartbeats 4000000 in
set_option maxRecDepth 100000 in
theorem ct_X3_toAdopt (l : Launch) (G : am_G) (a1 : Int) (S : am_S) (x : Int) (S2 : am_S) (hs : sf_X3_toAdopt a1 S = some (x, S2)) : am_met l yX3_toAdopt cX3_toAdopt 2 (some .long) 1 21 G [am_R 1, am_I a1] S (some (am_J x)) S2 := by
  refine am_enter ym_X3_toAdopt (Nat.le_of_ble_eq_true rfl) ?_
  intro p e s m args below meth c C hr hlocks
  refine av_eq (lv2 := [(0, am_R 1), (1, am_I a1)]) rfl rfl rfl rfl ?_
  unfold sf_X3_toAdopt at hs
  refine av_aload_n (pc := 0) (j := 0) C dX3_toAdopt_0 rfl rfl ?_
  refine av_getR (pc := 1) (k := 5) (r := 13) C fl_X3_32 sk_1 rfl dX3_toAdopt_1 ?_
  refine av_iload_n (pc := 4) (j := 1) C dX3_toAdopt_4 rfl rfl ?_
  obtain ⟨x2, S1, hc3, hs⟩ := am_b2_of hs
  refine av_eq (st2 := [am_I a1, am_R 13]) rfl rfl rfl rfl (av_callV (pc := 5) (as := [am_I a1]) (rest := []) C (ct_X4_valueAt l G 13 46 100 sk_13 sk_46 rfl a1 S x2 S1 hc3) ym_X4_valueAt si_X3_71 im_X4_valueAt se_X4_valueAt sk_13 rfl ⟨Nat.le_of_ble_eq_true rfl, Nat.le_of_ble_eq_true rfl⟩ rfl rfl (Nat.le_of_ble_eq_true rfl) dX3_toAdopt_5 ⟨Nat.le_refl _, Nat.le_refl _⟩ (fun hrv => av_eq (st2 := [am_J x2]) rfl rfl rfl rfl ?_))
  obtain ⟨rfl, rfl⟩ := am_inj2 hs
  exact av_lret C hr hlocks dX3_toAdopt_8
def sf_X3_jobs (S : am_S) : Option (Int × am_S) := (some ((S.1 76), S))
set_option maxHeartbeats 4000000 in
set_option maxRecDepth 100000 in
theorem ct_X3_jobs (l : Launch) (G : am_G) (S : am_S) (x : Int) (S2 : am_S) (hs : sf_X3_jobs  S = some (x, S2)) : am_met l yX3_jobs cX3_jobs 1 (some .int) 0 0 G [am_R 1] S (some (am_I x)) S2 := by
  refine am_enter ym_X3_jobs (Nat.le_of_ble_eq_true rfl) ?_
  intro p e s m args below meth c C hr hlocks
  refine av_eq (lv2 := [(0, am_R 1)]) rfl rfl rfl rfl ?_
  unfold sf_X3_jobs at hs
  refine av_aload_n (pc := 0) (j := 0) C dX3_jobs_0 rfl rfl ?_
  refine av_getI (pc := 1) (k := 12) (n := 76) C fl_X3_54 sk_1 rfl rfl dX3_jobs_1 ?_
  obtain ⟨rfl, rfl⟩ := am_inj2 hs
  exact av_iret C hr hlocks dX3_jobs_4
def sf_X3_takeJob (S : am_S) : Option (Int × am_S) := (am_b2 (sf_X4_at 50 900 (S.1 77) S) (fun x2 S1 => (am_let (am_sI S1 77 x2) (fun S4 => (am_let (am_sI S4 76 (am_w32 ((S4.1 76) - 1))) (fun S5 => (some ((S.1 77), S5))))))))
set_option maxHeartbeats 4000000 in
set_option maxRecDepth 100000 in
theorem ct_X3_takeJob (l : Launch) (G : am_G) (S : am_S) (x : Int) (S2 : am_S) (hs : sf_X3_takeJob  S = some (x, S2)) : am_met l yX3_takeJob cX3_takeJob 2 (some .int) 1 21 G [am_R 1] S (some (am_I x)) S2 := by
  refine am_enter ym_X3_takeJob (Nat.le_of_ble_eq_true rfl) ?_
  intro p e s m args below meth c C hr hlocks
  refine av_eq (lv2 := [(0, am_R 1)]) rfl rfl rfl rfl ?_
  unfold sf_X3_takeJob at hs
  refine av_aload_n (pc := 0) (j := 0) C dX3_takeJob_0 rfl rfl ?_
  refine av_getI (pc := 1) (k := 13) (n := 77) C fl_X3_57 sk_1 rfl rfl dX3_takeJob_1 ?_
  refine av_istore_n (pc := 4) (i := 1) (lv2 := [(1, am_I (S.1 77)), (0, am_R 1)]) C dX3_takeJob_4 rfl (by decide) rfl ?_
  refine av_aload_n (pc := 5) (j := 1) C dX3_takeJob_5 rfl rfl ?_
  refine av_aload_n (pc := 6) (j := 1) C dX3_takeJob_6 rfl rfl ?_
  refine av_getR (pc := 7) (k := 9) (r := 17) C fl_X3_44 sk_1 rfl dX3_takeJob_7 ?_
  refine av_iload_n (pc := 10) (j := 0) C dX3_takeJob_10 rfl rfl ?_
  obtain ⟨x2, S1, hc3, hs⟩ := am_b2_of hs
  refine av_eq (st2 := [am_I (S.1 77), am_R 17, am_R 1]) rfl rfl rfl rfl (av_callV (pc := 11) (as := [am_I (S.1 77)]) (rest := [am_R 1]) C (ct_X4_at l G 17 50 900 sk_17 sk_50 rfl (S.1 77) S x2 S1 hc3) ym_X4_at si_X3_67 im_X4_at se_X4_at sk_17 rfl ⟨Nat.le_of_ble_eq_true rfl, Nat.le_of_ble_eq_true rfl⟩ rfl rfl (Nat.le_of_ble_eq_true rfl) dX3_takeJob_11 ⟨Nat.le_refl _, Nat.le_refl _⟩ (fun hrv => av_eq (st2 := [am_I x2, am_R 1]) rfl rfl rfl rfl ?_))
  obtain ⟨S4, eS4, hs⟩ := am_let_of hs
  refine av_putI (pc := 14) (k := 13) (n := 77) C fp_X3_57 sk_1 rfl rfl dX3_takeJob_14 ?_
  refine av_eq rfl rfl rfl eS4 ?_
  refine av_aload_n (pc := 17) (j := 1) C dX3_takeJob_17 rfl rfl ?_
  refine av_dup (pc := 18) C dX3_takeJob_18 rfl ?_
  refine av_getI (pc := 19) (k := 12) (n := 76) C fl_X3_54 sk_1 rfl rfl dX3_takeJob_19 ?_
  refine av_iconst (pc := 22) C dX3_takeJob_22 rfl ?_
  refine av_isub (pc := 23) C dX3_takeJob_23 ?_
  obtain ⟨S5, eS5, hs⟩ := am_let_of hs
  refine av_putI (pc := 24) (k := 12) (n := 76) C fp_X3_54 sk_1 rfl rfl dX3_takeJob_24 ?_
  refine av_eq rfl rfl rfl eS5 ?_
  refine av_iload_n (pc := 27) (j := 0) C dX3_takeJob_27 rfl rfl ?_
  obtain ⟨rfl, rfl⟩ := am_inj2 hs
  exact av_iret C hr hlocks dX3_takeJob_28
def sf_X3_sourceOf (a1 : Int) (S : am_S) : Option (Int × am_S) := (am_b2 (sf_X4_at 51 900 a1 S) (fun x2 S1 => (some (x2, S1))))
set_option maxHeartbeats 4000000 in
set_option maxRecDepth 100000 in
theorem ct_X3_sourceOf (l : Launch) (G : am_G) (a1 : Int) (S : am_S) (x : Int) (S2 : am_S) (hs : sf_X3_sourceOf a1 S = some (x, S2)) : am_met l yX3_sourceOf cX3_sourceOf 2 (some .int) 1 21 G [am_R 1, am_I a1] S (some (am_I x)) S2 := by
  refine am_enter ym_X3_sourceOf (Nat.le_of_ble_eq_true rfl) ?_
  intro p e s m args below meth c C hr hlocks
  refine av_eq (lv2 := [(0, am_R 1), (1, am_I a1)]) rfl rfl rfl rfl ?_
  unfold sf_X3_sourceOf at hs
  refine av_aload_n (pc := 0) (j := 0) C dX3_sourceOf_0 rfl rfl ?_
  refine av_getR (pc := 1) (k := 10) (r := 18) C fl_X3_47 sk_1 rfl dX3_sourceOf_1 ?_
  refine av_iload_n (pc := 4) (j := 1) C dX3_sourceOf_4 rfl rfl ?_
  obtain ⟨x2, S1, hc3, hs⟩ := am_b2_of hs
  refine av_eq (st2 := [am_I a1, am_R 18]) rfl rfl rfl rfl (av_callV (pc := 5) (as := [am_I a1]) (rest := []) C (ct_X4_at l G 18 51 900 sk_18 sk_51 rfl a1 S x2 S1 hc3) ym_X4_at si_X3_67 im_X4_at se_X4_at sk_18 rfl ⟨Nat.le_of_ble_eq_true rfl, Nat.le_of_ble_eq_true rfl⟩ rfl rfl (Nat.le_of_ble_eq_true rfl) dX3_sourceOf_5 ⟨Nat.le_refl _, Nat.le_refl _⟩ (fun hrv => av_eq (st2 := [am_I x2]) rfl rfl rfl rfl ?_))
  obtain ⟨rfl, rfl⟩ := am_inj2 hs
  exact av_iret C hr hlocks dX3_sourceOf_8
def sf_X4_fill_2 (a n : Nat) : Nat → (b1 : Int) → (b3 : Int) → (S : am_S) → Option (am_S)
  | 0, _, _, _ => none
  | fu + 1, b1, b3, S => (if (n : Int) ≤ b3 then (some S) else (am_gd b3 n (am_let (am_sA S a (Int.toNat b3) b1) (fun S1 => (sf_X4_fill_2 a n fu b1 (am_w32 (b3 + 1)) S1)))))
set_option maxHeartbeats 4000000 in
set_option maxRecDepth 100000 in
theorem wk_X4_fill_2 {p : Program} {l : Launch} {e : Env} {s : State} {m : MethodId} {args : Array Value} {below : List Frame} {meth : Method} {c : Code} {G : am_G} (C : am_C p s m args c cX4_fill 4 RX4 G) (o a n : Nat) (hk : am_sk[o]? = some (.inl (4, [some a]))) (ha : am_sk[a]? = some (.inr (2, n))) (hrn : am_rok (n : Int) = true) (hr : meth.sig.returnType = none) (hlocks : meth.locks = false) : ∀ (fu : Nat) (b1 : Int) (b3 : Int) (S : am_S) (S2 : am_S), sf_X4_fill_2 a n fu b1 b3 S = some S2 → am_V p l e (am_rm 0 0) s m args below meth c (MQ below (am_Q G none S2) args s 0 0 (am_A G)) G (am_A G) s.heap 4 0 0 2 [(0, am_R o), (1, am_J b1), (3, am_I b3)] [] S := by
  intro fu
  induction fu with
  | zero => intro b1 b3 S S2 hs; cases hs
  | succ fu ih =>
    intro b1 b3 S S2 hs
    unfold sf_X4_fill_2 at hs
    refine av_iload_n (pc := 2) (j := 2) C dX4_fill_2 rfl rfl ?_
    refine av_aload_n (pc := 3) (j := 0) C dX4_fill_3 rfl rfl ?_
    refine av_getR (pc := 4) (k := 0) (r := a) (fl := [some a]) C fl_X4_7 hk rfl dX4_fill_4 ?_
    refine av_alen (pc := 7) C ha (by decide) hrn dX4_fill_7 ?_
    refine av_icmp_ge (pc := 8) (tgt := 24) C dX4_fill_8 (by decide) (fun hc => ?_) (fun hc => ?_)
    · rw [if_pos hc] at hs
      obtain rfl := am_inj1 hs
      exact av_vret C hr hlocks dX4_fill_24
    · rw [if_neg hc] at hs
      refine av_aload_n (pc := 11) (j := 0) C dX4_fill_11 rfl rfl ?_
      refine av_getR (pc := 12) (k := 0) (r := a) (fl := [some a]) C fl_X4_7 hk rfl dX4_fill_12 ?_
      refine av_iload_n (pc := 15) (j := 2) C dX4_fill_15 rfl rfl ?_
      refine av_lload_n (pc := 16) (j := 1) C dX4_fill_16 rfl rfl ?_
      obtain ⟨hb, hs⟩ := am_gd_of hs
      obtain ⟨S1, eS1, hs⟩ := am_let_of hs
      refine av_last (pc := 17) C ha hb dX4_fill_17 ?_
      refine av_eq rfl rfl rfl eS1 ?_
      refine av_iinc (pc := 18) (j := 2) (lv2 := [(3, am_I (am_w32 (b3 + 1))), (0, am_R o), (1, am_J b1)]) C dX4_fill_18 rfl (by decide) rfl ?_
      refine av_goto (pc := 21) (tgt := 2) C dX4_fill_21 (by decide) ?_
      refine av_lvsub (lv2 := [(0, am_R o), (1, am_J b1), (3, am_I (am_w32 (b3 + 1)))]) [1, 2, 0] rfl ?_
      exact ih b1 (am_w32 (b3 + 1)) S1 S2 hs
def sf_X4_fill (a n : Nat) (a1 : Int) (S : am_S) : Option (am_S) := (sf_X4_fill_2 a n 1000 a1 0 S)
set_option maxHeartbeats 4000000 in
set_option maxRecDepth 100000 in
theorem ct_X4_fill (l : Launch) (G : am_G) (o a n : Nat) (hk : am_sk[o]? = some (.inl (4, [some a]))) (ha : am_sk[a]? = some (.inr (2, n))) (hrn : am_rok (n : Int) = true) (a1 : Int) (S : am_S) (S2 : am_S) (hs : sf_X4_fill a n a1 S = some S2) : am_met l yX4_fill cX4_fill 4 none 0 0 G [am_R o, am_J a1] S none S2 := by
  refine am_enter ym_X4_fill (Nat.le_of_ble_eq_true rfl) ?_
  intro p e s m args below meth c C hr hlocks
  refine av_eq (lv2 := [(0, am_R o), (1, am_J a1)]) rfl rfl rfl rfl ?_
  unfold sf_X4_fill at hs
  refine av_iconst (pc := 0) C dX4_fill_0 rfl ?_
  refine av_istore_n (pc := 1) (i := 3) (lv2 := [(3, am_I 0), (0, am_R o), (1, am_J a1)]) C dX4_fill_1 rfl (by decide) rfl ?_
  refine av_lvsub (lv2 := [(0, am_R o), (1, am_J a1), (3, am_I 0)]) [1, 2, 0] rfl ?_
  exact wk_X4_fill_2 C o a n hk ha hrn hr hlocks 1000 a1 0 S S2 hs
def sf_X5_clear (S : am_S) : Option (am_S) := (am_b1 (sf_X4_fill 71 100 0 S) (fun S1 => (some S1)))
set_option maxHeartbeats 4000000 in
set_option maxRecDepth 100000 in
theorem ct_X5_clear (l : Launch) (G : am_G) (S : am_S) (S2 : am_S) (hs : sf_X5_clear  S = some S2) : am_met l yX5_clear cX5_clear 1 none 1 23 G [am_R 7] S none S2 := by
  refine am_enter ym_X5_clear (Nat.le_of_ble_eq_true rfl) ?_
  intro p e s m args below meth c C hr hlocks
  refine av_eq (lv2 := [(0, am_R 7)]) rfl rfl rfl rfl ?_
  unfold sf_X5_clear at hs
  refine av_aload_n (pc := 0) (j := 0) C dX5_clear_0 rfl rfl ?_
  refine av_getR (pc := 1) (k := 8) (r := 38) C fl_X5_29 sk_7 rfl dX5_clear_1 ?_
  refine av_lconst (pc := 4) (x := 0) C dX5_clear_4 rfl rfl ?_
  obtain ⟨S1, hc2, hs⟩ := am_b1_of hs
  refine av_eq (st2 := [am_J 0, am_R 38]) rfl rfl rfl rfl (av_callV (pc := 5) (as := [am_J 0]) (rest := []) C (ct_X4_fill l G 38 71 100 sk_38 sk_71 rfl 0 S S1 hc2) ym_X4_fill si_X5_64 im_X4_fill se_X4_fill sk_38 rfl ⟨Nat.le_of_ble_eq_true rfl, Nat.le_of_ble_eq_true rfl⟩ rfl rfl (Nat.le_of_ble_eq_true rfl) dX5_clear_5 ⟨Nat.le_refl _, Nat.le_refl _⟩ (fun hrv => av_eq (st2 := []) rfl rfl rfl rfl ?_))
  obtain rfl := am_inj1 hs
  exact av_vret C hr hlocks dX5_clear_8
def sf_X5_isStopped (a1 : Int) (S : am_S) : Option (Int × am_S) := (am_b2 (sf_X4_at 71 100 a1 S) (fun x2 S1 => (if x2 = 1 then (some (1, S1)) else (some (0, S1)))))
set_option maxHeartbeats 4000000 in
set_option maxRecDepth 100000 in
theorem ct_X5_isStopped (l : Launch) (G : am_G) (a1 : Int) (S : am_S) (x : Int) (S2 : am_S) (hs : sf_X5_isStopped a1 S = some (x, S2)) : am_met l yX5_isStopped cX5_isStopped 2 (some .boolean) 1 21 G [am_R 7, am_I a1] S (some (am_I x)) S2 := by
  refine am_enter ym_X5_isStopped (Nat.le_of_ble_eq_true rfl) ?_
  intro p e s m args below meth c C hr hlocks
  refine av_eq (lv2 := [(0, am_R 7), (1, am_I a1)]) rfl rfl rfl rfl ?_
  unfold sf_X5_isStopped at hs
  refine av_aload_n (pc := 0) (j := 0) C dX5_isStopped_0 rfl rfl ?_
  refine av_getR (pc := 1) (k := 8) (r := 38) C fl_X5_29 sk_7 rfl dX5_isStopped_1 ?_
  refine av_iload_n (pc := 4) (j := 1) C dX5_isStopped_4 rfl rfl ?_
  obtain ⟨x2, S1, hc3, hs⟩ := am_b2_of hs
  refine av_eq (st2 := [am_I a1, am_R 38]) rfl rfl rfl rfl (av_callV (pc := 5) (as := [am_I a1]) (rest := []) C (ct_X4_at l G 38 71 100 sk_38 sk_71 rfl a1 S x2 S1 hc3) ym_X4_at si_X5_68 im_X4_at se_X4_at sk_38 rfl ⟨Nat.le_of_ble_eq_true rfl, Nat.le_of_ble_eq_true rfl⟩ rfl rfl (Nat.le_of_ble_eq_true rfl) dX5_isStopped_5 ⟨Nat.le_refl _, Nat.le_refl _⟩ (fun hrv => av_eq (st2 := [am_I x2]) rfl rfl rfl rfl ?_))
  refine av_iconst (pc := 8) C dX5_isStopped_8 rfl ?_
  refine av_icmp_ne (pc := 9) (tgt := 16) C dX5_isStopped_9 (by decide) (fun hc => ?_) (fun hc => ?_)
  · rw [if_neg hc] at hs
    refine av_iconst (pc := 16) C dX5_isStopped_16 rfl ?_
    obtain ⟨rfl, rfl⟩ := am_inj2 hs
    exact av_zret C (by decide) hr hlocks dX5_isStopped_17
  · rw [if_pos (Decidable.not_not.mp hc)] at hs
    refine av_iconst (pc := 12) C dX5_isStopped_12 rfl ?_
    refine av_goto (pc := 13) (tgt := 17) C dX5_isStopped_13 (by decide) ?_
    obtain ⟨rfl, rfl⟩ := am_inj2 hs
    exact av_zret C (by decide) hr hlocks dX5_isStopped_17
def sf_X5_addHandlers (a1 : Int) (a2 : Int) (a3 : Int) (S : am_S) : Option (Int × am_S) := (am_b2 (sf_X3_make  S) (fun x2 S1 => (am_b1 (sf_X4_put 72 100 x2 a2 S1) (fun S4 => (am_b1 (sf_X4_put 73 100 x2 a3 S4) (fun S6 => (am_b2 (sf_X9_jobOf x2 2 S6) (fun x9 S8 => (am_b1 (sf_X3_waitFor a1 x9 S8) (fun S11 => (some (x2, S11))))))))))))
set_option maxHeartbeats 4000000 in
set_option maxRecDepth 100000 in
theorem ct_X5_addHandlers (l : Launch) (G : am_G) (a1 : Int) (a2 : Int) (a3 : Int) (S : am_S) (x : Int) (S2 : am_S) (hs : sf_X5_addHandlers a1 a2 a3 S = some (x, S2)) : am_met l yX5_addHandlers cX5_addHandlers 5 (some .int) 3 69 G [am_R 7, am_I a1, am_I a2, am_I a3] S (some (am_I x)) S2 := by
  refine am_enter ym_X5_addHandlers (Nat.le_of_ble_eq_true rfl) ?_
  intro p e s m args below meth c C hr hlocks
  refine av_eq (lv2 := [(0, am_R 7), (1, am_I a1), (2, am_I a2), (3, am_I a3)]) rfl rfl rfl rfl ?_
  unfold sf_X5_addHandlers at hs
  refine av_aload_n (pc := 0) (j := 0) C dX5_addHandlers_0 rfl rfl ?_
  refine av_getR (pc := 1) (k := 1) (r := 1) C fl_X5_52 sk_7 rfl dX5_addHandlers_1 ?_
  obtain ⟨x2, S1, hc3, hs⟩ := am_b2_of hs
  refine av_eq (st2 := [am_R 1]) rfl rfl rfl rfl (av_callV (pc := 4) (as := []) (rest := []) C (ct_X3_make l G  S x2 S1 hc3) ym_X3_make si_X5_72 im_X3_make se_X3_make sk_1 rfl ⟨Nat.le_of_ble_eq_true rfl, Nat.le_of_ble_eq_true rfl⟩ rfl rfl (Nat.le_of_ble_eq_true rfl) dX5_addHandlers_4 ⟨Nat.le_refl _, Nat.le_refl _⟩ (fun hrv => av_eq (st2 := [am_I x2]) rfl rfl rfl rfl ?_))
  refine av_istore (pc := 7) (i := 4) (lv2 := [(4, am_I x2), (0, am_R 7), (1, am_I a1), (2, am_I a2), (3, am_I a3)]) C dX5_addHandlers_7 (by decide) rfl ?_
  refine av_aload_n (pc := 9) (j := 1) C dX5_addHandlers_9 rfl rfl ?_
  refine av_getR (pc := 10) (k := 9) (r := 39) C fl_X5_32 sk_7 rfl dX5_addHandlers_10 ?_
  refine av_iload (pc := 13) (j := 0) C dX5_addHandlers_13 rfl ?_
  refine av_iload_n (pc := 15) (j := 3) C dX5_addHandlers_15 rfl rfl ?_
  refine av_i2l (pc := 16) C dX5_addHandlers_16 ?_
  obtain ⟨S4, hc5, hs⟩ := am_b1_of hs
  refine av_eq (st2 := [am_J a2, am_I x2, am_R 39]) rfl rfl rfl rfl (av_callV (pc := 17) (as := [am_I x2, am_J a2]) (rest := []) C (ct_X4_put l G 39 72 100 sk_39 sk_72 rfl x2 a2 S1 S4 hc5) ym_X4_put si_X5_78 im_X4_put se_X4_put sk_39 rfl ⟨Nat.le_of_ble_eq_true rfl, Nat.le_of_ble_eq_true rfl⟩ rfl rfl (Nat.le_of_ble_eq_true rfl) dX5_addHandlers_17 ⟨Nat.le_refl _, Nat.le_refl _⟩ (fun hrv => av_eq (st2 := []) rfl rfl rfl rfl ?_))
  refine av_aload_n (pc := 20) (j := 1) C dX5_addHandlers_20 rfl rfl ?_
  refine av_getR (pc := 21) (k := 10) (r := 40) C fl_X5_35 sk_7 rfl dX5_addHandlers_21 ?_
  refine av_iload (pc := 24) (j := 0) C dX5_addHandlers_24 rfl ?_
  refine av_iload_n (pc := 26) (j := 4) C dX5_addHandlers_26 rfl rfl ?_
  refine av_i2l (pc := 27) C dX5_addHandlers_27 ?_
  obtain ⟨S6, hc7, hs⟩ := am_b1_of hs
  refine av_eq (st2 := [am_J a3, am_I x2, am_R 40]) rfl rfl rfl rfl (av_callV (pc := 28) (as := [am_I x2, am_J a3]) (rest := []) C (ct_X4_put l G 40 73 100 sk_40 sk_73 rfl x2 a3 S4 S6 hc7) ym_X4_put si_X5_78 im_X4_put se_X4_put sk_40 rfl ⟨Nat.le_of_ble_eq_true rfl, Nat.le_of_ble_eq_true rfl⟩ rfl rfl (Nat.le_of_ble_eq_true rfl) dX5_addHandlers_28 ⟨Nat.le_refl _, Nat.le_refl _⟩ (fun hrv => av_eq (st2 := []) rfl rfl rfl rfl ?_))
  refine av_aload_n (pc := 31) (j := 1) C dX5_addHandlers_31 rfl rfl ?_
  refine av_getR (pc := 32) (k := 1) (r := 1) C fl_X5_52 sk_7 rfl dX5_addHandlers_32 ?_
  refine av_iload_n (pc := 35) (j := 2) C dX5_addHandlers_35 rfl rfl ?_
  refine av_iload (pc := 36) (j := 0) C dX5_addHandlers_36 rfl ?_
  refine av_iconst (pc := 38) C dX5_addHandlers_38 rfl ?_
  obtain ⟨x9, S8, hc10, hs⟩ := am_b2_of hs
  refine av_eq (st2 := [am_I 2, am_I x2, am_I a1, am_R 1]) rfl rfl rfl rfl (av_callSN (pc := 39) (as := [am_I x2, am_I 2]) (rest := [am_I a1, am_R 1]) C (ct_X9_jobOf l G x2 2 S6 x9 S8 hc10) ym_X9_jobOf si_X5_82 st_X9_jobOf ⟨Nat.le_of_ble_eq_true rfl, Nat.le_of_ble_eq_true rfl⟩ rfl rfl (Nat.le_of_ble_eq_true rfl) dX5_addHandlers_39 ⟨Nat.le_refl _, Nat.le_refl _⟩ (fun hrv => av_eq (st2 := [am_I x9, am_I a1, am_R 1]) rfl rfl rfl rfl ?_))
  obtain ⟨S11, hc12, hs⟩ := am_b1_of hs
  refine av_eq (st2 := [am_I x9, am_I a1, am_R 1]) rfl rfl rfl rfl (av_callV (pc := 42) (as := [am_I a1, am_I x9]) (rest := []) C (ct_X3_waitFor l G a1 x9 S8 S11 hc12) ym_X3_waitFor si_X5_86 im_X3_waitFor se_X3_waitFor sk_1 rfl ⟨Nat.le_of_ble_eq_true rfl, Nat.le_of_ble_eq_true rfl⟩ rfl rfl (Nat.le_of_ble_eq_true rfl) dX5_addHandlers_42 ⟨Nat.le_refl _, Nat.le_refl _⟩ (fun hrv => av_eq (st2 := []) rfl rfl rfl rfl ?_))
  refine av_iload (pc := 45) (j := 0) C dX5_addHandlers_45 rfl ?_
  obtain ⟨rfl, rfl⟩ := am_inj2 hs
  exact av_iret C hr hlocks dX5_addHandlers_47
def sf_X5_enter (a1 : Int) (a2 : Int) (a3 : Int) (S : am_S) : Option (am_S) := (am_b1 (sf_X4_put 67 101 a1 a2 S) (fun S1 => (am_b1 (sf_X4_put 68 101 a1 0 S1) (fun S3 => (am_b1 (sf_X4_put 69 101 a1 a3 S3) (fun S5 => (am_b1 (sf_X4_put 70 101 a1 (S5.1 459) S5) (fun S7 => (am_let (am_sI S7 459 a1) (fun S9 => (some S9)))))))))))
set_option maxHeartbeats 4000000 in
set_option maxRecDepth 100000 in
theorem ct_X5_enter (l : Launch) (G : am_G) (a1 : Int) (a2 : Int) (a3 : Int) (S : am_S) (S2 : am_S) (hs : sf_X5_enter a1 a2 a3 S = some S2) : am_met l yX5_enter cX5_enter 5 none 1 23 G [am_R 7, am_I a1, am_I a2, am_J a3] S none S2 := by
  refine am_enter ym_X5_enter (Nat.le_of_ble_eq_true rfl) ?_
  intro p e s m args below meth c C hr hlocks
  refine av_eq (lv2 := [(0, am_R 7), (1, am_I a1), (2, am_I a2), (3, am_J a3)]) rfl rfl rfl rfl ?_
  unfold sf_X5_enter at hs
  refine av_aload_n (pc := 0) (j := 0) C dX5_enter_0 rfl rfl ?_
  refine av_getR (pc := 1) (k := 4) (r := 34) C fl_X5_14 sk_7 rfl dX5_enter_1 ?_
  refine av_iload_n (pc := 4) (j := 1) C dX5_enter_4 rfl rfl ?_
  refine av_iload_n (pc := 5) (j := 2) C dX5_enter_5 rfl rfl ?_
  refine av_i2l (pc := 6) C dX5_enter_6 ?_
  obtain ⟨S1, hc2, hs⟩ := am_b1_of hs
  refine av_eq (st2 := [am_J a2, am_I a1, am_R 34]) rfl rfl rfl rfl (av_callV (pc := 7) (as := [am_I a1, am_J a2]) (rest := []) C (ct_X4_put l G 34 67 101 sk_34 sk_67 rfl a1 a2 S S1 hc2) ym_X4_put si_X5_78 im_X4_put se_X4_put sk_34 rfl ⟨Nat.le_of_ble_eq_true rfl, Nat.le_of_ble_eq_true rfl⟩ rfl rfl (Nat.le_of_ble_eq_true rfl) dX5_enter_7 ⟨Nat.le_refl _, Nat.le_refl _⟩ (fun hrv => av_eq (st2 := []) rfl rfl rfl rfl ?_))
  refine av_aload_n (pc := 10) (j := 0) C dX5_enter_10 rfl rfl ?_
  refine av_getR (pc := 11) (k := 5) (r := 35) C fl_X5_20 sk_7 rfl dX5_enter_11 ?_
  refine av_iload_n (pc := 14) (j := 1) C dX5_enter_14 rfl rfl ?_
  refine av_lconst (pc := 15) (x := 0) C dX5_enter_15 rfl rfl ?_
  obtain ⟨S3, hc4, hs⟩ := am_b1_of hs
  refine av_eq (st2 := [am_J 0, am_I a1, am_R 35]) rfl rfl rfl rfl (av_callV (pc := 16) (as := [am_I a1, am_J 0]) (rest := []) C (ct_X4_put l G 35 68 101 sk_35 sk_68 rfl a1 0 S1 S3 hc4) ym_X4_put si_X5_78 im_X4_put se_X4_put sk_35 rfl ⟨Nat.le_of_ble_eq_true rfl, Nat.le_of_ble_eq_true rfl⟩ rfl rfl (Nat.le_of_ble_eq_true rfl) dX5_enter_16 ⟨Nat.le_refl _, Nat.le_refl _⟩ (fun hrv => av_eq (st2 := []) rfl rfl rfl rfl ?_))
  refine av_aload_n (pc := 19) (j := 0) C dX5_enter_19 rfl rfl ?_
  refine av_getR (pc := 20) (k := 6) (r := 36) C fl_X5_23 sk_7 rfl dX5_enter_20 ?_
  refine av_iload_n (pc := 23) (j := 1) C dX5_enter_23 rfl rfl ?_
  refine av_lload_n (pc := 24) (j := 3) C dX5_enter_24 rfl rfl ?_
  obtain ⟨S5, hc6, hs⟩ := am_b1_of hs
  refine av_eq (st2 := [am_J a3, am_I a1, am_R 36]) rfl rfl rfl rfl (av_callV (pc := 25) (as := [am_I a1, am_J a3]) (rest := []) C (ct_X4_put l G 36 69 101 sk_36 sk_69 rfl a1 a3 S3 S5 hc6) ym_X4_put si_X5_78 im_X4_put se_X4_put sk_36 rfl ⟨Nat.le_of_ble_eq_true rfl, Nat.le_of_ble_eq_true rfl⟩ rfl rfl (Nat.le_of_ble_eq_true rfl) dX5_enter_25 ⟨Nat.le_refl _, Nat.le_refl _⟩ (fun hrv => av_eq (st2 := []) rfl rfl rfl rfl ?_))
  refine av_aload_n (pc := 28) (j := 0) C dX5_enter_28 rfl rfl ?_
  refine av_getR (pc := 29) (k := 7) (r := 37) C fl_X5_26 sk_7 rfl dX5_enter_29 ?_
  refine av_iload_n (pc := 32) (j := 1) C dX5_enter_32 rfl rfl ?_
  refine av_aload_n (pc := 33) (j := 0) C dX5_enter_33 rfl rfl ?_
  refine av_getI (pc := 34) (k := 11) (n := 459) C fl_X5_38 sk_7 rfl rfl dX5_enter_34 ?_
  refine av_i2l (pc := 37) C dX5_enter_37 ?_
  obtain ⟨S7, hc8, hs⟩ := am_b1_of hs
  refine av_eq (st2 := [am_J (S5.1 459), am_I a1, am_R 37]) rfl rfl rfl rfl (av_callV (pc := 38) (as := [am_I a1, am_J (S5.1 459)]) (rest := []) C (ct_X4_put l G 37 70 101 sk_37 sk_70 rfl a1 (S5.1 459) S5 S7 hc8) ym_X4_put si_X5_78 im_X4_put se_X4_put sk_37 rfl ⟨Nat.le_of_ble_eq_true rfl, Nat.le_of_ble_eq_true rfl⟩ rfl rfl (Nat.le_of_ble_eq_true rfl) dX5_enter_38 ⟨Nat.le_refl _, Nat.le_refl _⟩ (fun hrv => av_eq (st2 := []) rfl rfl rfl rfl ?_))
  refine av_aload_n (pc := 41) (j := 0) C dX5_enter_41 rfl rfl ?_
  refine av_iload_n (pc := 42) (j := 1) C dX5_enter_42 rfl rfl ?_
  obtain ⟨S9, eS9, hs⟩ := am_let_of hs
  refine av_putI (pc := 43) (k := 11) (n := 459) C fp_X5_38 sk_7 rfl rfl dX5_enter_43 ?_
  refine av_eq rfl rfl rfl eS9 ?_
  obtain rfl := am_inj1 hs
  exact av_vret C hr hlocks dX5_enter_46
def sf_X5_perform (a1 : Int) (a2 : Int) (a3 : Int) (S : am_S) : Option (am_S) := (am_let (am_sI S 460 a3) (fun S1 => (am_b1 (sf_X5_enter 100 a1 a2 S1) (fun S2 => (some S2)))))
set_option maxHeartbeats 4000000 in
set_option maxRecDepth 100000 in
theorem ct_X5_perform (l : Launch) (G : am_G) (a1 : Int) (a2 : Int) (a3 : Int) (S : am_S) (S2 : am_S) (hs : sf_X5_perform a1 a2 a3 S = some S2) : am_met l yX5_perform cX5_perform 5 none 2 47 G [am_R 7, am_I a1, am_J a2, am_I a3] S none S2 := by
  refine am_enter ym_X5_perform (Nat.le_of_ble_eq_true rfl) ?_
  intro p e s m args below meth c C hr hlocks
  refine av_eq (lv2 := [(0, am_R 7), (1, am_I a1), (2, am_J a2), (4, am_I a3)]) rfl rfl rfl rfl ?_
  unfold sf_X5_perform at hs
  refine av_aload_n (pc := 0) (j := 0) C dX5_perform_0 rfl rfl ?_
  refine av_iload (pc := 1) (j := 3) C dX5_perform_1 rfl ?_
  obtain ⟨S1, eS1, hs⟩ := am_let_of hs
  refine av_putI (pc := 3) (k := 12) (n := 460) C fp_X5_42 sk_7 rfl rfl dX5_perform_3 ?_
  refine av_eq rfl rfl rfl eS1 ?_
  refine av_aload_n (pc := 6) (j := 0) C dX5_perform_6 rfl rfl ?_
  refine av_bipush (pc := 7) C dX5_perform_7 rfl ?_
  refine av_iload_n (pc := 9) (j := 1) C dX5_perform_9 rfl rfl ?_
  refine av_lload_n (pc := 10) (j := 2) C dX5_perform_10 rfl rfl ?_
  obtain ⟨S2, hc3, hs⟩ := am_b1_of hs
  refine av_eq (st2 := [am_J a2, am_I a1, am_I 100, am_R 7]) rfl rfl rfl rfl (av_callV (pc := 11) (as := [am_I 100, am_I a1, am_J a2]) (rest := []) C (ct_X5_enter l G 100 a1 a2 S1 S2 hc3) ym_X5_enter si_X5_98 im_X5_enter se_X5_enter sk_7 rfl ⟨Nat.le_of_ble_eq_true rfl, Nat.le_of_ble_eq_true rfl⟩ rfl rfl (Nat.le_of_ble_eq_true rfl) dX5_perform_11 ⟨Nat.le_refl _, Nat.le_refl _⟩ (fun hrv => av_eq (st2 := []) rfl rfl rfl rfl ?_))
  obtain rfl := am_inj1 hs
  exact av_vret C hr hlocks dX5_perform_14
def sf_X5_handle_24 (b1 : Int) (b2 : Int) (b3 : Int) (t0 : Int) (S : am_S) : Option (am_S) := (if t0 = (-1) then (am_b1 (sf_X3_settleBy b1 b2 b3 0 S) (fun S9 => (some S9))) else (am_b1 (sf_X5_perform t0 b3 b1 S) (fun S7 => (some S7))))
set_option maxHeartbeats 4000000 in
set_option maxRecDepth 100000 in
theorem wk_X5_handle_24 {p : Program} {l : Launch} {e : Env} {s : State} {m : MethodId} {args : Array Value} {below : List Frame} {meth : Method} {c : Code} {G : am_G} (C : am_C p s m args c cX5_handle 6 RX5 G) (hr : meth.sig.returnType = none) (hlocks : meth.locks = false) (b1 : Int) (b2 : Int) (b3 : Int) (t0 : Int) (S : am_S) (S2 : am_S) (hs : sf_X5_handle_24 b1 b2 b3 t0 S = some S2) : am_V p l e (am_rm 3 73) s m args below meth c (MQ below (am_Q G none S2) args s 0 0 (am_A G)) G (am_A G) s.heap 6 0 0 24 [(0, am_R 7), (1, am_I b1), (2, am_I b2), (3, am_J b3)] [am_I t0] S := by
  unfold sf_X5_handle_24 at hs
  refine av_istore (pc := 24) (i := 5) (lv2 := [(5, am_I t0), (0, am_R 7), (1, am_I b1), (2, am_I b2), (3, am_J b3)]) C dX5_handle_24 (by decide) rfl ?_
  refine av_iload (pc := 26) (j := 0) C dX5_handle_26 rfl ?_
  refine av_iconst (pc := 28) C dX5_handle_28 rfl ?_
  refine av_icmp_ne (pc := 29) (tgt := 46) C dX5_handle_29 (by decide) (fun hc => ?_) (fun hc => ?_)
  · rw [if_neg hc] at hs
    refine av_aload_n (pc := 46) (j := 1) C dX5_handle_46 rfl rfl ?_
    refine av_iload (pc := 47) (j := 0) C dX5_handle_47 rfl ?_
    refine av_lload_n (pc := 49) (j := 4) C dX5_handle_49 rfl rfl ?_
    refine av_iload_n (pc := 50) (j := 2) C dX5_handle_50 rfl rfl ?_
    obtain ⟨S7, hc8, hs⟩ := am_b1_of hs
    refine av_eq (st2 := [am_I b1, am_J b3, am_I t0, am_R 7]) rfl rfl rfl rfl (av_callV (pc := 51) (as := [am_I t0, am_J b3, am_I b1]) (rest := []) C (ct_X5_perform l G t0 b3 b1 S S7 hc8) ym_X5_perform si_X5_94 im_X5_perform se_X5_perform sk_7 rfl ⟨Nat.le_of_ble_eq_true rfl, Nat.le_of_ble_eq_true rfl⟩ rfl rfl (Nat.le_of_ble_eq_true rfl) dX5_handle_51 ⟨Nat.le_refl _, Nat.le_refl _⟩ (fun hrv => av_eq (st2 := []) rfl rfl rfl rfl ?_))
    obtain rfl := am_inj1 hs
    exact av_vret C hr hlocks dX5_handle_54
  · rw [if_pos (Decidable.not_not.mp hc)] at hs
    refine av_aload_n (pc := 32) (j := 1) C dX5_handle_32 rfl rfl ?_
    refine av_getR (pc := 33) (k := 1) (r := 1) C fl_X5_52 sk_7 rfl dX5_handle_33 ?_
    refine av_iload_n (pc := 36) (j := 2) C dX5_handle_36 rfl rfl ?_
    refine av_iload_n (pc := 37) (j := 3) C dX5_handle_37 rfl rfl ?_
    refine av_lload_n (pc := 38) (j := 4) C dX5_handle_38 rfl rfl ?_
    refine av_iconst (pc := 39) C dX5_handle_39 rfl ?_
    obtain ⟨S9, hc10, hs⟩ := am_b1_of hs
    refine av_eq (st2 := [am_I 0, am_J b3, am_I b2, am_I b1, am_R 1]) rfl rfl rfl rfl (av_callV (pc := 40) (as := [am_I b1, am_I b2, am_J b3, am_I 0]) (rest := []) C (ct_X3_settleBy l G b1 b2 b3 0 S S9 hc10) ym_X3_settleBy si_X5_90 im_X3_settleBy se_X3_settleBy sk_1 rfl ⟨Nat.le_of_ble_eq_true rfl, Nat.le_of_ble_eq_true rfl⟩ rfl rfl (Nat.le_of_ble_eq_true rfl) dX5_handle_40 ⟨Nat.le_refl _, Nat.le_refl _⟩ (fun hrv => av_eq (st2 := []) rfl rfl rfl rfl ?_))
    refine av_goto (pc := 43) (tgt := 54) C dX5_handle_43 (by decide) ?_
    obtain rfl := am_inj1 hs
    exact av_vret C hr hlocks dX5_handle_54
def sf_X5_handle (a1 : Int) (a2 : Int) (a3 : Int) (S : am_S) : Option (am_S) := (if a2 = 1 then (am_b2 (sf_X4_at 72 100 a1 S) (fun x5 S4 => (sf_X5_handle_24 a1 a2 a3 x5 S4))) else (am_b2 (sf_X4_at 73 100 a1 S) (fun x2 S1 => (sf_X5_handle_24 a1 a2 a3 x2 S1))))
set_option maxHeartbeats 4000000 in
set_option maxRecDepth 100000 in
theorem ct_X5_handle (l : Launch) (G : am_G) (a1 : Int) (a2 : Int) (a3 : Int) (S : am_S) (S2 : am_S) (hs : sf_X5_handle a1 a2 a3 S = some S2) : am_met l yX5_handle cX5_handle 6 none 3 73 G [am_R 7, am_I a1, am_I a2, am_J a3] S none S2 := by
  refine am_enter ym_X5_handle (Nat.le_of_ble_eq_true rfl) ?_
  intro p e s m args below meth c C hr hlocks
  refine av_eq (lv2 := [(0, am_R 7), (1, am_I a1), (2, am_I a2), (3, am_J a3)]) rfl rfl rfl rfl ?_
  unfold sf_X5_handle at hs
  refine av_iload_n (pc := 0) (j := 2) C dX5_handle_0 rfl rfl ?_
  refine av_iconst (pc := 1) C dX5_handle_1 rfl ?_
  refine av_icmp_ne (pc := 2) (tgt := 16) C dX5_handle_2 (by decide) (fun hc => ?_) (fun hc => ?_)
  · rw [if_neg hc] at hs
    refine av_aload_n (pc := 16) (j := 0) C dX5_handle_16 rfl rfl ?_
    refine av_getR (pc := 17) (k := 10) (r := 40) C fl_X5_35 sk_7 rfl dX5_handle_17 ?_
    refine av_iload_n (pc := 20) (j := 1) C dX5_handle_20 rfl rfl ?_
    obtain ⟨x2, S1, hc3, hs⟩ := am_b2_of hs
    refine av_eq (st2 := [am_I a1, am_R 40]) rfl rfl rfl rfl (av_callV (pc := 21) (as := [am_I a1]) (rest := []) C (ct_X4_at l G 40 73 100 sk_40 sk_73 rfl a1 S x2 S1 hc3) ym_X4_at si_X5_68 im_X4_at se_X4_at sk_40 rfl ⟨Nat.le_of_ble_eq_true rfl, Nat.le_of_ble_eq_true rfl⟩ rfl rfl (Nat.le_of_ble_eq_true rfl) dX5_handle_21 ⟨Nat.le_refl _, Nat.le_refl _⟩ (fun hrv => av_eq (st2 := [am_I x2]) rfl rfl rfl rfl ?_))
    exact wk_X5_handle_24 C hr hlocks a1 a2 a3 x2 S1 S2 hs
  · rw [if_pos (Decidable.not_not.mp hc)] at hs
    refine av_aload_n (pc := 5) (j := 0) C dX5_handle_5 rfl rfl ?_
    refine av_getR (pc := 6) (k := 9) (r := 39) C fl_X5_32 sk_7 rfl dX5_handle_6 ?_
    refine av_iload_n (pc := 9) (j := 1) C dX5_handle_9 rfl rfl ?_
    obtain ⟨x5, S4, hc6, hs⟩ := am_b2_of hs
    refine av_eq (st2 := [am_I a1, am_R 39]) rfl rfl rfl rfl (av_callV (pc := 10) (as := [am_I a1]) (rest := []) C (ct_X4_at l G 39 72 100 sk_39 sk_72 rfl a1 S x5 S4 hc6) ym_X4_at si_X5_68 im_X4_at se_X4_at sk_39 rfl ⟨Nat.le_of_ble_eq_true rfl, Nat.le_of_ble_eq_true rfl⟩ rfl rfl (Nat.le_of_ble_eq_true rfl) dX5_handle_10 ⟨Nat.le_refl _, Nat.le_refl _⟩ (fun hrv => av_eq (st2 := [am_I x5]) rfl rfl rfl rfl ?_))
    refine av_goto (pc := 13) (tgt := 24) C dX5_handle_13 (by decide) ?_
    exact wk_X5_handle_24 C hr hlocks a1 a2 a3 x5 S4 S2 hs
def sf_X5_begin (a1 : Int) (a2 : Int) (S : am_S) : Option (Int × am_S) := (am_b2 (sf_X3_make  S) (fun x2 S1 => (am_b1 (sf_X5_enter x2 a1 a2 S1) (fun S4 => (some (x2, S4))))))
set_option maxHeartbeats 4000000 in
set_option maxRecDepth 100000 in
theorem ct_X5_begin (l : Launch) (G : am_G) (a1 : Int) (a2 : Int) (S : am_S) (x : Int) (S2 : am_S) (hs : sf_X5_begin a1 a2 S = some (x, S2)) : am_met l yX5_begin cX5_begin 5 (some .int) 2 47 G [am_R 7, am_I a1, am_J a2] S (some (am_I x)) S2 := by
  refine am_enter ym_X5_begin (Nat.le_of_ble_eq_true rfl) ?_
  intro p e s m args below meth c C hr hlocks
  refine av_eq (lv2 := [(0, am_R 7), (1, am_I a1), (2, am_J a2)]) rfl rfl rfl rfl ?_
  unfold sf_X5_begin at hs
  refine av_aload_n (pc := 0) (j := 0) C dX5_begin_0 rfl rfl ?_
  refine av_getR (pc := 1) (k := 1) (r := 1) C fl_X5_52 sk_7 rfl dX5_begin_1 ?_
  obtain ⟨x2, S1, hc3, hs⟩ := am_b2_of hs
  refine av_eq (st2 := [am_R 1]) rfl rfl rfl rfl (av_callV (pc := 4) (as := []) (rest := []) C (ct_X3_make l G  S x2 S1 hc3) ym_X3_make si_X5_72 im_X3_make se_X3_make sk_1 rfl ⟨Nat.le_of_ble_eq_true rfl, Nat.le_of_ble_eq_true rfl⟩ rfl rfl (Nat.le_of_ble_eq_true rfl) dX5_begin_4 ⟨Nat.le_refl _, Nat.le_refl _⟩ (fun hrv => av_eq (st2 := [am_I x2]) rfl rfl rfl rfl ?_))
  refine av_istore (pc := 7) (i := 4) (lv2 := [(4, am_I x2), (0, am_R 7), (1, am_I a1), (2, am_J a2)]) C dX5_begin_7 (by decide) rfl ?_
  refine av_aload_n (pc := 9) (j := 1) C dX5_begin_9 rfl rfl ?_
  refine av_iload (pc := 10) (j := 0) C dX5_begin_10 rfl ?_
  refine av_iload_n (pc := 12) (j := 2) C dX5_begin_12 rfl rfl ?_
  refine av_lload_n (pc := 13) (j := 3) C dX5_begin_13 rfl rfl ?_
  obtain ⟨S4, hc5, hs⟩ := am_b1_of hs
  refine av_eq (st2 := [am_J a2, am_I a1, am_I x2, am_R 7]) rfl rfl rfl rfl (av_callV (pc := 14) (as := [am_I x2, am_I a1, am_J a2]) (rest := []) C (ct_X5_enter l G x2 a1 a2 S1 S4 hc5) ym_X5_enter si_X5_98 im_X5_enter se_X5_enter sk_7 rfl ⟨Nat.le_of_ble_eq_true rfl, Nat.le_of_ble_eq_true rfl⟩ rfl rfl (Nat.le_of_ble_eq_true rfl) dX5_begin_14 ⟨Nat.le_refl _, Nat.le_refl _⟩ (fun hrv => av_eq (st2 := []) rfl rfl rfl rfl ?_))
  refine av_iload (pc := 17) (j := 0) C dX5_begin_17 rfl ?_
  obtain ⟨rfl, rfl⟩ := am_inj2 hs
  exact av_iret C hr hlocks dX5_begin_19
def sf_X5_end (a1 : Int) (a2 : Int) (S : am_S) : Option (am_S) := (if a1 = 100 then (am_b2 (sf_X4_valueAt 69 101 a1 S) (fun x11 S10 => (am_b1 (sf_X3_settleBy (S.1 460) a2 x11 0 S10) (fun S13 => (am_b2 (sf_X4_at 70 101 a1 S13) (fun x16 S15 => (am_let (am_sI S15 459 x16) (fun S18 => (some S18))))))))) else (am_b2 (sf_X4_valueAt 69 101 a1 S) (fun x2 S1 => (am_b1 (sf_X3_settleBy a1 a2 x2 0 S1) (fun S4 => (am_b2 (sf_X4_at 70 101 a1 S4) (fun x7 S6 => (am_let (am_sI S6 459 x7) (fun S9 => (some S9))))))))))
set_option maxHeartbeats 4000000 in
set_option maxRecDepth 100000 in
theorem ct_X5_end (l : Launch) (G : am_G) (a1 : Int) (a2 : Int) (S : am_S) (S2 : am_S) (hs : sf_X5_end a1 a2 S = some S2) : am_met l yX5_end cX5_end 3 none 3 73 G [am_R 7, am_I a1, am_I a2] S none S2 := by
  refine am_enter ym_X5_end (Nat.le_of_ble_eq_true rfl) ?_
  intro p e s m args below meth c C hr hlocks
  refine av_eq (lv2 := [(0, am_R 7), (1, am_I a1), (2, am_I a2)]) rfl rfl rfl rfl ?_
  unfold sf_X5_end at hs
  refine av_aload_n (pc := 0) (j := 0) C dX5_end_0 rfl rfl ?_
  refine av_getR (pc := 1) (k := 1) (r := 1) C fl_X5_52 sk_7 rfl dX5_end_1 ?_
  refine av_iload_n (pc := 4) (j := 1) C dX5_end_4 rfl rfl ?_
  refine av_bipush (pc := 5) C dX5_end_5 rfl ?_
  refine av_icmp_ne (pc := 7) (tgt := 17) C dX5_end_7 (by decide) (fun hc => ?_) (fun hc => ?_)
  · rw [if_neg hc] at hs
    refine av_iload_n (pc := 17) (j := 1) C dX5_end_17 rfl rfl ?_
    refine av_iload_n (pc := 18) (j := 2) C dX5_end_18 rfl rfl ?_
    refine av_aload_n (pc := 19) (j := 0) C dX5_end_19 rfl rfl ?_
    refine av_getR (pc := 20) (k := 6) (r := 36) C fl_X5_23 sk_7 rfl dX5_end_20 ?_
    refine av_iload_n (pc := 23) (j := 1) C dX5_end_23 rfl rfl ?_
    obtain ⟨x2, S1, hc3, hs⟩ := am_b2_of hs
    refine av_eq (st2 := [am_I a1, am_R 36, am_I a2, am_I a1, am_R 1]) rfl rfl rfl rfl (av_callV (pc := 24) (as := [am_I a1]) (rest := [am_I a2, am_I a1, am_R 1]) C (ct_X4_valueAt l G 36 69 101 sk_36 sk_69 rfl a1 S x2 S1 hc3) ym_X4_valueAt si_X5_139 im_X4_valueAt se_X4_valueAt sk_36 rfl ⟨Nat.le_of_ble_eq_true rfl, Nat.le_of_ble_eq_true rfl⟩ rfl rfl (Nat.le_of_ble_eq_true rfl) dX5_end_24 ⟨Nat.le_refl _, Nat.le_refl _⟩ (fun hrv => av_eq (st2 := [am_J x2, am_I a2, am_I a1, am_R 1]) rfl rfl rfl rfl ?_))
    refine av_iconst (pc := 27) C dX5_end_27 rfl ?_
    obtain ⟨S4, hc5, hs⟩ := am_b1_of hs
    refine av_eq (st2 := [am_I 0, am_J x2, am_I a2, am_I a1, am_R 1]) rfl rfl rfl rfl (av_callV (pc := 28) (as := [am_I a1, am_I a2, am_J x2, am_I 0]) (rest := []) C (ct_X3_settleBy l G a1 a2 x2 0 S1 S4 hc5) ym_X3_settleBy si_X5_90 im_X3_settleBy se_X3_settleBy sk_1 rfl ⟨Nat.le_of_ble_eq_true rfl, Nat.le_of_ble_eq_true rfl⟩ rfl rfl (Nat.le_of_ble_eq_true rfl) dX5_end_28 ⟨Nat.le_refl _, Nat.le_refl _⟩ (fun hrv => av_eq (st2 := []) rfl rfl rfl rfl ?_))
    refine av_aload_n (pc := 31) (j := 0) C dX5_end_31 rfl rfl ?_
    refine av_aload_n (pc := 32) (j := 0) C dX5_end_32 rfl rfl ?_
    refine av_getR (pc := 33) (k := 7) (r := 37) C fl_X5_26 sk_7 rfl dX5_end_33 ?_
    refine av_iload_n (pc := 36) (j := 1) C dX5_end_36 rfl rfl ?_
    obtain ⟨x7, S6, hc8, hs⟩ := am_b2_of hs
    refine av_eq (st2 := [am_I a1, am_R 37, am_R 7]) rfl rfl rfl rfl (av_callV (pc := 37) (as := [am_I a1]) (rest := [am_R 7]) C (ct_X4_at l G 37 70 101 sk_37 sk_70 rfl a1 S4 x7 S6 hc8) ym_X4_at si_X5_68 im_X4_at se_X4_at sk_37 rfl ⟨Nat.le_of_ble_eq_true rfl, Nat.le_of_ble_eq_true rfl⟩ rfl rfl (Nat.le_of_ble_eq_true rfl) dX5_end_37 ⟨Nat.le_refl _, Nat.le_refl _⟩ (fun hrv => av_eq (st2 := [am_I x7, am_R 7]) rfl rfl rfl rfl ?_))
    obtain ⟨S9, eS9, hs⟩ := am_let_of hs
    refine av_putI (pc := 40) (k := 11) (n := 459) C fp_X5_38 sk_7 rfl rfl dX5_end_40 ?_
    refine av_eq rfl rfl rfl eS9 ?_
    obtain rfl := am_inj1 hs
    exact av_vret C hr hlocks dX5_end_43
  · rw [if_pos (Decidable.not_not.mp hc)] at hs
    refine av_aload_n (pc := 10) (j := 0) C dX5_end_10 rfl rfl ?_
    refine av_getI (pc := 11) (k := 12) (n := 460) C fl_X5_42 sk_7 rfl rfl dX5_end_11 ?_
    refine av_goto (pc := 14) (tgt := 18) C dX5_end_14 (by decide) ?_
    refine av_iload_n (pc := 18) (j := 2) C dX5_end_18 rfl rfl ?_
    refine av_aload_n (pc := 19) (j := 0) C dX5_end_19 rfl rfl ?_
    refine av_getR (pc := 20) (k := 6) (r := 36) C fl_X5_23 sk_7 rfl dX5_end_20 ?_
    refine av_iload_n (pc := 23) (j := 1) C dX5_end_23 rfl rfl ?_
    obtain ⟨x11, S10, hc12, hs⟩ := am_b2_of hs
    refine av_eq (st2 := [am_I a1, am_R 36, am_I a2, am_I (S.1 460), am_R 1]) rfl rfl rfl rfl (av_callV (pc := 24) (as := [am_I a1]) (rest := [am_I a2, am_I (S.1 460), am_R 1]) C (ct_X4_valueAt l G 36 69 101 sk_36 sk_69 rfl a1 S x11 S10 hc12) ym_X4_valueAt si_X5_139 im_X4_valueAt se_X4_valueAt sk_36 rfl ⟨Nat.le_of_ble_eq_true rfl, Nat.le_of_ble_eq_true rfl⟩ rfl rfl (Nat.le_of_ble_eq_true rfl) dX5_end_24 ⟨Nat.le_refl _, Nat.le_refl _⟩ (fun hrv => av_eq (st2 := [am_J x11, am_I a2, am_I (S.1 460), am_R 1]) rfl rfl rfl rfl ?_))
    refine av_iconst (pc := 27) C dX5_end_27 rfl ?_
    obtain ⟨S13, hc14, hs⟩ := am_b1_of hs
    refine av_eq (st2 := [am_I 0, am_J x11, am_I a2, am_I (S.1 460), am_R 1]) rfl rfl rfl rfl (av_callV (pc := 28) (as := [am_I (S.1 460), am_I a2, am_J x11, am_I 0]) (rest := []) C (ct_X3_settleBy l G (S.1 460) a2 x11 0 S10 S13 hc14) ym_X3_settleBy si_X5_90 im_X3_settleBy se_X3_settleBy sk_1 rfl ⟨Nat.le_of_ble_eq_true rfl, Nat.le_of_ble_eq_true rfl⟩ rfl rfl (Nat.le_of_ble_eq_true rfl) dX5_end_28 ⟨Nat.le_refl _, Nat.le_refl _⟩ (fun hrv => av_eq (st2 := []) rfl rfl rfl rfl ?_))
    refine av_aload_n (pc := 31) (j := 0) C dX5_end_31 rfl rfl ?_
    refine av_aload_n (pc := 32) (j := 0) C dX5_end_32 rfl rfl ?_
    refine av_getR (pc := 33) (k := 7) (r := 37) C fl_X5_26 sk_7 rfl dX5_end_33 ?_
    refine av_iload_n (pc := 36) (j := 1) C dX5_end_36 rfl rfl ?_
    obtain ⟨x16, S15, hc17, hs⟩ := am_b2_of hs
    refine av_eq (st2 := [am_I a1, am_R 37, am_R 7]) rfl rfl rfl rfl (av_callV (pc := 37) (as := [am_I a1]) (rest := [am_R 7]) C (ct_X4_at l G 37 70 101 sk_37 sk_70 rfl a1 S13 x16 S15 hc17) ym_X4_at si_X5_68 im_X4_at se_X4_at sk_37 rfl ⟨Nat.le_of_ble_eq_true rfl, Nat.le_of_ble_eq_true rfl⟩ rfl rfl (Nat.le_of_ble_eq_true rfl) dX5_end_37 ⟨Nat.le_refl _, Nat.le_refl _⟩ (fun hrv => av_eq (st2 := [am_I x16, am_R 7]) rfl rfl rfl rfl ?_))
    obtain ⟨S18, eS18, hs⟩ := am_let_of hs
    refine av_putI (pc := 40) (k := 11) (n := 459) C fp_X5_38 sk_7 rfl rfl dX5_end_40 ?_
    refine av_eq rfl rfl rfl eS18 ?_
    obtain rfl := am_inj1 hs
    exact av_vret C hr hlocks dX5_end_43
def sf_X5_leaveTry (a1 : Int) (a2 : Int) (S : am_S) : Option (Int × am_S) := (am_b2 (sf_X4_at 67 101 a1 S) (fun x2 S1 => (am_b2 (sf_X0_behindTry x2 a2 S1) (fun x5 S4 => (if x5 = (-1) then (some (0, S4)) else (am_b1 (sf_X4_put 68 101 a1 x5 S4) (fun S7 => (some (1, S7)))))))))
set_option maxHeartbeats 4000000 in
set_option maxRecDepth 100000 in
theorem ct_X5_leaveTry (l : Launch) (G : am_G) (a1 : Int) (a2 : Int) (S : am_S) (x : Int) (S2 : am_S) (hs : sf_X5_leaveTry a1 a2 S = some (x, S2)) : am_met l yX5_leaveTry cX5_leaveTry 4 (some .boolean) 3 69 G [am_R 7, am_I a1, am_I a2] S (some (am_I x)) S2 := by
  refine am_enter ym_X5_leaveTry (Nat.le_of_ble_eq_true rfl) ?_
  intro p e s m args below meth c C hr hlocks
  refine av_eq (lv2 := [(0, am_R 7), (1, am_I a1), (2, am_I a2)]) rfl rfl rfl rfl ?_
  unfold sf_X5_leaveTry at hs
  refine av_aload_n (pc := 0) (j := 0) C dX5_leaveTry_0 rfl rfl ?_
  refine av_getR (pc := 1) (k := 0) (r := 3) C fl_X5_48 sk_7 rfl dX5_leaveTry_1 ?_
  refine av_aload_n (pc := 4) (j := 0) C dX5_leaveTry_4 rfl rfl ?_
  refine av_getR (pc := 5) (k := 4) (r := 34) C fl_X5_14 sk_7 rfl dX5_leaveTry_5 ?_
  refine av_iload_n (pc := 8) (j := 1) C dX5_leaveTry_8 rfl rfl ?_
  obtain ⟨x2, S1, hc3, hs⟩ := am_b2_of hs
  refine av_eq (st2 := [am_I a1, am_R 34, am_R 3]) rfl rfl rfl rfl (av_callV (pc := 9) (as := [am_I a1]) (rest := [am_R 3]) C (ct_X4_at l G 34 67 101 sk_34 sk_67 rfl a1 S x2 S1 hc3) ym_X4_at si_X5_68 im_X4_at se_X4_at sk_34 rfl ⟨Nat.le_of_ble_eq_true rfl, Nat.le_of_ble_eq_true rfl⟩ rfl rfl (Nat.le_of_ble_eq_true rfl) dX5_leaveTry_9 ⟨Nat.le_refl _, Nat.le_refl _⟩ (fun hrv => av_eq (st2 := [am_I x2, am_R 3]) rfl rfl rfl rfl ?_))
  refine av_iload_n (pc := 12) (j := 2) C dX5_leaveTry_12 rfl rfl ?_
  obtain ⟨x5, S4, hc6, hs⟩ := am_b2_of hs
  refine av_eq (st2 := [am_I a2, am_I x2, am_R 3]) rfl rfl rfl rfl (av_callV (pc := 13) (as := [am_I x2, am_I a2]) (rest := []) C (ct_X0_behindTry l G x2 a2 S1 x5 S4 hc6) ym_X0_behindTry si_X5_186 im_X0_behindTry se_X0_behindTry sk_3 rfl ⟨Nat.le_of_ble_eq_true rfl, Nat.le_of_ble_eq_true rfl⟩ rfl rfl (Nat.le_of_ble_eq_true rfl) dX5_leaveTry_13 ⟨Nat.le_refl _, Nat.le_refl _⟩ (fun hrv => av_eq (st2 := [am_I x5]) rfl rfl rfl rfl ?_))
  refine av_istore_n (pc := 16) (i := 3) (lv2 := [(3, am_I x5), (0, am_R 7), (1, am_I a1), (2, am_I a2)]) C dX5_leaveTry_16 rfl (by decide) rfl ?_
  refine av_iload_n (pc := 17) (j := 0) C dX5_leaveTry_17 rfl rfl ?_
  refine av_iconst (pc := 18) C dX5_leaveTry_18 rfl ?_
  refine av_icmp_ne (pc := 19) (tgt := 24) C dX5_leaveTry_19 (by decide) (fun hc => ?_) (fun hc => ?_)
  · rw [if_neg hc] at hs
    refine av_aload_n (pc := 24) (j := 1) C dX5_leaveTry_24 rfl rfl ?_
    refine av_getR (pc := 25) (k := 5) (r := 35) C fl_X5_20 sk_7 rfl dX5_leaveTry_25 ?_
    refine av_iload_n (pc := 28) (j := 2) C dX5_leaveTry_28 rfl rfl ?_
    refine av_iload_n (pc := 29) (j := 0) C dX5_leaveTry_29 rfl rfl ?_
    refine av_i2l (pc := 30) C dX5_leaveTry_30 ?_
    obtain ⟨S7, hc8, hs⟩ := am_b1_of hs
    refine av_eq (st2 := [am_J x5, am_I a1, am_R 35]) rfl rfl rfl rfl (av_callV (pc := 31) (as := [am_I a1, am_J x5]) (rest := []) C (ct_X4_put l G 35 68 101 sk_35 sk_68 rfl a1 x5 S4 S7 hc8) ym_X4_put si_X5_78 im_X4_put se_X4_put sk_35 rfl ⟨Nat.le_of_ble_eq_true rfl, Nat.le_of_ble_eq_true rfl⟩ rfl rfl (Nat.le_of_ble_eq_true rfl) dX5_leaveTry_31 ⟨Nat.le_refl _, Nat.le_refl _⟩ (fun hrv => av_eq (st2 := []) rfl rfl rfl rfl ?_))
    refine av_iconst (pc := 34) C dX5_leaveTry_34 rfl ?_
    obtain ⟨rfl, rfl⟩ := am_inj2 hs
    exact av_zret C (by decide) hr hlocks dX5_leaveTry_35
  · rw [if_pos (Decidable.not_not.mp hc)] at hs
    refine av_iconst (pc := 22) C dX5_leaveTry_22 rfl ?_
    obtain ⟨rfl, rfl⟩ := am_inj2 hs
    exact av_zret C (by decide) hr hlocks dX5_leaveTry_23
def sf_X5_resume (a1 : Int) (a2 : Int) (a3 : Int) (S : am_S) : Option (am_S) := (am_b1 (sf_X4_put 71 100 a1 0 S) (fun S1 => (am_b1 (sf_X4_put 70 101 a1 (-1) S1) (fun S3 => (am_let (am_sI S3 459 a1) (fun S5 => (am_b1 (sf_X4_put 69 101 a1 a3 S5) (fun S6 => (if a2 = 2 then (am_b2 (sf_X4_at 68 101 a1 S6) (fun x9 S8 => (am_b2 (sf_X5_leaveTry a1 (am_w32 (x9 - 1)) S8) (fun x12 S11 => (if x12 = 0 then (am_b1 (sf_X5_end a1 2 S11) (fun S14 => (some S14))) else (some S11)))))) else (some S6))))))))))
set_option maxHeartbeats 4000000 in
set_option maxRecDepth 100000 in
theorem ct_X5_resume (l : Launch) (G : am_G) (a1 : Int) (a2 : Int) (a3 : Int) (S : am_S) (S2 : am_S) (hs : sf_X5_resume a1 a2 a3 S = some S2) : am_met l yX5_resume cX5_resume 5 none 4 95 G [am_R 7, am_I a1, am_I a2, am_J a3] S none S2 := by
  refine am_enter ym_X5_resume (Nat.le_of_ble_eq_true rfl) ?_
  intro p e s m args below meth c C hr hlocks
  refine av_eq (lv2 := [(0, am_R 7), (1, am_I a1), (2, am_I a2), (3, am_J a3)]) rfl rfl rfl rfl ?_
  unfold sf_X5_resume at hs
  refine av_aload_n (pc := 0) (j := 0) C dX5_resume_0 rfl rfl ?_
  refine av_getR (pc := 1) (k := 8) (r := 38) C fl_X5_29 sk_7 rfl dX5_resume_1 ?_
  refine av_iload_n (pc := 4) (j := 1) C dX5_resume_4 rfl rfl ?_
  refine av_lconst (pc := 5) (x := 0) C dX5_resume_5 rfl rfl ?_
  obtain ⟨S1, hc2, hs⟩ := am_b1_of hs
  refine av_eq (st2 := [am_J 0, am_I a1, am_R 38]) rfl rfl rfl rfl (av_callV (pc := 6) (as := [am_I a1, am_J 0]) (rest := []) C (ct_X4_put l G 38 71 100 sk_38 sk_71 rfl a1 0 S S1 hc2) ym_X4_put si_X5_78 im_X4_put se_X4_put sk_38 rfl ⟨Nat.le_of_ble_eq_true rfl, Nat.le_of_ble_eq_true rfl⟩ rfl rfl (Nat.le_of_ble_eq_true rfl) dX5_resume_6 ⟨Nat.le_refl _, Nat.le_refl _⟩ (fun hrv => av_eq (st2 := []) rfl rfl rfl rfl ?_))
  refine av_aload_n (pc := 9) (j := 0) C dX5_resume_9 rfl rfl ?_
  refine av_getR (pc := 10) (k := 7) (r := 37) C fl_X5_26 sk_7 rfl dX5_resume_10 ?_
  refine av_iload_n (pc := 13) (j := 1) C dX5_resume_13 rfl rfl ?_
  refine av_ldc2 (pc := 14) C co_X5_102 (by unfold am_r64; omega) dX5_resume_14 ?_
  obtain ⟨S3, hc4, hs⟩ := am_b1_of hs
  refine av_eq (st2 := [am_J (-1), am_I a1, am_R 37]) rfl rfl rfl rfl (av_callV (pc := 17) (as := [am_I a1, am_J (-1)]) (rest := []) C (ct_X4_put l G 37 70 101 sk_37 sk_70 rfl a1 (-1) S1 S3 hc4) ym_X4_put si_X5_78 im_X4_put se_X4_put sk_37 rfl ⟨Nat.le_of_ble_eq_true rfl, Nat.le_of_ble_eq_true rfl⟩ rfl rfl (Nat.le_of_ble_eq_true rfl) dX5_resume_17 ⟨Nat.le_refl _, Nat.le_refl _⟩ (fun hrv => av_eq (st2 := []) rfl rfl rfl rfl ?_))
  refine av_aload_n (pc := 20) (j := 0) C dX5_resume_20 rfl rfl ?_
  refine av_iload_n (pc := 21) (j := 1) C dX5_resume_21 rfl rfl ?_
  obtain ⟨S5, eS5, hs⟩ := am_let_of hs
  refine av_putI (pc := 22) (k := 11) (n := 459) C fp_X5_38 sk_7 rfl rfl dX5_resume_22 ?_
  refine av_eq rfl rfl rfl eS5 ?_
  refine av_aload_n (pc := 25) (j := 0) C dX5_resume_25 rfl rfl ?_
  refine av_getR (pc := 26) (k := 6) (r := 36) C fl_X5_23 sk_7 rfl dX5_resume_26 ?_
  refine av_iload_n (pc := 29) (j := 1) C dX5_resume_29 rfl rfl ?_
  refine av_lload_n (pc := 30) (j := 3) C dX5_resume_30 rfl rfl ?_
  obtain ⟨S6, hc7, hs⟩ := am_b1_of hs
  refine av_eq (st2 := [am_J a3, am_I a1, am_R 36]) rfl rfl rfl rfl (av_callV (pc := 31) (as := [am_I a1, am_J a3]) (rest := []) C (ct_X4_put l G 36 69 101 sk_36 sk_69 rfl a1 a3 S5 S6 hc7) ym_X4_put si_X5_78 im_X4_put se_X4_put sk_36 rfl ⟨Nat.le_of_ble_eq_true rfl, Nat.le_of_ble_eq_true rfl⟩ rfl rfl (Nat.le_of_ble_eq_true rfl) dX5_resume_31 ⟨Nat.le_refl _, Nat.le_refl _⟩ (fun hrv => av_eq (st2 := []) rfl rfl rfl rfl ?_))
  refine av_iload_n (pc := 34) (j := 2) C dX5_resume_34 rfl rfl ?_
  refine av_iconst (pc := 35) C dX5_resume_35 rfl ?_
  refine av_icmp_ne (pc := 36) (tgt := 63) C dX5_resume_36 (by decide) (fun hc => ?_) (fun hc => ?_)
  · rw [if_neg hc] at hs
    obtain rfl := am_inj1 hs
    exact av_vret C hr hlocks dX5_resume_63
  · rw [if_pos (Decidable.not_not.mp hc)] at hs
    refine av_aload_n (pc := 39) (j := 0) C dX5_resume_39 rfl rfl ?_
    refine av_iload_n (pc := 40) (j := 1) C dX5_resume_40 rfl rfl ?_
    refine av_aload_n (pc := 41) (j := 0) C dX5_resume_41 rfl rfl ?_
    refine av_getR (pc := 42) (k := 5) (r := 35) C fl_X5_20 sk_7 rfl dX5_resume_42 ?_
    refine av_iload_n (pc := 45) (j := 1) C dX5_resume_45 rfl rfl ?_
    obtain ⟨x9, S8, hc10, hs⟩ := am_b2_of hs
    refine av_eq (st2 := [am_I a1, am_R 35, am_I a1, am_R 7]) rfl rfl rfl rfl (av_callV (pc := 46) (as := [am_I a1]) (rest := [am_I a1, am_R 7]) C (ct_X4_at l G 35 68 101 sk_35 sk_68 rfl a1 S6 x9 S8 hc10) ym_X4_at si_X5_68 im_X4_at se_X4_at sk_35 rfl ⟨Nat.le_of_ble_eq_true rfl, Nat.le_of_ble_eq_true rfl⟩ rfl rfl (Nat.le_of_ble_eq_true rfl) dX5_resume_46 ⟨Nat.le_refl _, Nat.le_refl _⟩ (fun hrv => av_eq (st2 := [am_I x9, am_I a1, am_R 7]) rfl rfl rfl rfl ?_))
    refine av_iconst (pc := 49) C dX5_resume_49 rfl ?_
    refine av_isub (pc := 50) C dX5_resume_50 ?_
    obtain ⟨x12, S11, hc13, hs⟩ := am_b2_of hs
    refine av_eq (st2 := [am_I (am_w32 (x9 - 1)), am_I a1, am_R 7]) rfl rfl rfl rfl (av_callV (pc := 51) (as := [am_I a1, am_I (am_w32 (x9 - 1))]) (rest := []) C (ct_X5_leaveTry l G a1 (am_w32 (x9 - 1)) S8 x12 S11 hc13) ym_X5_leaveTry si_X5_104 im_X5_leaveTry se_X5_leaveTry sk_7 rfl ⟨Nat.le_of_ble_eq_true rfl, Nat.le_of_ble_eq_true rfl⟩ rfl rfl (Nat.le_of_ble_eq_true rfl) dX5_resume_51 ⟨Nat.le_refl _, Nat.le_refl _⟩ (fun hrv => av_eq (st2 := [am_I x12]) rfl rfl rfl rfl ?_))
    refine av_if_ne (pc := 54) (tgt := 63) C dX5_resume_54 (by decide) (fun hc => ?_) (fun hc => ?_)
    · rw [if_neg hc] at hs
      obtain rfl := am_inj1 hs
      exact av_vret C hr hlocks dX5_resume_63
    · rw [if_pos (Decidable.not_not.mp hc)] at hs
      refine av_aload_n (pc := 57) (j := 0) C dX5_resume_57 rfl rfl ?_
      refine av_iload_n (pc := 58) (j := 1) C dX5_resume_58 rfl rfl ?_
      refine av_iconst (pc := 59) C dX5_resume_59 rfl ?_
      obtain ⟨S14, hc15, hs⟩ := am_b1_of hs
      refine av_eq (st2 := [am_I 2, am_I a1, am_R 7]) rfl rfl rfl rfl (av_callV (pc := 60) (as := [am_I a1, am_I 2]) (rest := []) C (ct_X5_end l G a1 2 S11 S14 hc15) ym_X5_end si_X5_108 im_X5_end se_X5_end sk_7 rfl ⟨Nat.le_of_ble_eq_true rfl, Nat.le_of_ble_eq_true rfl⟩ rfl rfl (Nat.le_of_ble_eq_true rfl) dX5_resume_60 ⟨Nat.le_refl _, Nat.le_refl _⟩ (fun hrv => av_eq (st2 := []) rfl rfl rfl rfl ?_))
      obtain rfl := am_inj1 hs
      exact av_vret C hr hlocks dX5_resume_63
def sf_X6_isFull (S : am_S) : Option (Int × am_S) := (if (S.1 259) < 32 then (some (0, S)) else (some (1, S)))
set_option maxHeartbeats 4000000 in
set_option maxRecDepth 100000 in
theorem ct_X6_isFull (l : Launch) (G : am_G) (S : am_S) (x : Int) (S2 : am_S) (hs : sf_X6_isFull  S = some (x, S2)) : am_met l yX6_isFull cX6_isFull 1 (some .boolean) 0 0 G [am_R 4] S (some (am_I x)) S2 := by
  refine am_enter ym_X6_isFull (Nat.le_of_ble_eq_true rfl) ?_
  intro p e s m args below meth c C hr hlocks
  refine av_eq (lv2 := [(0, am_R 4)]) rfl rfl rfl rfl ?_
  unfold sf_X6_isFull at hs
  refine av_aload_n (pc := 0) (j := 0) C dX6_isFull_0 rfl rfl ?_
  refine av_getI (pc := 1) (k := 3) (n := 259) C fl_X6_26 sk_4 rfl rfl dX6_isFull_1 ?_
  refine av_bipush (pc := 4) C dX6_isFull_4 rfl ?_
  refine av_icmp_lt (pc := 6) (tgt := 13) C dX6_isFull_6 (by decide) (fun hc => ?_) (fun hc => ?_)
  · rw [if_pos hc] at hs
    refine av_iconst (pc := 13) C dX6_isFull_13 rfl ?_
    obtain ⟨rfl, rfl⟩ := am_inj2 hs
    exact av_zret C (by decide) hr hlocks dX6_isFull_14
  · rw [if_neg hc] at hs
    refine av_iconst (pc := 9) C dX6_isFull_9 rfl ?_
    refine av_goto (pc := 10) (tgt := 14) C dX6_isFull_10 (by decide) ?_
    obtain ⟨rfl, rfl⟩ := am_inj2 hs
    exact av_zret C (by decide) hr hlocks dX6_isFull_14
def sf_X5_faultOf_33 (b1 : Int) (b2 : Int) (b3 : Int) (t0 : Int) (S : am_S) : Option (Int × am_S) := (am_b2 (sf_X8_numberOf b3 S) (fun x8 S7 => (if b2 = 2 then (am_b2 (sf_X8_sortOf b3 S7) (fun x12 S11 => (if x12 = 1 then (am_b2 (sf_X3_has x8 S11) (fun x15 S14 => (if x15 = 0 then (some ((-3), S14)) else (some (0, S14))))) else (some (0, S11))))) else (if b2 = 5 then (if b1 = 100 then (some ((-2), S7)) else (if t0 = 0 then (am_b2 (sf_X3_isFull  S7) (fun x18 S17 => (if x18 = 0 then (some (0, S17)) else (some ((-4), S17))))) else (some (0, S7)))) else (if b2 = 8 then (am_b2 (sf_X3_isFull  S7) (fun x21 S20 => (if x21 = 0 then (some (0, S20)) else (some ((-4), S20))))) else (if b2 = 9 then (am_b2 (sf_X3_has x8 S7) (fun x24 S23 => (if x24 = 0 then (some ((-3), S23)) else (some (0, S23))))) else (if b2 = 10 then (am_b2 (sf_X3_has x8 S7) (fun x27 S26 => (if x27 = 0 then (some ((-3), S26)) else (some (0, S26))))) else (if b2 = 11 then (if t0 = 0 then (some ((-3), S7)) else (am_b2 (sf_X3_isFull  S7) (fun x30 S29 => (if x30 = 0 then (some (0, S29)) else (some ((-4), S29)))))) else (if b2 = 12 then (am_b2 (sf_X6_isFull  S7) (fun x33 S32 => (if x33 = 0 then (some (0, S32)) else (some ((-4), S32))))) else (some (0, S7)))))))))))
set_option maxHeartbeats 4000000 in
set_option maxRecDepth 100000 in
theorem wk_X5_faultOf_33 {p : Program} {l : Launch} {e : Env} {s : State} {m : MethodId} {args : Array Value} {below : List Frame} {meth : Method} {c : Code} {G : am_G} (C : am_C p s m args c cX5_faultOf 7 RX5 G) (hr : meth.sig.returnType = (some .int)) (hlocks : meth.locks = false) (b1 : Int) (b2 : Int) (b3 : Int) (t0 : Int) (S : am_S) (x : Int) (S2 : am_S) (hs : sf_X5_faultOf_33 b1 b2 b3 t0 S = some (x, S2)) : am_V p l e (am_rm 2 42) s m args below meth c (MQ below (am_Q G (some (am_I x)) S2) args s 0 0 (am_A G)) G (am_A G) s.heap 7 0 0 33 [(0, am_R 7), (1, am_I b1), (2, am_I b2), (3, am_J b3)] [am_I t0] S := by
  unfold sf_X5_faultOf_33 at hs
  refine av_istore (pc := 33) (i := 5) (lv2 := [(5, am_I t0), (0, am_R 7), (1, am_I b1), (2, am_I b2), (3, am_J b3)]) C dX5_faultOf_33 (by decide) rfl ?_
  refine av_lload_n (pc := 35) (j := 4) C dX5_faultOf_35 rfl rfl ?_
  obtain ⟨x8, S7, hc9, hs⟩ := am_b2_of hs
  refine av_eq (st2 := [am_J b3]) rfl rfl rfl rfl (av_callS (pc := 36) (as := [am_J b3]) (rest := []) C (ct_X8_numberOf l G b3 S x8 S7 hc9) ym_X8_numberOf si_X5_133 st_X8_numberOf ⟨Nat.le_of_ble_eq_true rfl, Nat.le_of_ble_eq_true rfl⟩ rfl rfl (Nat.le_of_ble_eq_true rfl) dX5_faultOf_36 ⟨Nat.le_refl _, Nat.le_refl _⟩ (fun hrv => av_eq (st2 := [am_I x8]) rfl rfl rfl rfl ?_))
  refine av_istore (pc := 39) (i := 6) (lv2 := [(6, am_I x8), (5, am_I t0), (0, am_R 7), (1, am_I b1), (2, am_I b2), (3, am_J b3)]) C dX5_faultOf_39 (by decide) rfl ?_
  refine av_iload_n (pc := 41) (j := 4) C dX5_faultOf_41 rfl rfl ?_
  have hdef10 : (hs : (some (0, S7)) = some (x, S2)) → am_V p l e (am_rm 2 42) s m args below meth c (MQ below (am_Q G (some (am_I x)) S2) args s 0 0 (am_A G)) G (am_A G) s.heap 7 0 0 236 [(6, am_I x8), (5, am_I t0), (0, am_R 7), (1, am_I b1), (2, am_I b2), (3, am_J b3)] [] S7 := by
    intro hs
    refine av_iconst (pc := 236) C dX5_faultOf_236 rfl ?_
    obtain ⟨rfl, rfl⟩ := am_inj2 hs
    exact av_iret C hr hlocks dX5_faultOf_237
  by_cases hk0 : b2 = 2
  · rw [if_pos hk0] at hs
    refine av_swi (pc := 42) (k := 0) (tgt := 100) C dX5_faultOf_42 (by rw [hk0]; rfl) (by decide) rfl (by decide) ?_
    refine av_lload_n (pc := 100) (j := 5) C dX5_faultOf_100 rfl rfl ?_
    obtain ⟨x12, S11, hc13, hs⟩ := am_b2_of hs
    refine av_eq (st2 := [am_J b3]) rfl rfl rfl rfl (av_callS (pc := 101) (as := [am_J b3]) (rest := []) C (ct_X8_sortOf l G b3 S7 x12 S11 hc13) ym_X8_sortOf si_X5_174 st_X8_sortOf ⟨Nat.le_of_ble_eq_true rfl, Nat.le_of_ble_eq_true rfl⟩ rfl rfl (Nat.le_of_ble_eq_true rfl) dX5_faultOf_101 ⟨Nat.le_refl _, Nat.le_refl _⟩ (fun hrv => av_eq (st2 := [am_I x12]) rfl rfl rfl rfl ?_))
    refine av_iconst (pc := 104) C dX5_faultOf_104 rfl ?_
    refine av_icmp_ne (pc := 105) (tgt := 125) C dX5_faultOf_105 (by decide) (fun hc => ?_) (fun hc => ?_)
    · rw [if_neg hc] at hs
      refine av_iconst (pc := 125) C dX5_faultOf_125 rfl ?_
      obtain ⟨rfl, rfl⟩ := am_inj2 hs
      exact av_iret C hr hlocks dX5_faultOf_126
    · rw [if_pos (Decidable.not_not.mp hc)] at hs
      refine av_aload_n (pc := 108) (j := 2) C dX5_faultOf_108 rfl rfl ?_
      refine av_getR (pc := 109) (k := 1) (r := 1) C fl_X5_52 sk_7 rfl dX5_faultOf_109 ?_
      refine av_iload (pc := 112) (j := 0) C dX5_faultOf_112 rfl ?_
      obtain ⟨x15, S14, hc16, hs⟩ := am_b2_of hs
      refine av_eq (st2 := [am_I x8, am_R 1]) rfl rfl rfl rfl (av_callV (pc := 114) (as := [am_I x8]) (rest := []) C (ct_X3_has l G x8 S11 x15 S14 hc16) ym_X3_has si_X5_177 im_X3_has se_X3_has sk_1 rfl ⟨Nat.le_of_ble_eq_true rfl, Nat.le_of_ble_eq_true rfl⟩ rfl rfl (Nat.le_of_ble_eq_true rfl) dX5_faultOf_114 ⟨Nat.le_refl _, Nat.le_refl _⟩ (fun hrv => av_eq (st2 := [am_I x15]) rfl rfl rfl rfl ?_))
      refine av_if_ne (pc := 117) (tgt := 125) C dX5_faultOf_117 (by decide) (fun hc => ?_) (fun hc => ?_)
      · rw [if_neg hc] at hs
        refine av_iconst (pc := 125) C dX5_faultOf_125 rfl ?_
        obtain ⟨rfl, rfl⟩ := am_inj2 hs
        exact av_iret C hr hlocks dX5_faultOf_126
      · rw [if_pos (Decidable.not_not.mp hc)] at hs
        refine av_bipush (pc := 120) C dX5_faultOf_120 rfl ?_
        refine av_goto (pc := 122) (tgt := 126) C dX5_faultOf_122 (by decide) ?_
        obtain ⟨rfl, rfl⟩ := am_inj2 hs
        exact av_iret C hr hlocks dX5_faultOf_126
  · rw [if_neg hk0] at hs
    by_cases hk1 : b2 = 3
    · refine av_swi (pc := 42) (k := 1) (tgt := 236) C dX5_faultOf_42 (by rw [hk1]; rfl) (by decide) rfl (by decide) ?_
      rw [if_neg (show ¬ b2 = 5 by omega)] at hs
      rw [if_neg (show ¬ b2 = 8 by omega)] at hs
      rw [if_neg (show ¬ b2 = 9 by omega)] at hs
      rw [if_neg (show ¬ b2 = 10 by omega)] at hs
      rw [if_neg (show ¬ b2 = 11 by omega)] at hs
      rw [if_neg (show ¬ b2 = 12 by omega)] at hs
      exact hdef10 hs
    · skip
      by_cases hk2 : b2 = 4
      · refine av_swi (pc := 42) (k := 2) (tgt := 236) C dX5_faultOf_42 (by rw [hk2]; rfl) (by decide) rfl (by decide) ?_
        rw [if_neg (show ¬ b2 = 5 by omega)] at hs
        rw [if_neg (show ¬ b2 = 8 by omega)] at hs
        rw [if_neg (show ¬ b2 = 9 by omega)] at hs
        rw [if_neg (show ¬ b2 = 10 by omega)] at hs
        rw [if_neg (show ¬ b2 = 11 by omega)] at hs
        rw [if_neg (show ¬ b2 = 12 by omega)] at hs
        exact hdef10 hs
      · skip
        by_cases hk3 : b2 = 5
        · rw [if_pos hk3] at hs
          refine av_swi (pc := 42) (k := 3) (tgt := 146) C dX5_faultOf_42 (by rw [hk3]; rfl) (by decide) rfl (by decide) ?_
          refine av_iload_n (pc := 146) (j := 3) C dX5_faultOf_146 rfl rfl ?_
          refine av_bipush (pc := 147) C dX5_faultOf_147 rfl ?_
          refine av_icmp_ne (pc := 149) (tgt := 155) C dX5_faultOf_149 (by decide) (fun hc => ?_) (fun hc => ?_)
          · rw [if_neg hc] at hs
            refine av_iload (pc := 155) (j := 1) C dX5_faultOf_155 rfl ?_
            refine av_if_ne (pc := 157) (tgt := 175) C dX5_faultOf_157 (by decide) (fun hc => ?_) (fun hc => ?_)
            · rw [if_neg hc] at hs
              refine av_iconst (pc := 175) C dX5_faultOf_175 rfl ?_
              obtain ⟨rfl, rfl⟩ := am_inj2 hs
              exact av_iret C hr hlocks dX5_faultOf_176
            · rw [if_pos (Decidable.not_not.mp hc)] at hs
              refine av_aload_n (pc := 160) (j := 2) C dX5_faultOf_160 rfl rfl ?_
              refine av_getR (pc := 161) (k := 1) (r := 1) C fl_X5_52 sk_7 rfl dX5_faultOf_161 ?_
              obtain ⟨x18, S17, hc19, hs⟩ := am_b2_of hs
              refine av_eq (st2 := [am_R 1]) rfl rfl rfl rfl (av_callV (pc := 164) (as := []) (rest := []) C (ct_X3_isFull l G  S7 x18 S17 hc19) ym_X3_isFull si_X5_181 im_X3_isFull se_X3_isFull sk_1 rfl ⟨Nat.le_of_ble_eq_true rfl, Nat.le_of_ble_eq_true rfl⟩ rfl rfl (Nat.le_of_ble_eq_true rfl) dX5_faultOf_164 ⟨Nat.le_refl _, Nat.le_refl _⟩ (fun hrv => av_eq (st2 := [am_I x18]) rfl rfl rfl rfl ?_))
              refine av_if_eq (pc := 167) (tgt := 175) C dX5_faultOf_167 (by decide) (fun hc => ?_) (fun hc => ?_)
              · rw [if_pos hc] at hs
                refine av_iconst (pc := 175) C dX5_faultOf_175 rfl ?_
                obtain ⟨rfl, rfl⟩ := am_inj2 hs
                exact av_iret C hr hlocks dX5_faultOf_176
              · rw [if_neg hc] at hs
                refine av_bipush (pc := 170) C dX5_faultOf_170 rfl ?_
                refine av_goto (pc := 172) (tgt := 176) C dX5_faultOf_172 (by decide) ?_
                obtain ⟨rfl, rfl⟩ := am_inj2 hs
                exact av_iret C hr hlocks dX5_faultOf_176
          · rw [if_pos (Decidable.not_not.mp hc)] at hs
            refine av_bipush (pc := 152) C dX5_faultOf_152 rfl ?_
            obtain ⟨rfl, rfl⟩ := am_inj2 hs
            exact av_iret C hr hlocks dX5_faultOf_154
        · rw [if_neg hk3] at hs
          by_cases hk4 : b2 = 6
          · refine av_swi (pc := 42) (k := 4) (tgt := 236) C dX5_faultOf_42 (by rw [hk4]; rfl) (by decide) rfl (by decide) ?_
            rw [if_neg (show ¬ b2 = 8 by omega)] at hs
            rw [if_neg (show ¬ b2 = 9 by omega)] at hs
            rw [if_neg (show ¬ b2 = 10 by omega)] at hs
            rw [if_neg (show ¬ b2 = 11 by omega)] at hs
            rw [if_neg (show ¬ b2 = 12 by omega)] at hs
            exact hdef10 hs
          · skip
            by_cases hk5 : b2 = 7
            · refine av_swi (pc := 42) (k := 5) (tgt := 236) C dX5_faultOf_42 (by rw [hk5]; rfl) (by decide) rfl (by decide) ?_
              rw [if_neg (show ¬ b2 = 8 by omega)] at hs
              rw [if_neg (show ¬ b2 = 9 by omega)] at hs
              rw [if_neg (show ¬ b2 = 10 by omega)] at hs
              rw [if_neg (show ¬ b2 = 11 by omega)] at hs
              rw [if_neg (show ¬ b2 = 12 by omega)] at hs
              exact hdef10 hs
            · skip
              by_cases hk6 : b2 = 8
              · rw [if_pos hk6] at hs
                refine av_swi (pc := 42) (k := 6) (tgt := 202) C dX5_faultOf_42 (by rw [hk6]; rfl) (by decide) rfl (by decide) ?_
                refine av_aload_n (pc := 202) (j := 2) C dX5_faultOf_202 rfl rfl ?_
                refine av_getR (pc := 203) (k := 1) (r := 1) C fl_X5_52 sk_7 rfl dX5_faultOf_203 ?_
                obtain ⟨x21, S20, hc22, hs⟩ := am_b2_of hs
                refine av_eq (st2 := [am_R 1]) rfl rfl rfl rfl (av_callV (pc := 206) (as := []) (rest := []) C (ct_X3_isFull l G  S7 x21 S20 hc22) ym_X3_isFull si_X5_181 im_X3_isFull se_X3_isFull sk_1 rfl ⟨Nat.le_of_ble_eq_true rfl, Nat.le_of_ble_eq_true rfl⟩ rfl rfl (Nat.le_of_ble_eq_true rfl) dX5_faultOf_206 ⟨Nat.le_refl _, Nat.le_refl _⟩ (fun hrv => av_eq (st2 := [am_I x21]) rfl rfl rfl rfl ?_))
                refine av_if_eq (pc := 209) (tgt := 217) C dX5_faultOf_209 (by decide) (fun hc => ?_) (fun hc => ?_)
                · rw [if_pos hc] at hs
                  refine av_iconst (pc := 217) C dX5_faultOf_217 rfl ?_
                  obtain ⟨rfl, rfl⟩ := am_inj2 hs
                  exact av_iret C hr hlocks dX5_faultOf_218
                · rw [if_neg hc] at hs
                  refine av_bipush (pc := 212) C dX5_faultOf_212 rfl ?_
                  refine av_goto (pc := 214) (tgt := 218) C dX5_faultOf_214 (by decide) ?_
                  obtain ⟨rfl, rfl⟩ := am_inj2 hs
                  exact av_iret C hr hlocks dX5_faultOf_218
              · rw [if_neg hk6] at hs
                by_cases hk7 : b2 = 9
                · rw [if_pos hk7] at hs
                  refine av_swi (pc := 42) (k := 7) (tgt := 127) C dX5_faultOf_42 (by rw [hk7]; rfl) (by decide) rfl (by decide) ?_
                  refine av_aload_n (pc := 127) (j := 2) C dX5_faultOf_127 rfl rfl ?_
                  refine av_getR (pc := 128) (k := 1) (r := 1) C fl_X5_52 sk_7 rfl dX5_faultOf_128 ?_
                  refine av_iload (pc := 131) (j := 0) C dX5_faultOf_131 rfl ?_
                  obtain ⟨x24, S23, hc25, hs⟩ := am_b2_of hs
                  refine av_eq (st2 := [am_I x8, am_R 1]) rfl rfl rfl rfl (av_callV (pc := 133) (as := [am_I x8]) (rest := []) C (ct_X3_has l G x8 S7 x24 S23 hc25) ym_X3_has si_X5_177 im_X3_has se_X3_has sk_1 rfl ⟨Nat.le_of_ble_eq_true rfl, Nat.le_of_ble_eq_true rfl⟩ rfl rfl (Nat.le_of_ble_eq_true rfl) dX5_faultOf_133 ⟨Nat.le_refl _, Nat.le_refl _⟩ (fun hrv => av_eq (st2 := [am_I x24]) rfl rfl rfl rfl ?_))
                  refine av_if_eq (pc := 136) (tgt := 143) C dX5_faultOf_136 (by decide) (fun hc => ?_) (fun hc => ?_)
                  · rw [if_pos hc] at hs
                    refine av_bipush (pc := 143) C dX5_faultOf_143 rfl ?_
                    obtain ⟨rfl, rfl⟩ := am_inj2 hs
                    exact av_iret C hr hlocks dX5_faultOf_145
                  · rw [if_neg hc] at hs
                    refine av_iconst (pc := 139) C dX5_faultOf_139 rfl ?_
                    refine av_goto (pc := 140) (tgt := 145) C dX5_faultOf_140 (by decide) ?_
                    obtain ⟨rfl, rfl⟩ := am_inj2 hs
                    exact av_iret C hr hlocks dX5_faultOf_145
                · rw [if_neg hk7] at hs
                  by_cases hk8 : b2 = 10
                  · rw [if_pos hk8] at hs
                    refine av_swi (pc := 42) (k := 8) (tgt := 127) C dX5_faultOf_42 (by rw [hk8]; rfl) (by decide) rfl (by decide) ?_
                    refine av_aload_n (pc := 127) (j := 2) C dX5_faultOf_127 rfl rfl ?_
                    refine av_getR (pc := 128) (k := 1) (r := 1) C fl_X5_52 sk_7 rfl dX5_faultOf_128 ?_
                    refine av_iload (pc := 131) (j := 0) C dX5_faultOf_131 rfl ?_
                    obtain ⟨x27, S26, hc28, hs⟩ := am_b2_of hs
                    refine av_eq (st2 := [am_I x8, am_R 1]) rfl rfl rfl rfl (av_callV (pc := 133) (as := [am_I x8]) (rest := []) C (ct_X3_has l G x8 S7 x27 S26 hc28) ym_X3_has si_X5_177 im_X3_has se_X3_has sk_1 rfl ⟨Nat.le_of_ble_eq_true rfl, Nat.le_of_ble_eq_true rfl⟩ rfl rfl (Nat.le_of_ble_eq_true rfl) dX5_faultOf_133 ⟨Nat.le_refl _, Nat.le_refl _⟩ (fun hrv => av_eq (st2 := [am_I x27]) rfl rfl rfl rfl ?_))
                    refine av_if_eq (pc := 136) (tgt := 143) C dX5_faultOf_136 (by decide) (fun hc => ?_) (fun hc => ?_)
                    · rw [if_pos hc] at hs
                      refine av_bipush (pc := 143) C dX5_faultOf_143 rfl ?_
                      obtain ⟨rfl, rfl⟩ := am_inj2 hs
                      exact av_iret C hr hlocks dX5_faultOf_145
                    · rw [if_neg hc] at hs
                      refine av_iconst (pc := 139) C dX5_faultOf_139 rfl ?_
                      refine av_goto (pc := 140) (tgt := 145) C dX5_faultOf_140 (by decide) ?_
                      obtain ⟨rfl, rfl⟩ := am_inj2 hs
                      exact av_iret C hr hlocks dX5_faultOf_145
                  · rw [if_neg hk8] at hs
                    by_cases hk9 : b2 = 11
                    · rw [if_pos hk9] at hs
                      refine av_swi (pc := 42) (k := 9) (tgt := 177) C dX5_faultOf_42 (by rw [hk9]; rfl) (by decide) rfl (by decide) ?_
                      refine av_iload (pc := 177) (j := 1) C dX5_faultOf_177 rfl ?_
                      refine av_if_ne (pc := 179) (tgt := 185) C dX5_faultOf_179 (by decide) (fun hc => ?_) (fun hc => ?_)
                      · rw [if_neg hc] at hs
                        refine av_aload_n (pc := 185) (j := 2) C dX5_faultOf_185 rfl rfl ?_
                        refine av_getR (pc := 186) (k := 1) (r := 1) C fl_X5_52 sk_7 rfl dX5_faultOf_186 ?_
                        obtain ⟨x30, S29, hc31, hs⟩ := am_b2_of hs
                        refine av_eq (st2 := [am_R 1]) rfl rfl rfl rfl (av_callV (pc := 189) (as := []) (rest := []) C (ct_X3_isFull l G  S7 x30 S29 hc31) ym_X3_isFull si_X5_181 im_X3_isFull se_X3_isFull sk_1 rfl ⟨Nat.le_of_ble_eq_true rfl, Nat.le_of_ble_eq_true rfl⟩ rfl rfl (Nat.le_of_ble_eq_true rfl) dX5_faultOf_189 ⟨Nat.le_refl _, Nat.le_refl _⟩ (fun hrv => av_eq (st2 := [am_I x30]) rfl rfl rfl rfl ?_))
                        refine av_if_eq (pc := 192) (tgt := 200) C dX5_faultOf_192 (by decide) (fun hc => ?_) (fun hc => ?_)
                        · rw [if_pos hc] at hs
                          refine av_iconst (pc := 200) C dX5_faultOf_200 rfl ?_
                          obtain ⟨rfl, rfl⟩ := am_inj2 hs
                          exact av_iret C hr hlocks dX5_faultOf_201
                        · rw [if_neg hc] at hs
                          refine av_bipush (pc := 195) C dX5_faultOf_195 rfl ?_
                          refine av_goto (pc := 197) (tgt := 201) C dX5_faultOf_197 (by decide) ?_
                          obtain ⟨rfl, rfl⟩ := am_inj2 hs
                          exact av_iret C hr hlocks dX5_faultOf_201
                      · rw [if_pos (Decidable.not_not.mp hc)] at hs
                        refine av_bipush (pc := 182) C dX5_faultOf_182 rfl ?_
                        obtain ⟨rfl, rfl⟩ := am_inj2 hs
                        exact av_iret C hr hlocks dX5_faultOf_184
                    · rw [if_neg hk9] at hs
                      by_cases hk10 : b2 = 12
                      · rw [if_pos hk10] at hs
                        refine av_swi (pc := 42) (k := 10) (tgt := 219) C dX5_faultOf_42 (by rw [hk10]; rfl) (by decide) rfl (by decide) ?_
                        refine av_aload_n (pc := 219) (j := 2) C dX5_faultOf_219 rfl rfl ?_
                        refine av_getR (pc := 220) (k := 2) (r := 4) C fl_X5_56 sk_7 rfl dX5_faultOf_220 ?_
                        obtain ⟨x33, S32, hc34, hs⟩ := am_b2_of hs
                        refine av_eq (st2 := [am_R 4]) rfl rfl rfl rfl (av_callV (pc := 223) (as := []) (rest := []) C (ct_X6_isFull l G  S7 x33 S32 hc34) ym_X6_isFull si_X5_185 im_X6_isFull se_X6_isFull sk_4 rfl ⟨Nat.le_of_ble_eq_true rfl, Nat.le_of_ble_eq_true rfl⟩ rfl rfl (Nat.le_of_ble_eq_true rfl) dX5_faultOf_223 ⟨Nat.le_refl _, Nat.le_refl _⟩ (fun hrv => av_eq (st2 := [am_I x33]) rfl rfl rfl rfl ?_))
                        refine av_if_eq (pc := 226) (tgt := 234) C dX5_faultOf_226 (by decide) (fun hc => ?_) (fun hc => ?_)
                        · rw [if_pos hc] at hs
                          refine av_iconst (pc := 234) C dX5_faultOf_234 rfl ?_
                          obtain ⟨rfl, rfl⟩ := am_inj2 hs
                          exact av_iret C hr hlocks dX5_faultOf_235
                        · rw [if_neg hc] at hs
                          refine av_bipush (pc := 229) C dX5_faultOf_229 rfl ?_
                          refine av_goto (pc := 231) (tgt := 235) C dX5_faultOf_231 (by decide) ?_
                          obtain ⟨rfl, rfl⟩ := am_inj2 hs
                          exact av_iret C hr hlocks dX5_faultOf_235
                      · rw [if_neg hk10] at hs
                        refine av_swo (pc := 42) (tgt := 236) C dX5_faultOf_42 (by omega) (by decide) ?_
                        exact hdef10 hs
def sf_X5_faultOf (a1 : Int) (a2 : Int) (a3 : Int) (S : am_S) : Option (Int × am_S) := (if (S.1 461) ≤ 200 then (am_b2 (sf_X4_valueAt 69 101 a1 S) (fun x2 S1 => (am_b2 (sf_X8_sortOf x2 S1) (fun x5 S4 => (if x5 = 1 then (sf_X5_faultOf_33 a1 a2 a3 1 S4) else (sf_X5_faultOf_33 a1 a2 a3 0 S4)))))) else (some ((-4), S)))
set_option maxHeartbeats 4000000 in
set_option maxRecDepth 100000 in
theorem ct_X5_faultOf (l : Launch) (G : am_G) (a1 : Int) (a2 : Int) (a3 : Int) (S : am_S) (x : Int) (S2 : am_S) (hs : sf_X5_faultOf a1 a2 a3 S = some (x, S2)) : am_met l yX5_faultOf cX5_faultOf 7 (some .int) 2 42 G [am_R 7, am_I a1, am_I a2, am_J a3] S (some (am_I x)) S2 := by
  refine am_enter ym_X5_faultOf (Nat.le_of_ble_eq_true rfl) ?_
  intro p e s m args below meth c C hr hlocks
  refine av_eq (lv2 := [(0, am_R 7), (1, am_I a1), (2, am_I a2), (3, am_J a3)]) rfl rfl rfl rfl ?_
  unfold sf_X5_faultOf at hs
  refine av_aload_n (pc := 0) (j := 0) C dX5_faultOf_0 rfl rfl ?_
  refine av_getI (pc := 1) (k := 13) (n := 461) C fl_X5_45 sk_7 rfl rfl dX5_faultOf_1 ?_
  refine av_sipush (pc := 4) C dX5_faultOf_4 rfl ?_
  refine av_icmp_le (pc := 7) (tgt := 13) C dX5_faultOf_7 (by decide) (fun hc => ?_) (fun hc => ?_)
  · rw [if_pos hc] at hs
    refine av_aload_n (pc := 13) (j := 0) C dX5_faultOf_13 rfl rfl ?_
    refine av_getR (pc := 14) (k := 6) (r := 36) C fl_X5_23 sk_7 rfl dX5_faultOf_14 ?_
    refine av_iload_n (pc := 17) (j := 1) C dX5_faultOf_17 rfl rfl ?_
    obtain ⟨x2, S1, hc3, hs⟩ := am_b2_of hs
    refine av_eq (st2 := [am_I a1, am_R 36]) rfl rfl rfl rfl (av_callV (pc := 18) (as := [am_I a1]) (rest := []) C (ct_X4_valueAt l G 36 69 101 sk_36 sk_69 rfl a1 S x2 S1 hc3) ym_X4_valueAt si_X5_139 im_X4_valueAt se_X4_valueAt sk_36 rfl ⟨Nat.le_of_ble_eq_true rfl, Nat.le_of_ble_eq_true rfl⟩ rfl rfl (Nat.le_of_ble_eq_true rfl) dX5_faultOf_18 ⟨Nat.le_refl _, Nat.le_refl _⟩ (fun hrv => av_eq (st2 := [am_J x2]) rfl rfl rfl rfl ?_))
    obtain ⟨x5, S4, hc6, hs⟩ := am_b2_of hs
    refine av_eq (st2 := [am_J x2]) rfl rfl rfl rfl (av_callS (pc := 21) (as := [am_J x2]) (rest := []) C (ct_X8_sortOf l G x2 S1 x5 S4 hc6) ym_X8_sortOf si_X5_174 st_X8_sortOf ⟨Nat.le_of_ble_eq_true rfl, Nat.le_of_ble_eq_true rfl⟩ rfl rfl (Nat.le_of_ble_eq_true rfl) dX5_faultOf_21 ⟨Nat.le_refl _, Nat.le_refl _⟩ (fun hrv => av_eq (st2 := [am_I x5]) rfl rfl rfl rfl ?_))
    refine av_iconst (pc := 24) C dX5_faultOf_24 rfl ?_
    refine av_icmp_ne (pc := 25) (tgt := 32) C dX5_faultOf_25 (by decide) (fun hc => ?_) (fun hc => ?_)
    · rw [if_neg hc] at hs
      refine av_iconst (pc := 32) C dX5_faultOf_32 rfl ?_
      exact wk_X5_faultOf_33 C hr hlocks a1 a2 a3 0 S4 x S2 hs
    · rw [if_pos (Decidable.not_not.mp hc)] at hs
      refine av_iconst (pc := 28) C dX5_faultOf_28 rfl ?_
      refine av_goto (pc := 29) (tgt := 33) C dX5_faultOf_29 (by decide) ?_
      exact wk_X5_faultOf_33 C hr hlocks a1 a2 a3 1 S4 x S2 hs
  · rw [if_neg hc] at hs
    refine av_bipush (pc := 10) C dX5_faultOf_10 rfl ?_
    obtain ⟨rfl, rfl⟩ := am_inj2 hs
    exact av_iret C hr hlocks dX5_faultOf_12
def sf_X5_jumpIfAbove (a1 : Int) (a2 : Int) (S : am_S) : Option (am_S) := (am_b2 (sf_X4_valueAt 69 101 a1 S) (fun x2 S1 => (am_b2 (sf_X8_numberOf x2 S1) (fun x5 S4 => (am_b2 (sf_X4_valueAt 69 101 a1 S4) (fun x8 S7 => (am_b2 (sf_X8_sortOf x8 S7) (fun x11 S10 => (if x11 = 0 then (if x5 ≤ 0 then (some S10) else (am_b2 (sf_X8_of 0 (am_w32 (x5 - 1)) S10) (fun x14 S13 => (am_b1 (sf_X4_put 69 101 a1 x14 S13) (fun S16 => (am_b1 (sf_X4_put 68 101 a1 a2 S16) (fun S18 => (some S18)))))))) else (some S10))))))))))
set_option maxHeartbeats 4000000 in
set_option maxRecDepth 100000 in
theorem ct_X5_jumpIfAbove (l : Launch) (G : am_G) (a1 : Int) (a2 : Int) (S : am_S) (S2 : am_S) (hs : sf_X5_jumpIfAbove a1 a2 S = some S2) : am_met l yX5_jumpIfAbove cX5_jumpIfAbove 4 none 1 23 G [am_R 7, am_I a1, am_I a2] S none S2 := by
  refine am_enter ym_X5_jumpIfAbove (Nat.le_of_ble_eq_true rfl) ?_
  intro p e s m args below meth c C hr hlocks
  refine av_eq (lv2 := [(0, am_R 7), (1, am_I a1), (2, am_I a2)]) rfl rfl rfl rfl ?_
  unfold sf_X5_jumpIfAbove at hs
  refine av_aload_n (pc := 0) (j := 0) C dX5_jumpIfAbove_0 rfl rfl ?_
  refine av_getR (pc := 1) (k := 6) (r := 36) C fl_X5_23 sk_7 rfl dX5_jumpIfAbove_1 ?_
  refine av_iload_n (pc := 4) (j := 1) C dX5_jumpIfAbove_4 rfl rfl ?_
  obtain ⟨x2, S1, hc3, hs⟩ := am_b2_of hs
  refine av_eq (st2 := [am_I a1, am_R 36]) rfl rfl rfl rfl (av_callV (pc := 5) (as := [am_I a1]) (rest := []) C (ct_X4_valueAt l G 36 69 101 sk_36 sk_69 rfl a1 S x2 S1 hc3) ym_X4_valueAt si_X5_139 im_X4_valueAt se_X4_valueAt sk_36 rfl ⟨Nat.le_of_ble_eq_true rfl, Nat.le_of_ble_eq_true rfl⟩ rfl rfl (Nat.le_of_ble_eq_true rfl) dX5_jumpIfAbove_5 ⟨Nat.le_refl _, Nat.le_refl _⟩ (fun hrv => av_eq (st2 := [am_J x2]) rfl rfl rfl rfl ?_))
  obtain ⟨x5, S4, hc6, hs⟩ := am_b2_of hs
  refine av_eq (st2 := [am_J x2]) rfl rfl rfl rfl (av_callS (pc := 8) (as := [am_J x2]) (rest := []) C (ct_X8_numberOf l G x2 S1 x5 S4 hc6) ym_X8_numberOf si_X5_133 st_X8_numberOf ⟨Nat.le_of_ble_eq_true rfl, Nat.le_of_ble_eq_true rfl⟩ rfl rfl (Nat.le_of_ble_eq_true rfl) dX5_jumpIfAbove_8 ⟨Nat.le_refl _, Nat.le_refl _⟩ (fun hrv => av_eq (st2 := [am_I x5]) rfl rfl rfl rfl ?_))
  refine av_istore_n (pc := 11) (i := 3) (lv2 := [(3, am_I x5), (0, am_R 7), (1, am_I a1), (2, am_I a2)]) C dX5_jumpIfAbove_11 rfl (by decide) rfl ?_
  refine av_aload_n (pc := 12) (j := 1) C dX5_jumpIfAbove_12 rfl rfl ?_
  refine av_getR (pc := 13) (k := 6) (r := 36) C fl_X5_23 sk_7 rfl dX5_jumpIfAbove_13 ?_
  refine av_iload_n (pc := 16) (j := 2) C dX5_jumpIfAbove_16 rfl rfl ?_
  obtain ⟨x8, S7, hc9, hs⟩ := am_b2_of hs
  refine av_eq (st2 := [am_I a1, am_R 36]) rfl rfl rfl rfl (av_callV (pc := 17) (as := [am_I a1]) (rest := []) C (ct_X4_valueAt l G 36 69 101 sk_36 sk_69 rfl a1 S4 x8 S7 hc9) ym_X4_valueAt si_X5_139 im_X4_valueAt se_X4_valueAt sk_36 rfl ⟨Nat.le_of_ble_eq_true rfl, Nat.le_of_ble_eq_true rfl⟩ rfl rfl (Nat.le_of_ble_eq_true rfl) dX5_jumpIfAbove_17 ⟨Nat.le_refl _, Nat.le_refl _⟩ (fun hrv => av_eq (st2 := [am_J x8]) rfl rfl rfl rfl ?_))
  obtain ⟨x11, S10, hc12, hs⟩ := am_b2_of hs
  refine av_eq (st2 := [am_J x8]) rfl rfl rfl rfl (av_callS (pc := 20) (as := [am_J x8]) (rest := []) C (ct_X8_sortOf l G x8 S7 x11 S10 hc12) ym_X8_sortOf si_X5_174 st_X8_sortOf ⟨Nat.le_of_ble_eq_true rfl, Nat.le_of_ble_eq_true rfl⟩ rfl rfl (Nat.le_of_ble_eq_true rfl) dX5_jumpIfAbove_20 ⟨Nat.le_refl _, Nat.le_refl _⟩ (fun hrv => av_eq (st2 := [am_I x11]) rfl rfl rfl rfl ?_))
  refine av_if_ne (pc := 23) (tgt := 55) C dX5_jumpIfAbove_23 (by decide) (fun hc => ?_) (fun hc => ?_)
  · rw [if_neg hc] at hs
    obtain rfl := am_inj1 hs
    exact av_vret C hr hlocks dX5_jumpIfAbove_55
  · rw [if_pos (Decidable.not_not.mp hc)] at hs
    refine av_iload_n (pc := 26) (j := 0) C dX5_jumpIfAbove_26 rfl rfl ?_
    refine av_if_le (pc := 27) (tgt := 55) C dX5_jumpIfAbove_27 (by decide) (fun hc => ?_) (fun hc => ?_)
    · rw [if_pos hc] at hs
      obtain rfl := am_inj1 hs
      exact av_vret C hr hlocks dX5_jumpIfAbove_55
    · rw [if_neg hc] at hs
      refine av_aload_n (pc := 30) (j := 1) C dX5_jumpIfAbove_30 rfl rfl ?_
      refine av_getR (pc := 31) (k := 6) (r := 36) C fl_X5_23 sk_7 rfl dX5_jumpIfAbove_31 ?_
      refine av_iload_n (pc := 34) (j := 2) C dX5_jumpIfAbove_34 rfl rfl ?_
      refine av_iconst (pc := 35) C dX5_jumpIfAbove_35 rfl ?_
      refine av_iload_n (pc := 36) (j := 0) C dX5_jumpIfAbove_36 rfl rfl ?_
      refine av_iconst (pc := 37) C dX5_jumpIfAbove_37 rfl ?_
      refine av_isub (pc := 38) C dX5_jumpIfAbove_38 ?_
      obtain ⟨x14, S13, hc15, hs⟩ := am_b2_of hs
      refine av_eq (st2 := [am_I (am_w32 (x5 - 1)), am_I 0, am_I a1, am_R 36]) rfl rfl rfl rfl (av_callS (pc := 39) (as := [am_I 0, am_I (am_w32 (x5 - 1))]) (rest := [am_I a1, am_R 36]) C (ct_X8_of l G 0 (am_w32 (x5 - 1)) S10 x14 S13 hc15) ym_X8_of si_X5_147 st_X8_of ⟨Nat.le_of_ble_eq_true rfl, Nat.le_of_ble_eq_true rfl⟩ rfl rfl (Nat.le_of_ble_eq_true rfl) dX5_jumpIfAbove_39 ⟨Nat.le_refl _, Nat.le_refl _⟩ (fun hrv => av_eq (st2 := [am_J x14, am_I a1, am_R 36]) rfl rfl rfl rfl ?_))
      obtain ⟨S16, hc17, hs⟩ := am_b1_of hs
      refine av_eq (st2 := [am_J x14, am_I a1, am_R 36]) rfl rfl rfl rfl (av_callV (pc := 42) (as := [am_I a1, am_J x14]) (rest := []) C (ct_X4_put l G 36 69 101 sk_36 sk_69 rfl a1 x14 S13 S16 hc17) ym_X4_put si_X5_78 im_X4_put se_X4_put sk_36 rfl ⟨Nat.le_of_ble_eq_true rfl, Nat.le_of_ble_eq_true rfl⟩ rfl rfl (Nat.le_of_ble_eq_true rfl) dX5_jumpIfAbove_42 ⟨Nat.le_refl _, Nat.le_refl _⟩ (fun hrv => av_eq (st2 := []) rfl rfl rfl rfl ?_))
      refine av_aload_n (pc := 45) (j := 1) C dX5_jumpIfAbove_45 rfl rfl ?_
      refine av_getR (pc := 46) (k := 5) (r := 35) C fl_X5_20 sk_7 rfl dX5_jumpIfAbove_46 ?_
      refine av_iload_n (pc := 49) (j := 2) C dX5_jumpIfAbove_49 rfl rfl ?_
      refine av_iload_n (pc := 50) (j := 3) C dX5_jumpIfAbove_50 rfl rfl ?_
      refine av_i2l (pc := 51) C dX5_jumpIfAbove_51 ?_
      obtain ⟨S18, hc19, hs⟩ := am_b1_of hs
      refine av_eq (st2 := [am_J a2, am_I a1, am_R 35]) rfl rfl rfl rfl (av_callV (pc := 52) (as := [am_I a1, am_J a2]) (rest := []) C (ct_X4_put l G 35 68 101 sk_35 sk_68 rfl a1 a2 S16 S18 hc19) ym_X4_put si_X5_78 im_X4_put se_X4_put sk_35 rfl ⟨Nat.le_of_ble_eq_true rfl, Nat.le_of_ble_eq_true rfl⟩ rfl rfl (Nat.le_of_ble_eq_true rfl) dX5_jumpIfAbove_52 ⟨Nat.le_refl _, Nat.le_refl _⟩ (fun hrv => av_eq (st2 := []) rfl rfl rfl rfl ?_))
      obtain rfl := am_inj1 hs
      exact av_vret C hr hlocks dX5_jumpIfAbove_55
def sf_X5_jumpIfZero (a1 : Int) (a2 : Int) (S : am_S) : Option (am_S) := (am_b2 (sf_X4_valueAt 69 101 a1 S) (fun x2 S1 => (am_b2 (sf_X8_of 0 0 S1) (fun x5 S4 => (if (am_cmp x2 x5) = 0 then (am_b1 (sf_X4_put 68 101 a1 a2 S4) (fun S7 => (some S7))) else (some S4))))))
set_option maxHeartbeats 4000000 in
set_option maxRecDepth 100000 in
theorem ct_X5_jumpIfZero (l : Launch) (G : am_G) (a1 : Int) (a2 : Int) (S : am_S) (S2 : am_S) (hs : sf_X5_jumpIfZero a1 a2 S = some S2) : am_met l yX5_jumpIfZero cX5_jumpIfZero 3 none 1 23 G [am_R 7, am_I a1, am_I a2] S none S2 := by
  refine am_enter ym_X5_jumpIfZero (Nat.le_of_ble_eq_true rfl) ?_
  intro p e s m args below meth c C hr hlocks
  refine av_eq (lv2 := [(0, am_R 7), (1, am_I a1), (2, am_I a2)]) rfl rfl rfl rfl ?_
  unfold sf_X5_jumpIfZero at hs
  refine av_aload_n (pc := 0) (j := 0) C dX5_jumpIfZero_0 rfl rfl ?_
  refine av_getR (pc := 1) (k := 6) (r := 36) C fl_X5_23 sk_7 rfl dX5_jumpIfZero_1 ?_
  refine av_iload_n (pc := 4) (j := 1) C dX5_jumpIfZero_4 rfl rfl ?_
  obtain ⟨x2, S1, hc3, hs⟩ := am_b2_of hs
  refine av_eq (st2 := [am_I a1, am_R 36]) rfl rfl rfl rfl (av_callV (pc := 5) (as := [am_I a1]) (rest := []) C (ct_X4_valueAt l G 36 69 101 sk_36 sk_69 rfl a1 S x2 S1 hc3) ym_X4_valueAt si_X5_139 im_X4_valueAt se_X4_valueAt sk_36 rfl ⟨Nat.le_of_ble_eq_true rfl, Nat.le_of_ble_eq_true rfl⟩ rfl rfl (Nat.le_of_ble_eq_true rfl) dX5_jumpIfZero_5 ⟨Nat.le_refl _, Nat.le_refl _⟩ (fun hrv => av_eq (st2 := [am_J x2]) rfl rfl rfl rfl ?_))
  refine av_iconst (pc := 8) C dX5_jumpIfZero_8 rfl ?_
  refine av_iconst (pc := 9) C dX5_jumpIfZero_9 rfl ?_
  obtain ⟨x5, S4, hc6, hs⟩ := am_b2_of hs
  refine av_eq (st2 := [am_I 0, am_I 0, am_J x2]) rfl rfl rfl rfl (av_callS (pc := 10) (as := [am_I 0, am_I 0]) (rest := [am_J x2]) C (ct_X8_of l G 0 0 S1 x5 S4 hc6) ym_X8_of si_X5_147 st_X8_of ⟨Nat.le_of_ble_eq_true rfl, Nat.le_of_ble_eq_true rfl⟩ rfl rfl (Nat.le_of_ble_eq_true rfl) dX5_jumpIfZero_10 ⟨Nat.le_refl _, Nat.le_refl _⟩ (fun hrv => av_eq (st2 := [am_J x5, am_J x2]) rfl rfl rfl rfl ?_))
  refine av_lcmp (pc := 13) C dX5_jumpIfZero_13 ?_
  refine av_if_ne (pc := 14) (tgt := 27) C dX5_jumpIfZero_14 (by decide) (fun hc => ?_) (fun hc => ?_)
  · rw [if_neg hc] at hs
    obtain rfl := am_inj1 hs
    exact av_vret C hr hlocks dX5_jumpIfZero_27
  · rw [if_pos (Decidable.not_not.mp hc)] at hs
    refine av_aload_n (pc := 17) (j := 0) C dX5_jumpIfZero_17 rfl rfl ?_
    refine av_getR (pc := 18) (k := 5) (r := 35) C fl_X5_20 sk_7 rfl dX5_jumpIfZero_18 ?_
    refine av_iload_n (pc := 21) (j := 1) C dX5_jumpIfZero_21 rfl rfl ?_
    refine av_iload_n (pc := 22) (j := 2) C dX5_jumpIfZero_22 rfl rfl ?_
    refine av_i2l (pc := 23) C dX5_jumpIfZero_23 ?_
    obtain ⟨S7, hc8, hs⟩ := am_b1_of hs
    refine av_eq (st2 := [am_J a2, am_I a1, am_R 35]) rfl rfl rfl rfl (av_callV (pc := 24) (as := [am_I a1, am_J a2]) (rest := []) C (ct_X4_put l G 35 68 101 sk_35 sk_68 rfl a1 a2 S4 S7 hc8) ym_X4_put si_X5_78 im_X4_put se_X4_put sk_35 rfl ⟨Nat.le_of_ble_eq_true rfl, Nat.le_of_ble_eq_true rfl⟩ rfl rfl (Nat.le_of_ble_eq_true rfl) dX5_jumpIfZero_24 ⟨Nat.le_refl _, Nat.le_refl _⟩ (fun hrv => av_eq (st2 := []) rfl rfl rfl rfl ?_))
    obtain rfl := am_inj1 hs
    exact av_vret C hr hlocks dX5_jumpIfZero_27
def sf_X6_add (a1 : Int) (a2 : Int) (a3 : Int) (S : am_S) : Option (Int × am_S) := (am_b1 (sf_X4_put 58 32 (S.1 259) a1 S) (fun S1 => (am_b1 (sf_X4_put 59 32 (S1.1 259) a2 S1) (fun S3 => (am_b1 (sf_X4_put 60 32 (S3.1 259) (am_w32 ((S3.1 260) + a3)) S3) (fun S5 => (am_let (am_sI S5 259 (am_w32 ((S5.1 259) + 1))) (fun S7 => (some ((S7.1 259), S7))))))))))
set_option maxHeartbeats 4000000 in
set_option maxRecDepth 100000 in
theorem ct_X6_add (l : Launch) (G : am_G) (a1 : Int) (a2 : Int) (a3 : Int) (S : am_S) (x : Int) (S2 : am_S) (hs : sf_X6_add a1 a2 a3 S = some (x, S2)) : am_met l yX6_add cX6_add 5 (some .int) 1 23 G [am_R 4, am_I a1, am_J a2, am_I a3] S (some (am_I x)) S2 := by
  refine am_enter ym_X6_add (Nat.le_of_ble_eq_true rfl) ?_
  intro p e s m args below meth c C hr hlocks
  refine av_eq (lv2 := [(0, am_R 4), (1, am_I a1), (2, am_J a2), (4, am_I a3)]) rfl rfl rfl rfl ?_
  unfold sf_X6_add at hs
  refine av_aload_n (pc := 0) (j := 0) C dX6_add_0 rfl rfl ?_
  refine av_getR (pc := 1) (k := 0) (r := 25) C fl_X6_14 sk_4 rfl dX6_add_1 ?_
  refine av_aload_n (pc := 4) (j := 0) C dX6_add_4 rfl rfl ?_
  refine av_getI (pc := 5) (k := 3) (n := 259) C fl_X6_26 sk_4 rfl rfl dX6_add_5 ?_
  refine av_iload_n (pc := 8) (j := 1) C dX6_add_8 rfl rfl ?_
  refine av_i2l (pc := 9) C dX6_add_9 ?_
  obtain ⟨S1, hc2, hs⟩ := am_b1_of hs
  refine av_eq (st2 := [am_J a1, am_I (S.1 259), am_R 25]) rfl rfl rfl rfl (av_callV (pc := 10) (as := [am_I (S.1 259), am_J a1]) (rest := []) C (ct_X4_put l G 25 58 32 sk_25 sk_58 rfl (S.1 259) a1 S S1 hc2) ym_X4_put si_X6_33 im_X4_put se_X4_put sk_25 rfl ⟨Nat.le_of_ble_eq_true rfl, Nat.le_of_ble_eq_true rfl⟩ rfl rfl (Nat.le_of_ble_eq_true rfl) dX6_add_10 ⟨Nat.le_refl _, Nat.le_refl _⟩ (fun hrv => av_eq (st2 := []) rfl rfl rfl rfl ?_))
  refine av_aload_n (pc := 13) (j := 0) C dX6_add_13 rfl rfl ?_
  refine av_getR (pc := 14) (k := 1) (r := 26) C fl_X6_20 sk_4 rfl dX6_add_14 ?_
  refine av_aload_n (pc := 17) (j := 0) C dX6_add_17 rfl rfl ?_
  refine av_getI (pc := 18) (k := 3) (n := 259) C fl_X6_26 sk_4 rfl rfl dX6_add_18 ?_
  refine av_lload_n (pc := 21) (j := 2) C dX6_add_21 rfl rfl ?_
  obtain ⟨S3, hc4, hs⟩ := am_b1_of hs
  refine av_eq (st2 := [am_J a2, am_I (S1.1 259), am_R 26]) rfl rfl rfl rfl (av_callV (pc := 22) (as := [am_I (S1.1 259), am_J a2]) (rest := []) C (ct_X4_put l G 26 59 32 sk_26 sk_59 rfl (S1.1 259) a2 S1 S3 hc4) ym_X4_put si_X6_33 im_X4_put se_X4_put sk_26 rfl ⟨Nat.le_of_ble_eq_true rfl, Nat.le_of_ble_eq_true rfl⟩ rfl rfl (Nat.le_of_ble_eq_true rfl) dX6_add_22 ⟨Nat.le_refl _, Nat.le_refl _⟩ (fun hrv => av_eq (st2 := []) rfl rfl rfl rfl ?_))
  refine av_aload_n (pc := 25) (j := 0) C dX6_add_25 rfl rfl ?_
  refine av_getR (pc := 26) (k := 2) (r := 27) C fl_X6_23 sk_4 rfl dX6_add_26 ?_
  refine av_aload_n (pc := 29) (j := 0) C dX6_add_29 rfl rfl ?_
  refine av_getI (pc := 30) (k := 3) (n := 259) C fl_X6_26 sk_4 rfl rfl dX6_add_30 ?_
  refine av_aload_n (pc := 33) (j := 0) C dX6_add_33 rfl rfl ?_
  refine av_getI (pc := 34) (k := 4) (n := 260) C fl_X6_30 sk_4 rfl rfl dX6_add_34 ?_
  refine av_iload (pc := 37) (j := 3) C dX6_add_37 rfl ?_
  refine av_iadd (pc := 39) C dX6_add_39 ?_
  refine av_i2l (pc := 40) C dX6_add_40 ?_
  obtain ⟨S5, hc6, hs⟩ := am_b1_of hs
  refine av_eq (st2 := [am_J (am_w32 ((S3.1 260) + a3)), am_I (S3.1 259), am_R 27]) rfl rfl rfl rfl (av_callV (pc := 41) (as := [am_I (S3.1 259), am_J (am_w32 ((S3.1 260) + a3))]) (rest := []) C (ct_X4_put l G 27 60 32 sk_27 sk_60 rfl (S3.1 259) (am_w32 ((S3.1 260) + a3)) S3 S5 hc6) ym_X4_put si_X6_33 im_X4_put se_X4_put sk_27 rfl ⟨Nat.le_of_ble_eq_true rfl, Nat.le_of_ble_eq_true rfl⟩ rfl rfl (Nat.le_of_ble_eq_true rfl) dX6_add_41 ⟨Nat.le_refl _, Nat.le_refl _⟩ (fun hrv => av_eq (st2 := []) rfl rfl rfl rfl ?_))
  refine av_aload_n (pc := 44) (j := 0) C dX6_add_44 rfl rfl ?_
  refine av_dup (pc := 45) C dX6_add_45 rfl ?_
  refine av_getI (pc := 46) (k := 3) (n := 259) C fl_X6_26 sk_4 rfl rfl dX6_add_46 ?_
  refine av_iconst (pc := 49) C dX6_add_49 rfl ?_
  refine av_iadd (pc := 50) C dX6_add_50 ?_
  obtain ⟨S7, eS7, hs⟩ := am_let_of hs
  refine av_putI (pc := 51) (k := 3) (n := 259) C fp_X6_26 sk_4 rfl rfl dX6_add_51 ?_
  refine av_eq rfl rfl rfl eS7 ?_
  refine av_aload_n (pc := 54) (j := 0) C dX6_add_54 rfl rfl ?_
  refine av_getI (pc := 55) (k := 3) (n := 259) C fl_X6_26 sk_4 rfl rfl dX6_add_55 ?_
  obtain ⟨rfl, rfl⟩ := am_inj2 hs
  exact av_iret C hr hlocks dX6_add_58
def sf_X5_doStep (a1 : Int) (a2 : Int) (S : am_S) : Option (Int × am_S) := (am_b2 (sf_X4_at 67 101 a1 S) (fun x2 S1 => (am_b2 (sf_X0_kindOf x2 a2 S1) (fun x5 S4 => (am_b2 (sf_X4_at 67 101 a1 S4) (fun x8 S7 => (am_b2 (sf_X0_valueOf x8 a2 S7) (fun x11 S10 => (am_b2 (sf_X8_numberOf x11 S10) (fun x14 S13 => (am_b2 (sf_X4_valueAt 69 101 a1 S13) (fun x17 S16 => (am_let (am_sI S16 461 (am_w32 ((S16.1 461) + 1))) (fun S19 => (am_b2 (sf_X5_faultOf a1 x5 x11 S19) (fun x21 S20 => (if x21 = 0 then (if x5 = 0 then (am_b1 (sf_X2_add x11 S20) (fun S24 => (some (0, S24)))) else (if x5 = 1 then (am_b1 (sf_X2_add x17 S20) (fun S26 => (some (0, S26)))) else (if x5 = 2 then (am_b1 (sf_X4_put 69 101 a1 x11 S20) (fun S28 => (some (0, S28)))) else (if x5 = 3 then (some (1, S20)) else (if x5 = 4 then (some (2, S20)) else (if x5 = 5 then (some (3, S20)) else (if x5 = 8 then (am_b2 (sf_X5_begin x14 x17 S20) (fun x31 S30 => (am_b2 (sf_X8_of 1 x31 S30) (fun x34 S33 => (am_b1 (sf_X4_put 69 101 a1 x34 S33) (fun S36 => (some (0, S36)))))))) else (if x5 = 9 then (am_b1 (sf_X3_settleBy x14 1 x17 0 S20) (fun S38 => (some (0, S38)))) else (if x5 = 10 then (am_b1 (sf_X3_settleBy x14 2 x17 0 S20) (fun S40 => (some (0, S40)))) else (if x5 = 11 then (am_b2 (sf_X8_numberOf x17 S20) (fun x43 S42 => (am_b2 (sf_X5_addHandlers x43 x14 (-1) S42) (fun x46 S45 => (am_b2 (sf_X8_of 1 x46 S45) (fun x49 S48 => (am_b1 (sf_X4_put 69 101 a1 x49 S48) (fun S51 => (some (0, S51)))))))))) else (if x5 = 12 then (am_b2 (sf_X6_add x14 x17 5 S20) (fun x54 S53 => (some (0, S53)))) else (if x5 = 13 then (am_b1 (sf_X5_jumpIfZero a1 x14 S20) (fun S56 => (some (0, S56)))) else (if x5 = 14 then (am_b1 (sf_X5_jumpIfAbove a1 x14 S20) (fun S58 => (some (0, S58)))) else (some (0, S20))))))))))))))) else (am_b2 (sf_X8_of 0 x21 S20) (fun x61 S60 => (am_b1 (sf_X4_put 69 101 a1 x61 S60) (fun S63 => (some (2, S63)))))))))))))))))))))))
set_option maxHeartbeats 4000000 in
set_option maxRecDepth 100000 in
theorem ct_X5_doStep (l : Launch) (G : am_G) (a1 : Int) (a2 : Int) (S : am_S) (x : Int) (S2 : am_S) (hs : sf_X5_doStep a1 a2 S = some (x, S2)) : am_met l yX5_doStep cX5_doStep 10 (some .int) 4 93 G [am_R 7, am_I a1, am_I a2] S (some (am_I x)) S2 := by
  refine am_enter ym_X5_doStep (Nat.le_of_ble_eq_true rfl) ?_
  intro p e s m args below meth c C hr hlocks
  refine av_eq (lv2 := [(0, am_R 7), (1, am_I a1), (2, am_I a2)]) rfl rfl rfl rfl ?_
  unfold sf_X5_doStep at hs
  refine av_aload_n (pc := 0) (j := 0) C dX5_doStep_0 rfl rfl ?_
  refine av_getR (pc := 1) (k := 0) (r := 3) C fl_X5_48 sk_7 rfl dX5_doStep_1 ?_
  refine av_aload_n (pc := 4) (j := 0) C dX5_doStep_4 rfl rfl ?_
  refine av_getR (pc := 5) (k := 4) (r := 34) C fl_X5_14 sk_7 rfl dX5_doStep_5 ?_
  refine av_iload_n (pc := 8) (j := 1) C dX5_doStep_8 rfl rfl ?_
  obtain ⟨x2, S1, hc3, hs⟩ := am_b2_of hs
  refine av_eq (st2 := [am_I a1, am_R 34, am_R 3]) rfl rfl rfl rfl (av_callV (pc := 9) (as := [am_I a1]) (rest := [am_R 3]) C (ct_X4_at l G 34 67 101 sk_34 sk_67 rfl a1 S x2 S1 hc3) ym_X4_at si_X5_68 im_X4_at se_X4_at sk_34 rfl ⟨Nat.le_of_ble_eq_true rfl, Nat.le_of_ble_eq_true rfl⟩ rfl rfl (Nat.le_of_ble_eq_true rfl) dX5_doStep_9 ⟨Nat.le_refl _, Nat.le_refl _⟩ (fun hrv => av_eq (st2 := [am_I x2, am_R 3]) rfl rfl rfl rfl ?_))
  refine av_iload_n (pc := 12) (j := 2) C dX5_doStep_12 rfl rfl ?_
  obtain ⟨x5, S4, hc6, hs⟩ := am_b2_of hs
  refine av_eq (st2 := [am_I a2, am_I x2, am_R 3]) rfl rfl rfl rfl (av_callV (pc := 13) (as := [am_I x2, am_I a2]) (rest := []) C (ct_X0_kindOf l G x2 a2 S1 x5 S4 hc6) ym_X0_kindOf si_X5_126 im_X0_kindOf se_X0_kindOf sk_3 rfl ⟨Nat.le_of_ble_eq_true rfl, Nat.le_of_ble_eq_true rfl⟩ rfl rfl (Nat.le_of_ble_eq_true rfl) dX5_doStep_13 ⟨Nat.le_refl _, Nat.le_refl _⟩ (fun hrv => av_eq (st2 := [am_I x5]) rfl rfl rfl rfl ?_))
  refine av_istore_n (pc := 16) (i := 3) (lv2 := [(3, am_I x5), (0, am_R 7), (1, am_I a1), (2, am_I a2)]) C dX5_doStep_16 rfl (by decide) rfl ?_
  refine av_aload_n (pc := 17) (j := 1) C dX5_doStep_17 rfl rfl ?_
  refine av_getR (pc := 18) (k := 0) (r := 3) C fl_X5_48 sk_7 rfl dX5_doStep_18 ?_
  refine av_aload_n (pc := 21) (j := 1) C dX5_doStep_21 rfl rfl ?_
  refine av_getR (pc := 22) (k := 4) (r := 34) C fl_X5_14 sk_7 rfl dX5_doStep_22 ?_
  refine av_iload_n (pc := 25) (j := 2) C dX5_doStep_25 rfl rfl ?_
  obtain ⟨x8, S7, hc9, hs⟩ := am_b2_of hs
  refine av_eq (st2 := [am_I a1, am_R 34, am_R 3]) rfl rfl rfl rfl (av_callV (pc := 26) (as := [am_I a1]) (rest := [am_R 3]) C (ct_X4_at l G 34 67 101 sk_34 sk_67 rfl a1 S4 x8 S7 hc9) ym_X4_at si_X5_68 im_X4_at se_X4_at sk_34 rfl ⟨Nat.le_of_ble_eq_true rfl, Nat.le_of_ble_eq_true rfl⟩ rfl rfl (Nat.le_of_ble_eq_true rfl) dX5_doStep_26 ⟨Nat.le_refl _, Nat.le_refl _⟩ (fun hrv => av_eq (st2 := [am_I x8, am_R 3]) rfl rfl rfl rfl ?_))
  refine av_iload_n (pc := 29) (j := 3) C dX5_doStep_29 rfl rfl ?_
  obtain ⟨x11, S10, hc12, hs⟩ := am_b2_of hs
  refine av_eq (st2 := [am_I a2, am_I x8, am_R 3]) rfl rfl rfl rfl (av_callV (pc := 30) (as := [am_I x8, am_I a2]) (rest := []) C (ct_X0_valueOf l G x8 a2 S7 x11 S10 hc12) ym_X0_valueOf si_X5_129 im_X0_valueOf se_X0_valueOf sk_3 rfl ⟨Nat.le_of_ble_eq_true rfl, Nat.le_of_ble_eq_true rfl⟩ rfl rfl (Nat.le_of_ble_eq_true rfl) dX5_doStep_30 ⟨Nat.le_refl _, Nat.le_refl _⟩ (fun hrv => av_eq (st2 := [am_J x11]) rfl rfl rfl rfl ?_))
  refine av_lstore (pc := 33) (i := 4) (lv2 := [(4, am_J x11), (3, am_I x5), (0, am_R 7), (1, am_I a1), (2, am_I a2)]) C dX5_doStep_33 (by decide) rfl ?_
  refine av_lload (pc := 35) (j := 0) C dX5_doStep_35 rfl ?_
  obtain ⟨x14, S13, hc15, hs⟩ := am_b2_of hs
  refine av_eq (st2 := [am_J x11]) rfl rfl rfl rfl (av_callS (pc := 37) (as := [am_J x11]) (rest := []) C (ct_X8_numberOf l G x11 S10 x14 S13 hc15) ym_X8_numberOf si_X5_133 st_X8_numberOf ⟨Nat.le_of_ble_eq_true rfl, Nat.le_of_ble_eq_true rfl⟩ rfl rfl (Nat.le_of_ble_eq_true rfl) dX5_doStep_37 ⟨Nat.le_refl _, Nat.le_refl _⟩ (fun hrv => av_eq (st2 := [am_I x14]) rfl rfl rfl rfl ?_))
  refine av_istore (pc := 40) (i := 6) (lv2 := [(6, am_I x14), (4, am_J x11), (3, am_I x5), (0, am_R 7), (1, am_I a1), (2, am_I a2)]) C dX5_doStep_40 (by decide) rfl ?_
  refine av_aload_n (pc := 42) (j := 3) C dX5_doStep_42 rfl rfl ?_
  refine av_getR (pc := 43) (k := 6) (r := 36) C fl_X5_23 sk_7 rfl dX5_doStep_43 ?_
  refine av_iload_n (pc := 46) (j := 4) C dX5_doStep_46 rfl rfl ?_
  obtain ⟨x17, S16, hc18, hs⟩ := am_b2_of hs
  refine av_eq (st2 := [am_I a1, am_R 36]) rfl rfl rfl rfl (av_callV (pc := 47) (as := [am_I a1]) (rest := []) C (ct_X4_valueAt l G 36 69 101 sk_36 sk_69 rfl a1 S13 x17 S16 hc18) ym_X4_valueAt si_X5_139 im_X4_valueAt se_X4_valueAt sk_36 rfl ⟨Nat.le_of_ble_eq_true rfl, Nat.le_of_ble_eq_true rfl⟩ rfl rfl (Nat.le_of_ble_eq_true rfl) dX5_doStep_47 ⟨Nat.le_refl _, Nat.le_refl _⟩ (fun hrv => av_eq (st2 := [am_J x17]) rfl rfl rfl rfl ?_))
  refine av_lstore (pc := 50) (i := 7) (lv2 := [(7, am_J x17), (6, am_I x14), (4, am_J x11), (3, am_I x5), (0, am_R 7), (1, am_I a1), (2, am_I a2)]) C dX5_doStep_50 (by decide) rfl ?_
  refine av_aload_n (pc := 52) (j := 4) C dX5_doStep_52 rfl rfl ?_
  refine av_dup (pc := 53) C dX5_doStep_53 rfl ?_
  refine av_getI (pc := 54) (k := 13) (n := 461) C fl_X5_45 sk_7 rfl rfl dX5_doStep_54 ?_
  refine av_iconst (pc := 57) C dX5_doStep_57 rfl ?_
  refine av_iadd (pc := 58) C dX5_doStep_58 ?_
  obtain ⟨S19, eS19, hs⟩ := am_let_of hs
  refine av_putI (pc := 59) (k := 13) (n := 461) C fp_X5_45 sk_7 rfl rfl dX5_doStep_59 ?_
  refine av_eq rfl rfl rfl eS19 ?_
  refine av_aload_n (pc := 62) (j := 4) C dX5_doStep_62 rfl rfl ?_
  refine av_iload_n (pc := 63) (j := 5) C dX5_doStep_63 rfl rfl ?_
  refine av_iload_n (pc := 64) (j := 3) C dX5_doStep_64 rfl rfl ?_
  refine av_lload (pc := 65) (j := 2) C dX5_doStep_65 rfl ?_
  obtain ⟨x21, S20, hc22, hs⟩ := am_b2_of hs
  refine av_eq (st2 := [am_J x11, am_I x5, am_I a1, am_R 7]) rfl rfl rfl rfl (av_callV (pc := 67) (as := [am_I a1, am_I x5, am_J x11]) (rest := []) C (ct_X5_faultOf l G a1 x5 x11 S19 x21 S20 hc22) ym_X5_faultOf si_X5_143 im_X5_faultOf se_X5_faultOf sk_7 rfl ⟨Nat.le_of_ble_eq_true rfl, Nat.le_of_ble_eq_true rfl⟩ rfl rfl (Nat.le_of_ble_eq_true rfl) dX5_doStep_67 ⟨Nat.le_refl _, Nat.le_refl _⟩ (fun hrv => av_eq (st2 := [am_I x21]) rfl rfl rfl rfl ?_))
  refine av_istore (pc := 70) (i := 9) (lv2 := [(9, am_I x21), (7, am_J x17), (6, am_I x14), (4, am_J x11), (3, am_I x5), (0, am_R 7), (1, am_I a1), (2, am_I a2)]) C dX5_doStep_70 (by decide) rfl ?_
  refine av_iload (pc := 72) (j := 0) C dX5_doStep_72 rfl ?_
  refine av_if_eq (pc := 74) (tgt := 93) C dX5_doStep_74 (by decide) (fun hc => ?_) (fun hc => ?_)
  · rw [if_pos hc] at hs
    refine av_iload_n (pc := 93) (j := 4) C dX5_doStep_93 rfl rfl ?_
    have hdef23 : (hs : (some (0, S20)) = some (x, S2)) → am_V p l e (am_rm 4 93) s m args below meth c (MQ below (am_Q G (some (am_I x)) S2) args s 0 0 (am_A G)) G (am_A G) s.heap 10 0 0 329 [(9, am_I x21), (7, am_J x17), (6, am_I x14), (4, am_J x11), (3, am_I x5), (0, am_R 7), (1, am_I a1), (2, am_I a2)] [] S20 := by
      intro hs
      refine av_iconst (pc := 329) C dX5_doStep_329 rfl ?_
      obtain ⟨rfl, rfl⟩ := am_inj2 hs
      exact av_iret C hr hlocks dX5_doStep_330
    by_cases hk0 : x5 = 0
    · rw [if_pos hk0] at hs
      refine av_swi (pc := 94) (k := 0) (tgt := 168) C dX5_doStep_94 (by rw [hk0]; rfl) (by decide) rfl (by decide) ?_
      refine av_aload_n (pc := 168) (j := 5) C dX5_doStep_168 rfl rfl ?_
      refine av_getR (pc := 169) (k := 3) (r := 5) C fl_X5_60 sk_7 rfl dX5_doStep_169 ?_
      refine av_lload (pc := 172) (j := 3) C dX5_doStep_172 rfl ?_
      obtain ⟨S24, hc25, hs⟩ := am_b1_of hs
      refine av_eq (st2 := [am_J x11, am_R 5]) rfl rfl rfl rfl (av_callV (pc := 174) (as := [am_J x11]) (rest := []) C (ct_X2_add l G x11 S20 S24 hc25) ym_X2_add si_X5_150 im_X2_add se_X2_add sk_5 rfl ⟨Nat.le_of_ble_eq_true rfl, Nat.le_of_ble_eq_true rfl⟩ rfl rfl (Nat.le_of_ble_eq_true rfl) dX5_doStep_174 ⟨Nat.le_refl _, Nat.le_refl _⟩ (fun hrv => av_eq (st2 := []) rfl rfl rfl rfl ?_))
      refine av_goto (pc := 177) (tgt := 329) C dX5_doStep_177 (by decide) ?_
      refine av_iconst (pc := 329) C dX5_doStep_329 rfl ?_
      obtain ⟨rfl, rfl⟩ := am_inj2 hs
      exact av_iret C hr hlocks dX5_doStep_330
    · rw [if_neg hk0] at hs
      by_cases hk1 : x5 = 1
      · rw [if_pos hk1] at hs
        refine av_swi (pc := 94) (k := 1) (tgt := 180) C dX5_doStep_94 (by rw [hk1]; rfl) (by decide) rfl (by decide) ?_
        refine av_aload_n (pc := 180) (j := 5) C dX5_doStep_180 rfl rfl ?_
        refine av_getR (pc := 181) (k := 3) (r := 5) C fl_X5_60 sk_7 rfl dX5_doStep_181 ?_
        refine av_lload (pc := 184) (j := 1) C dX5_doStep_184 rfl ?_
        obtain ⟨S26, hc27, hs⟩ := am_b1_of hs
        refine av_eq (st2 := [am_J x17, am_R 5]) rfl rfl rfl rfl (av_callV (pc := 186) (as := [am_J x17]) (rest := []) C (ct_X2_add l G x17 S20 S26 hc27) ym_X2_add si_X5_150 im_X2_add se_X2_add sk_5 rfl ⟨Nat.le_of_ble_eq_true rfl, Nat.le_of_ble_eq_true rfl⟩ rfl rfl (Nat.le_of_ble_eq_true rfl) dX5_doStep_186 ⟨Nat.le_refl _, Nat.le_refl _⟩ (fun hrv => av_eq (st2 := []) rfl rfl rfl rfl ?_))
        refine av_goto (pc := 189) (tgt := 329) C dX5_doStep_189 (by decide) ?_
        refine av_iconst (pc := 329) C dX5_doStep_329 rfl ?_
        obtain ⟨rfl, rfl⟩ := am_inj2 hs
        exact av_iret C hr hlocks dX5_doStep_330
      · rw [if_neg hk1] at hs
        by_cases hk2 : x5 = 2
        · rw [if_pos hk2] at hs
          refine av_swi (pc := 94) (k := 2) (tgt := 192) C dX5_doStep_94 (by rw [hk2]; rfl) (by decide) rfl (by decide) ?_
          refine av_aload_n (pc := 192) (j := 5) C dX5_doStep_192 rfl rfl ?_
          refine av_getR (pc := 193) (k := 6) (r := 36) C fl_X5_23 sk_7 rfl dX5_doStep_193 ?_
          refine av_iload_n (pc := 196) (j := 6) C dX5_doStep_196 rfl rfl ?_
          refine av_lload (pc := 197) (j := 3) C dX5_doStep_197 rfl ?_
          obtain ⟨S28, hc29, hs⟩ := am_b1_of hs
          refine av_eq (st2 := [am_J x11, am_I a1, am_R 36]) rfl rfl rfl rfl (av_callV (pc := 199) (as := [am_I a1, am_J x11]) (rest := []) C (ct_X4_put l G 36 69 101 sk_36 sk_69 rfl a1 x11 S20 S28 hc29) ym_X4_put si_X5_78 im_X4_put se_X4_put sk_36 rfl ⟨Nat.le_of_ble_eq_true rfl, Nat.le_of_ble_eq_true rfl⟩ rfl rfl (Nat.le_of_ble_eq_true rfl) dX5_doStep_199 ⟨Nat.le_refl _, Nat.le_refl _⟩ (fun hrv => av_eq (st2 := []) rfl rfl rfl rfl ?_))
          refine av_goto (pc := 202) (tgt := 329) C dX5_doStep_202 (by decide) ?_
          refine av_iconst (pc := 329) C dX5_doStep_329 rfl ?_
          obtain ⟨rfl, rfl⟩ := am_inj2 hs
          exact av_iret C hr hlocks dX5_doStep_330
        · rw [if_neg hk2] at hs
          by_cases hk3 : x5 = 3
          · rw [if_pos hk3] at hs
            refine av_swi (pc := 94) (k := 3) (tgt := 205) C dX5_doStep_94 (by rw [hk3]; rfl) (by decide) rfl (by decide) ?_
            refine av_iconst (pc := 205) C dX5_doStep_205 rfl ?_
            obtain ⟨rfl, rfl⟩ := am_inj2 hs
            exact av_iret C hr hlocks dX5_doStep_206
          · rw [if_neg hk3] at hs
            by_cases hk4 : x5 = 4
            · rw [if_pos hk4] at hs
              refine av_swi (pc := 94) (k := 4) (tgt := 207) C dX5_doStep_94 (by rw [hk4]; rfl) (by decide) rfl (by decide) ?_
              refine av_iconst (pc := 207) C dX5_doStep_207 rfl ?_
              obtain ⟨rfl, rfl⟩ := am_inj2 hs
              exact av_iret C hr hlocks dX5_doStep_208
            · rw [if_neg hk4] at hs
              by_cases hk5 : x5 = 5
              · rw [if_pos hk5] at hs
                refine av_swi (pc := 94) (k := 5) (tgt := 209) C dX5_doStep_94 (by rw [hk5]; rfl) (by decide) rfl (by decide) ?_
                refine av_iconst (pc := 209) C dX5_doStep_209 rfl ?_
                obtain ⟨rfl, rfl⟩ := am_inj2 hs
                exact av_iret C hr hlocks dX5_doStep_210
              · rw [if_neg hk5] at hs
                by_cases hk6 : x5 = 6
                · refine av_swi (pc := 94) (k := 6) (tgt := 329) C dX5_doStep_94 (by rw [hk6]; rfl) (by decide) rfl (by decide) ?_
                  rw [if_neg (show ¬ x5 = 8 by omega)] at hs
                  rw [if_neg (show ¬ x5 = 9 by omega)] at hs
                  rw [if_neg (show ¬ x5 = 10 by omega)] at hs
                  rw [if_neg (show ¬ x5 = 11 by omega)] at hs
                  rw [if_neg (show ¬ x5 = 12 by omega)] at hs
                  rw [if_neg (show ¬ x5 = 13 by omega)] at hs
                  rw [if_neg (show ¬ x5 = 14 by omega)] at hs
                  exact hdef23 hs
                · skip
                  by_cases hk7 : x5 = 7
                  · refine av_swi (pc := 94) (k := 7) (tgt := 329) C dX5_doStep_94 (by rw [hk7]; rfl) (by decide) rfl (by decide) ?_
                    rw [if_neg (show ¬ x5 = 8 by omega)] at hs
                    rw [if_neg (show ¬ x5 = 9 by omega)] at hs
                    rw [if_neg (show ¬ x5 = 10 by omega)] at hs
                    rw [if_neg (show ¬ x5 = 11 by omega)] at hs
                    rw [if_neg (show ¬ x5 = 12 by omega)] at hs
                    rw [if_neg (show ¬ x5 = 13 by omega)] at hs
                    rw [if_neg (show ¬ x5 = 14 by omega)] at hs
                    exact hdef23 hs
                  · skip
                    by_cases hk8 : x5 = 8
                    · rw [if_pos hk8] at hs
                      refine av_swi (pc := 94) (k := 8) (tgt := 211) C dX5_doStep_94 (by rw [hk8]; rfl) (by decide) rfl (by decide) ?_
                      refine av_aload_n (pc := 211) (j := 5) C dX5_doStep_211 rfl rfl ?_
                      refine av_getR (pc := 212) (k := 6) (r := 36) C fl_X5_23 sk_7 rfl dX5_doStep_212 ?_
                      refine av_iload_n (pc := 215) (j := 6) C dX5_doStep_215 rfl rfl ?_
                      refine av_iconst (pc := 216) C dX5_doStep_216 rfl ?_
                      refine av_aload_n (pc := 217) (j := 5) C dX5_doStep_217 rfl rfl ?_
                      refine av_iload (pc := 218) (j := 2) C dX5_doStep_218 rfl ?_
                      refine av_lload (pc := 220) (j := 1) C dX5_doStep_220 rfl ?_
                      obtain ⟨x31, S30, hc32, hs⟩ := am_b2_of hs
                      refine av_eq (st2 := [am_J x17, am_I x14, am_R 7, am_I 1, am_I a1, am_R 36]) rfl rfl rfl rfl (av_callV (pc := 222) (as := [am_I x14, am_J x17]) (rest := [am_I 1, am_I a1, am_R 36]) C (ct_X5_begin l G x14 x17 S20 x31 S30 hc32) ym_X5_begin si_X5_155 im_X5_begin se_X5_begin sk_7 rfl ⟨Nat.le_of_ble_eq_true rfl, Nat.le_of_ble_eq_true rfl⟩ rfl rfl (Nat.le_of_ble_eq_true rfl) dX5_doStep_222 ⟨Nat.le_refl _, Nat.le_refl _⟩ (fun hrv => av_eq (st2 := [am_I x31, am_I 1, am_I a1, am_R 36]) rfl rfl rfl rfl ?_))
                      obtain ⟨x34, S33, hc35, hs⟩ := am_b2_of hs
                      refine av_eq (st2 := [am_I x31, am_I 1, am_I a1, am_R 36]) rfl rfl rfl rfl (av_callS (pc := 225) (as := [am_I 1, am_I x31]) (rest := [am_I a1, am_R 36]) C (ct_X8_of l G 1 x31 S30 x34 S33 hc35) ym_X8_of si_X5_147 st_X8_of ⟨Nat.le_of_ble_eq_true rfl, Nat.le_of_ble_eq_true rfl⟩ rfl rfl (Nat.le_of_ble_eq_true rfl) dX5_doStep_225 ⟨Nat.le_refl _, Nat.le_refl _⟩ (fun hrv => av_eq (st2 := [am_J x34, am_I a1, am_R 36]) rfl rfl rfl rfl ?_))
                      obtain ⟨S36, hc37, hs⟩ := am_b1_of hs
                      refine av_eq (st2 := [am_J x34, am_I a1, am_R 36]) rfl rfl rfl rfl (av_callV (pc := 228) (as := [am_I a1, am_J x34]) (rest := []) C (ct_X4_put l G 36 69 101 sk_36 sk_69 rfl a1 x34 S33 S36 hc37) ym_X4_put si_X5_78 im_X4_put se_X4_put sk_36 rfl ⟨Nat.le_of_ble_eq_true rfl, Nat.le_of_ble_eq_true rfl⟩ rfl rfl (Nat.le_of_ble_eq_true rfl) dX5_doStep_228 ⟨Nat.le_refl _, Nat.le_refl _⟩ (fun hrv => av_eq (st2 := []) rfl rfl rfl rfl ?_))
                      refine av_goto (pc := 231) (tgt := 329) C dX5_doStep_231 (by decide) ?_
                      refine av_iconst (pc := 329) C dX5_doStep_329 rfl ?_
                      obtain ⟨rfl, rfl⟩ := am_inj2 hs
                      exact av_iret C hr hlocks dX5_doStep_330
                    · rw [if_neg hk8] at hs
                      by_cases hk9 : x5 = 9
                      · rw [if_pos hk9] at hs
                        refine av_swi (pc := 94) (k := 9) (tgt := 234) C dX5_doStep_94 (by rw [hk9]; rfl) (by decide) rfl (by decide) ?_
                        refine av_aload_n (pc := 234) (j := 5) C dX5_doStep_234 rfl rfl ?_
                        refine av_getR (pc := 235) (k := 1) (r := 1) C fl_X5_52 sk_7 rfl dX5_doStep_235 ?_
                        refine av_iload (pc := 238) (j := 2) C dX5_doStep_238 rfl ?_
                        refine av_iconst (pc := 240) C dX5_doStep_240 rfl ?_
                        refine av_lload (pc := 241) (j := 1) C dX5_doStep_241 rfl ?_
                        refine av_iconst (pc := 243) C dX5_doStep_243 rfl ?_
                        obtain ⟨S38, hc39, hs⟩ := am_b1_of hs
                        refine av_eq (st2 := [am_I 0, am_J x17, am_I 1, am_I x14, am_R 1]) rfl rfl rfl rfl (av_callV (pc := 244) (as := [am_I x14, am_I 1, am_J x17, am_I 0]) (rest := []) C (ct_X3_settleBy l G x14 1 x17 0 S20 S38 hc39) ym_X3_settleBy si_X5_90 im_X3_settleBy se_X3_settleBy sk_1 rfl ⟨Nat.le_of_ble_eq_true rfl, Nat.le_of_ble_eq_true rfl⟩ rfl rfl (Nat.le_of_ble_eq_true rfl) dX5_doStep_244 ⟨Nat.le_refl _, Nat.le_refl _⟩ (fun hrv => av_eq (st2 := []) rfl rfl rfl rfl ?_))
                        refine av_goto (pc := 247) (tgt := 329) C dX5_doStep_247 (by decide) ?_
                        refine av_iconst (pc := 329) C dX5_doStep_329 rfl ?_
                        obtain ⟨rfl, rfl⟩ := am_inj2 hs
                        exact av_iret C hr hlocks dX5_doStep_330
                      · rw [if_neg hk9] at hs
                        by_cases hk10 : x5 = 10
                        · rw [if_pos hk10] at hs
                          refine av_swi (pc := 94) (k := 10) (tgt := 250) C dX5_doStep_94 (by rw [hk10]; rfl) (by decide) rfl (by decide) ?_
                          refine av_aload_n (pc := 250) (j := 5) C dX5_doStep_250 rfl rfl ?_
                          refine av_getR (pc := 251) (k := 1) (r := 1) C fl_X5_52 sk_7 rfl dX5_doStep_251 ?_
                          refine av_iload (pc := 254) (j := 2) C dX5_doStep_254 rfl ?_
                          refine av_iconst (pc := 256) C dX5_doStep_256 rfl ?_
                          refine av_lload (pc := 257) (j := 1) C dX5_doStep_257 rfl ?_
                          refine av_iconst (pc := 259) C dX5_doStep_259 rfl ?_
                          obtain ⟨S40, hc41, hs⟩ := am_b1_of hs
                          refine av_eq (st2 := [am_I 0, am_J x17, am_I 2, am_I x14, am_R 1]) rfl rfl rfl rfl (av_callV (pc := 260) (as := [am_I x14, am_I 2, am_J x17, am_I 0]) (rest := []) C (ct_X3_settleBy l G x14 2 x17 0 S20 S40 hc41) ym_X3_settleBy si_X5_90 im_X3_settleBy se_X3_settleBy sk_1 rfl ⟨Nat.le_of_ble_eq_true rfl, Nat.le_of_ble_eq_true rfl⟩ rfl rfl (Nat.le_of_ble_eq_true rfl) dX5_doStep_260 ⟨Nat.le_refl _, Nat.le_refl _⟩ (fun hrv => av_eq (st2 := []) rfl rfl rfl rfl ?_))
                          refine av_goto (pc := 263) (tgt := 329) C dX5_doStep_263 (by decide) ?_
                          refine av_iconst (pc := 329) C dX5_doStep_329 rfl ?_
                          obtain ⟨rfl, rfl⟩ := am_inj2 hs
                          exact av_iret C hr hlocks dX5_doStep_330
                        · rw [if_neg hk10] at hs
                          by_cases hk11 : x5 = 11
                          · rw [if_pos hk11] at hs
                            refine av_swi (pc := 94) (k := 11) (tgt := 266) C dX5_doStep_94 (by rw [hk11]; rfl) (by decide) rfl (by decide) ?_
                            refine av_aload_n (pc := 266) (j := 5) C dX5_doStep_266 rfl rfl ?_
                            refine av_getR (pc := 267) (k := 6) (r := 36) C fl_X5_23 sk_7 rfl dX5_doStep_267 ?_
                            refine av_iload_n (pc := 270) (j := 6) C dX5_doStep_270 rfl rfl ?_
                            refine av_iconst (pc := 271) C dX5_doStep_271 rfl ?_
                            refine av_aload_n (pc := 272) (j := 5) C dX5_doStep_272 rfl rfl ?_
                            refine av_lload (pc := 273) (j := 1) C dX5_doStep_273 rfl ?_
                            obtain ⟨x43, S42, hc44, hs⟩ := am_b2_of hs
                            refine av_eq (st2 := [am_J x17, am_R 7, am_I 1, am_I a1, am_R 36]) rfl rfl rfl rfl (av_callS (pc := 275) (as := [am_J x17]) (rest := [am_R 7, am_I 1, am_I a1, am_R 36]) C (ct_X8_numberOf l G x17 S20 x43 S42 hc44) ym_X8_numberOf si_X5_133 st_X8_numberOf ⟨Nat.le_of_ble_eq_true rfl, Nat.le_of_ble_eq_true rfl⟩ rfl rfl (Nat.le_of_ble_eq_true rfl) dX5_doStep_275 ⟨Nat.le_refl _, Nat.le_refl _⟩ (fun hrv => av_eq (st2 := [am_I x43, am_R 7, am_I 1, am_I a1, am_R 36]) rfl rfl rfl rfl ?_))
                            refine av_iload (pc := 278) (j := 2) C dX5_doStep_278 rfl ?_
                            refine av_iconst (pc := 280) C dX5_doStep_280 rfl ?_
                            obtain ⟨x46, S45, hc47, hs⟩ := am_b2_of hs
                            refine av_eq (st2 := [am_I (-1), am_I x14, am_I x43, am_R 7, am_I 1, am_I a1, am_R 36]) rfl rfl rfl rfl (av_callV (pc := 281) (as := [am_I x43, am_I x14, am_I (-1)]) (rest := [am_I 1, am_I a1, am_R 36]) C (ct_X5_addHandlers l G x43 x14 (-1) S42 x46 S45 hc47) ym_X5_addHandlers si_X5_159 im_X5_addHandlers se_X5_addHandlers sk_7 rfl ⟨Nat.le_of_ble_eq_true rfl, Nat.le_of_ble_eq_true rfl⟩ rfl rfl (Nat.le_of_ble_eq_true rfl) dX5_doStep_281 ⟨Nat.le_refl _, Nat.le_refl _⟩ (fun hrv => av_eq (st2 := [am_I x46, am_I 1, am_I a1, am_R 36]) rfl rfl rfl rfl ?_))
                            obtain ⟨x49, S48, hc50, hs⟩ := am_b2_of hs
                            refine av_eq (st2 := [am_I x46, am_I 1, am_I a1, am_R 36]) rfl rfl rfl rfl (av_callS (pc := 284) (as := [am_I 1, am_I x46]) (rest := [am_I a1, am_R 36]) C (ct_X8_of l G 1 x46 S45 x49 S48 hc50) ym_X8_of si_X5_147 st_X8_of ⟨Nat.le_of_ble_eq_true rfl, Nat.le_of_ble_eq_true rfl⟩ rfl rfl (Nat.le_of_ble_eq_true rfl) dX5_doStep_284 ⟨Nat.le_refl _, Nat.le_refl _⟩ (fun hrv => av_eq (st2 := [am_J x49, am_I a1, am_R 36]) rfl rfl rfl rfl ?_))
                            obtain ⟨S51, hc52, hs⟩ := am_b1_of hs
                            refine av_eq (st2 := [am_J x49, am_I a1, am_R 36]) rfl rfl rfl rfl (av_callV (pc := 287) (as := [am_I a1, am_J x49]) (rest := []) C (ct_X4_put l G 36 69 101 sk_36 sk_69 rfl a1 x49 S48 S51 hc52) ym_X4_put si_X5_78 im_X4_put se_X4_put sk_36 rfl ⟨Nat.le_of_ble_eq_true rfl, Nat.le_of_ble_eq_true rfl⟩ rfl rfl (Nat.le_of_ble_eq_true rfl) dX5_doStep_287 ⟨Nat.le_refl _, Nat.le_refl _⟩ (fun hrv => av_eq (st2 := []) rfl rfl rfl rfl ?_))
                            refine av_goto (pc := 290) (tgt := 329) C dX5_doStep_290 (by decide) ?_
                            refine av_iconst (pc := 329) C dX5_doStep_329 rfl ?_
                            obtain ⟨rfl, rfl⟩ := am_inj2 hs
                            exact av_iret C hr hlocks dX5_doStep_330
                          · rw [if_neg hk11] at hs
                            by_cases hk12 : x5 = 12
                            · rw [if_pos hk12] at hs
                              refine av_swi (pc := 94) (k := 12) (tgt := 293) C dX5_doStep_94 (by rw [hk12]; rfl) (by decide) rfl (by decide) ?_
                              refine av_aload_n (pc := 293) (j := 5) C dX5_doStep_293 rfl rfl ?_
                              refine av_getR (pc := 294) (k := 2) (r := 4) C fl_X5_56 sk_7 rfl dX5_doStep_294 ?_
                              refine av_iload (pc := 297) (j := 2) C dX5_doStep_297 rfl ?_
                              refine av_lload (pc := 299) (j := 1) C dX5_doStep_299 rfl ?_
                              refine av_iconst (pc := 301) C dX5_doStep_301 rfl ?_
                              obtain ⟨x54, S53, hc55, hs⟩ := am_b2_of hs
                              refine av_eq (st2 := [am_I 5, am_J x17, am_I x14, am_R 4]) rfl rfl rfl rfl (av_callV (pc := 302) (as := [am_I x14, am_J x17, am_I 5]) (rest := []) C (ct_X6_add l G x14 x17 5 S20 x54 S53 hc55) ym_X6_add si_X5_163 im_X6_add se_X6_add sk_4 rfl ⟨Nat.le_of_ble_eq_true rfl, Nat.le_of_ble_eq_true rfl⟩ rfl rfl (Nat.le_of_ble_eq_true rfl) dX5_doStep_302 ⟨Nat.le_refl _, Nat.le_refl _⟩ (fun hrv => av_eq (st2 := [am_I x54]) rfl rfl rfl rfl ?_))
                              refine av_pop (pc := 305) C dX5_doStep_305 rfl ?_
                              refine av_goto (pc := 306) (tgt := 329) C dX5_doStep_306 (by decide) ?_
                              refine av_iconst (pc := 329) C dX5_doStep_329 rfl ?_
                              obtain ⟨rfl, rfl⟩ := am_inj2 hs
                              exact av_iret C hr hlocks dX5_doStep_330
                            · rw [if_neg hk12] at hs
                              by_cases hk13 : x5 = 13
                              · rw [if_pos hk13] at hs
                                refine av_swi (pc := 94) (k := 13) (tgt := 309) C dX5_doStep_94 (by rw [hk13]; rfl) (by decide) rfl (by decide) ?_
                                refine av_aload_n (pc := 309) (j := 5) C dX5_doStep_309 rfl rfl ?_
                                refine av_iload_n (pc := 310) (j := 6) C dX5_doStep_310 rfl rfl ?_
                                refine av_iload (pc := 311) (j := 2) C dX5_doStep_311 rfl ?_
                                obtain ⟨S56, hc57, hs⟩ := am_b1_of hs
                                refine av_eq (st2 := [am_I x14, am_I a1, am_R 7]) rfl rfl rfl rfl (av_callV (pc := 313) (as := [am_I a1, am_I x14]) (rest := []) C (ct_X5_jumpIfZero l G a1 x14 S20 S56 hc57) ym_X5_jumpIfZero si_X5_168 im_X5_jumpIfZero se_X5_jumpIfZero sk_7 rfl ⟨Nat.le_of_ble_eq_true rfl, Nat.le_of_ble_eq_true rfl⟩ rfl rfl (Nat.le_of_ble_eq_true rfl) dX5_doStep_313 ⟨Nat.le_refl _, Nat.le_refl _⟩ (fun hrv => av_eq (st2 := []) rfl rfl rfl rfl ?_))
                                refine av_goto (pc := 316) (tgt := 329) C dX5_doStep_316 (by decide) ?_
                                refine av_iconst (pc := 329) C dX5_doStep_329 rfl ?_
                                obtain ⟨rfl, rfl⟩ := am_inj2 hs
                                exact av_iret C hr hlocks dX5_doStep_330
                              · rw [if_neg hk13] at hs
                                by_cases hk14 : x5 = 14
                                · rw [if_pos hk14] at hs
                                  refine av_swi (pc := 94) (k := 14) (tgt := 319) C dX5_doStep_94 (by rw [hk14]; rfl) (by decide) rfl (by decide) ?_
                                  refine av_aload_n (pc := 319) (j := 5) C dX5_doStep_319 rfl rfl ?_
                                  refine av_iload_n (pc := 320) (j := 6) C dX5_doStep_320 rfl rfl ?_
                                  refine av_iload (pc := 321) (j := 2) C dX5_doStep_321 rfl ?_
                                  obtain ⟨S58, hc59, hs⟩ := am_b1_of hs
                                  refine av_eq (st2 := [am_I x14, am_I a1, am_R 7]) rfl rfl rfl rfl (av_callV (pc := 323) (as := [am_I a1, am_I x14]) (rest := []) C (ct_X5_jumpIfAbove l G a1 x14 S20 S58 hc59) ym_X5_jumpIfAbove si_X5_171 im_X5_jumpIfAbove se_X5_jumpIfAbove sk_7 rfl ⟨Nat.le_of_ble_eq_true rfl, Nat.le_of_ble_eq_true rfl⟩ rfl rfl (Nat.le_of_ble_eq_true rfl) dX5_doStep_323 ⟨Nat.le_refl _, Nat.le_refl _⟩ (fun hrv => av_eq (st2 := []) rfl rfl rfl rfl ?_))
                                  refine av_goto (pc := 326) (tgt := 329) C dX5_doStep_326 (by decide) ?_
                                  refine av_iconst (pc := 329) C dX5_doStep_329 rfl ?_
                                  obtain ⟨rfl, rfl⟩ := am_inj2 hs
                                  exact av_iret C hr hlocks dX5_doStep_330
                                · rw [if_neg hk14] at hs
                                  refine av_swo (pc := 94) (tgt := 329) C dX5_doStep_94 (by omega) (by decide) ?_
                                  exact hdef23 hs
  · rw [if_neg hc] at hs
    refine av_aload_n (pc := 77) (j := 5) C dX5_doStep_77 rfl rfl ?_
    refine av_getR (pc := 78) (k := 6) (r := 36) C fl_X5_23 sk_7 rfl dX5_doStep_78 ?_
    refine av_iload_n (pc := 81) (j := 6) C dX5_doStep_81 rfl rfl ?_
    refine av_iconst (pc := 82) C dX5_doStep_82 rfl ?_
    refine av_iload (pc := 83) (j := 0) C dX5_doStep_83 rfl ?_
    obtain ⟨x61, S60, hc62, hs⟩ := am_b2_of hs
    refine av_eq (st2 := [am_I x21, am_I 0, am_I a1, am_R 36]) rfl rfl rfl rfl (av_callS (pc := 85) (as := [am_I 0, am_I x21]) (rest := [am_I a1, am_R 36]) C (ct_X8_of l G 0 x21 S20 x61 S60 hc62) ym_X8_of si_X5_147 st_X8_of ⟨Nat.le_of_ble_eq_true rfl, Nat.le_of_ble_eq_true rfl⟩ rfl rfl (Nat.le_of_ble_eq_true rfl) dX5_doStep_85 ⟨Nat.le_refl _, Nat.le_refl _⟩ (fun hrv => av_eq (st2 := [am_J x61, am_I a1, am_R 36]) rfl rfl rfl rfl ?_))
    obtain ⟨S63, hc64, hs⟩ := am_b1_of hs
    refine av_eq (st2 := [am_J x61, am_I a1, am_R 36]) rfl rfl rfl rfl (av_callV (pc := 88) (as := [am_I a1, am_J x61]) (rest := []) C (ct_X4_put l G 36 69 101 sk_36 sk_69 rfl a1 x61 S60 S63 hc64) ym_X4_put si_X5_78 im_X4_put se_X4_put sk_36 rfl ⟨Nat.le_of_ble_eq_true rfl, Nat.le_of_ble_eq_true rfl⟩ rfl rfl (Nat.le_of_ble_eq_true rfl) dX5_doStep_88 ⟨Nat.le_refl _, Nat.le_refl _⟩ (fun hrv => av_eq (st2 := []) rfl rfl rfl rfl ?_))
    refine av_iconst (pc := 91) C dX5_doStep_91 rfl ?_
    obtain ⟨rfl, rfl⟩ := am_inj2 hs
    exact av_iret C hr hlocks dX5_doStep_92
def sf_X5_giveZero (a1 : Int) (S : am_S) : Option (Int × am_S) := (am_b2 (sf_X8_of 0 0 S) (fun x2 S1 => (am_b1 (sf_X4_put 69 101 a1 x2 S1) (fun S4 => (some (1, S4))))))
set_option maxHeartbeats 4000000 in
set_option maxRecDepth 100000 in
theorem ct_X5_giveZero (l : Launch) (G : am_G) (a1 : Int) (S : am_S) (x : Int) (S2 : am_S) (hs : sf_X5_giveZero a1 S = some (x, S2)) : am_met l yX5_giveZero cX5_giveZero 2 (some .int) 1 23 G [am_R 7, am_I a1] S (some (am_I x)) S2 := by
  refine am_enter ym_X5_giveZero (Nat.le_of_ble_eq_true rfl) ?_
  intro p e s m args below meth c C hr hlocks
  refine av_eq (lv2 := [(0, am_R 7), (1, am_I a1)]) rfl rfl rfl rfl ?_
  unfold sf_X5_giveZero at hs
  refine av_aload_n (pc := 0) (j := 0) C dX5_giveZero_0 rfl rfl ?_
  refine av_getR (pc := 1) (k := 6) (r := 36) C fl_X5_23 sk_7 rfl dX5_giveZero_1 ?_
  refine av_iload_n (pc := 4) (j := 1) C dX5_giveZero_4 rfl rfl ?_
  refine av_iconst (pc := 5) C dX5_giveZero_5 rfl ?_
  refine av_iconst (pc := 6) C dX5_giveZero_6 rfl ?_
  obtain ⟨x2, S1, hc3, hs⟩ := am_b2_of hs
  refine av_eq (st2 := [am_I 0, am_I 0, am_I a1, am_R 36]) rfl rfl rfl rfl (av_callS (pc := 7) (as := [am_I 0, am_I 0]) (rest := [am_I a1, am_R 36]) C (ct_X8_of l G 0 0 S x2 S1 hc3) ym_X8_of si_X5_147 st_X8_of ⟨Nat.le_of_ble_eq_true rfl, Nat.le_of_ble_eq_true rfl⟩ rfl rfl (Nat.le_of_ble_eq_true rfl) dX5_giveZero_7 ⟨Nat.le_refl _, Nat.le_refl _⟩ (fun hrv => av_eq (st2 := [am_J x2, am_I a1, am_R 36]) rfl rfl rfl rfl ?_))
  obtain ⟨S4, hc5, hs⟩ := am_b1_of hs
  refine av_eq (st2 := [am_J x2, am_I a1, am_R 36]) rfl rfl rfl rfl (av_callV (pc := 10) (as := [am_I a1, am_J x2]) (rest := []) C (ct_X4_put l G 36 69 101 sk_36 sk_69 rfl a1 x2 S1 S4 hc5) ym_X4_put si_X5_78 im_X4_put se_X4_put sk_36 rfl ⟨Nat.le_of_ble_eq_true rfl, Nat.le_of_ble_eq_true rfl⟩ rfl rfl (Nat.le_of_ble_eq_true rfl) dX5_giveZero_10 ⟨Nat.le_refl _, Nat.le_refl _⟩ (fun hrv => av_eq (st2 := []) rfl rfl rfl rfl ?_))
  refine av_iconst (pc := 13) C dX5_giveZero_13 rfl ?_
  obtain ⟨rfl, rfl⟩ := am_inj2 hs
  exact av_iret C hr hlocks dX5_giveZero_14
def sf_X5_stop (a1 : Int) (S : am_S) : Option (am_S) := (am_b1 (sf_X4_put 71 100 a1 1 S) (fun S1 => (am_b2 (sf_X4_at 70 101 a1 S1) (fun x4 S3 => (am_let (am_sI S3 459 x4) (fun S6 => (am_b2 (sf_X4_valueAt 69 101 a1 S6) (fun x8 S7 => (am_b2 (sf_X3_promiseFor x8 S7) (fun x11 S10 => (am_b2 (sf_X9_jobOf a1 3 S10) (fun x14 S13 => (am_b1 (sf_X3_waitFor x11 x14 S13) (fun S16 => (some S16)))))))))))))))
set_option maxHeartbeats 4000000 in
set_option maxRecDepth 100000 in
theorem ct_X5_stop (l : Launch) (G : am_G) (a1 : Int) (S : am_S) (S2 : am_S) (hs : sf_X5_stop a1 S = some S2) : am_met l yX5_stop cX5_stop 2 none 4 96 G [am_R 7, am_I a1] S none S2 := by
  refine am_enter ym_X5_stop (Nat.le_of_ble_eq_true rfl) ?_
  intro p e s m args below meth c C hr hlocks
  refine av_eq (lv2 := [(0, am_R 7), (1, am_I a1)]) rfl rfl rfl rfl ?_
  unfold sf_X5_stop at hs
  refine av_aload_n (pc := 0) (j := 0) C dX5_stop_0 rfl rfl ?_
  refine av_getR (pc := 1) (k := 8) (r := 38) C fl_X5_29 sk_7 rfl dX5_stop_1 ?_
  refine av_iload_n (pc := 4) (j := 1) C dX5_stop_4 rfl rfl ?_
  refine av_lconst (pc := 5) (x := 1) C dX5_stop_5 rfl rfl ?_
  obtain ⟨S1, hc2, hs⟩ := am_b1_of hs
  refine av_eq (st2 := [am_J 1, am_I a1, am_R 38]) rfl rfl rfl rfl (av_callV (pc := 6) (as := [am_I a1, am_J 1]) (rest := []) C (ct_X4_put l G 38 71 100 sk_38 sk_71 rfl a1 1 S S1 hc2) ym_X4_put si_X5_78 im_X4_put se_X4_put sk_38 rfl ⟨Nat.le_of_ble_eq_true rfl, Nat.le_of_ble_eq_true rfl⟩ rfl rfl (Nat.le_of_ble_eq_true rfl) dX5_stop_6 ⟨Nat.le_refl _, Nat.le_refl _⟩ (fun hrv => av_eq (st2 := []) rfl rfl rfl rfl ?_))
  refine av_aload_n (pc := 9) (j := 0) C dX5_stop_9 rfl rfl ?_
  refine av_aload_n (pc := 10) (j := 0) C dX5_stop_10 rfl rfl ?_
  refine av_getR (pc := 11) (k := 7) (r := 37) C fl_X5_26 sk_7 rfl dX5_stop_11 ?_
  refine av_iload_n (pc := 14) (j := 1) C dX5_stop_14 rfl rfl ?_
  obtain ⟨x4, S3, hc5, hs⟩ := am_b2_of hs
  refine av_eq (st2 := [am_I a1, am_R 37, am_R 7]) rfl rfl rfl rfl (av_callV (pc := 15) (as := [am_I a1]) (rest := [am_R 7]) C (ct_X4_at l G 37 70 101 sk_37 sk_70 rfl a1 S1 x4 S3 hc5) ym_X4_at si_X5_68 im_X4_at se_X4_at sk_37 rfl ⟨Nat.le_of_ble_eq_true rfl, Nat.le_of_ble_eq_true rfl⟩ rfl rfl (Nat.le_of_ble_eq_true rfl) dX5_stop_15 ⟨Nat.le_refl _, Nat.le_refl _⟩ (fun hrv => av_eq (st2 := [am_I x4, am_R 7]) rfl rfl rfl rfl ?_))
  obtain ⟨S6, eS6, hs⟩ := am_let_of hs
  refine av_putI (pc := 18) (k := 11) (n := 459) C fp_X5_38 sk_7 rfl rfl dX5_stop_18 ?_
  refine av_eq rfl rfl rfl eS6 ?_
  refine av_aload_n (pc := 21) (j := 0) C dX5_stop_21 rfl rfl ?_
  refine av_getR (pc := 22) (k := 1) (r := 1) C fl_X5_52 sk_7 rfl dX5_stop_22 ?_
  refine av_aload_n (pc := 25) (j := 0) C dX5_stop_25 rfl rfl ?_
  refine av_getR (pc := 26) (k := 1) (r := 1) C fl_X5_52 sk_7 rfl dX5_stop_26 ?_
  refine av_aload_n (pc := 29) (j := 0) C dX5_stop_29 rfl rfl ?_
  refine av_getR (pc := 30) (k := 6) (r := 36) C fl_X5_23 sk_7 rfl dX5_stop_30 ?_
  refine av_iload_n (pc := 33) (j := 1) C dX5_stop_33 rfl rfl ?_
  obtain ⟨x8, S7, hc9, hs⟩ := am_b2_of hs
  refine av_eq (st2 := [am_I a1, am_R 36, am_R 1, am_R 1]) rfl rfl rfl rfl (av_callV (pc := 34) (as := [am_I a1]) (rest := [am_R 1, am_R 1]) C (ct_X4_valueAt l G 36 69 101 sk_36 sk_69 rfl a1 S6 x8 S7 hc9) ym_X4_valueAt si_X5_139 im_X4_valueAt se_X4_valueAt sk_36 rfl ⟨Nat.le_of_ble_eq_true rfl, Nat.le_of_ble_eq_true rfl⟩ rfl rfl (Nat.le_of_ble_eq_true rfl) dX5_stop_34 ⟨Nat.le_refl _, Nat.le_refl _⟩ (fun hrv => av_eq (st2 := [am_J x8, am_R 1, am_R 1]) rfl rfl rfl rfl ?_))
  obtain ⟨x11, S10, hc12, hs⟩ := am_b2_of hs
  refine av_eq (st2 := [am_J x8, am_R 1, am_R 1]) rfl rfl rfl rfl (av_callV (pc := 37) (as := [am_J x8]) (rest := [am_R 1]) C (ct_X3_promiseFor l G x8 S7 x11 S10 hc12) ym_X3_promiseFor si_X5_189 im_X3_promiseFor se_X3_promiseFor sk_1 rfl ⟨Nat.le_of_ble_eq_true rfl, Nat.le_of_ble_eq_true rfl⟩ rfl rfl (Nat.le_of_ble_eq_true rfl) dX5_stop_37 ⟨Nat.le_refl _, Nat.le_refl _⟩ (fun hrv => av_eq (st2 := [am_I x11, am_R 1]) rfl rfl rfl rfl ?_))
  refine av_iload_n (pc := 40) (j := 1) C dX5_stop_40 rfl rfl ?_
  refine av_iconst (pc := 41) C dX5_stop_41 rfl ?_
  obtain ⟨x14, S13, hc15, hs⟩ := am_b2_of hs
  refine av_eq (st2 := [am_I 3, am_I a1, am_I x11, am_R 1]) rfl rfl rfl rfl (av_callSN (pc := 42) (as := [am_I a1, am_I 3]) (rest := [am_I x11, am_R 1]) C (ct_X9_jobOf l G a1 3 S10 x14 S13 hc15) ym_X9_jobOf si_X5_82 st_X9_jobOf ⟨Nat.le_of_ble_eq_true rfl, Nat.le_of_ble_eq_true rfl⟩ rfl rfl (Nat.le_of_ble_eq_true rfl) dX5_stop_42 ⟨Nat.le_refl _, Nat.le_refl _⟩ (fun hrv => av_eq (st2 := [am_I x14, am_I x11, am_R 1]) rfl rfl rfl rfl ?_))
  obtain ⟨S16, hc17, hs⟩ := am_b1_of hs
  refine av_eq (st2 := [am_I x14, am_I x11, am_R 1]) rfl rfl rfl rfl (av_callV (pc := 45) (as := [am_I x11, am_I x14]) (rest := []) C (ct_X3_waitFor l G x11 x14 S13 S16 hc17) ym_X3_waitFor si_X5_86 im_X3_waitFor se_X3_waitFor sk_1 rfl ⟨Nat.le_of_ble_eq_true rfl, Nat.le_of_ble_eq_true rfl⟩ rfl rfl (Nat.le_of_ble_eq_true rfl) dX5_stop_45 ⟨Nat.le_refl _, Nat.le_refl _⟩ (fun hrv => av_eq (st2 := []) rfl rfl rfl rfl ?_))
  obtain rfl := am_inj1 hs
  exact av_vret C hr hlocks dX5_stop_48
def sf_X5_goOn_7 : Nat → (b1 : Int) → (S : am_S) → Option (am_S)
  | 0, _, _ => none
  | fu + 1, b1, S => (if 1000000 ≤ b1 then (some S) else (if (S.1 459) = (-1) then (some S) else (am_b2 (sf_X4_at 68 101 (S.1 459) S) (fun x3 S2 => (am_b1 (sf_X4_put 68 101 (S.1 459) (am_w32 (x3 + 1)) S2) (fun S5 => (am_b2 (sf_X4_at 67 101 (S.1 459) S5) (fun x8 S7 => (am_b2 (sf_X0_sizeOf x8 S7) (fun x11 S10 => (if x11 ≤ x3 then (am_b2 (sf_X5_giveZero (S.1 459) S10) (fun x14 S13 => (if x14 = 3 then (am_b1 (sf_X5_stop (S.1 459) S13) (fun S23 => (sf_X5_goOn_7 fu (am_w32 (b1 + 1)) S23))) else (if x14 = 1 then (am_b1 (sf_X5_end (S.1 459) x14 S13) (fun S16 => (sf_X5_goOn_7 fu (am_w32 (b1 + 1)) S16))) else (if x14 = 2 then (am_b2 (sf_X5_leaveTry (S.1 459) x3 S13) (fun x19 S18 => (if x19 = 0 then (am_b1 (sf_X5_end (S.1 459) x14 S18) (fun S21 => (sf_X5_goOn_7 fu (am_w32 (b1 + 1)) S21))) else (sf_X5_goOn_7 fu (am_w32 (b1 + 1)) S18)))) else (sf_X5_goOn_7 fu (am_w32 (b1 + 1)) S13)))))) else (am_b2 (sf_X5_doStep (S.1 459) x3 S10) (fun x26 S25 => (if x26 = 3 then (am_b1 (sf_X5_stop (S.1 459) S25) (fun S35 => (sf_X5_goOn_7 fu (am_w32 (b1 + 1)) S35))) else (if x26 = 1 then (am_b1 (sf_X5_end (S.1 459) x26 S25) (fun S28 => (sf_X5_goOn_7 fu (am_w32 (b1 + 1)) S28))) else (if x26 = 2 then (am_b2 (sf_X5_leaveTry (S.1 459) x3 S25) (fun x31 S30 => (if x31 = 0 then (am_b1 (sf_X5_end (S.1 459) x26 S30) (fun S33 => (sf_X5_goOn_7 fu (am_w32 (b1 + 1)) S33))) else (sf_X5_goOn_7 fu (am_w32 (b1 + 1)) S30)))) else (sf_X5_goOn_7 fu (am_w32 (b1 + 1)) S25)))))))))))))))))
set_option maxHeartbeats 4000000 in
set_option maxRecDepth 100000 in
theorem wk_X5_goOn_7 {p : Program} {l : Launch} {e : Env} {s : State} {m : MethodId} {args : Array Value} {below : List Frame} {meth : Method} {c : Code} {G : am_G} (C : am_C p s m args c cX5_goOn 5 RX5 G) (hr : meth.sig.returnType = none) (hlocks : meth.locks = false) : ∀ (fu : Nat) (b1 : Int) (S : am_S) (S2 : am_S), sf_X5_goOn_7 fu b1 S = some S2 → am_V p l e (am_rm 5 122) s m args below meth c (MQ below (am_Q G none S2) args s 0 0 (am_A G)) G (am_A G) s.heap 5 0 0 7 [(0, am_R 7), (1, am_I b1)] [] S := by
  intro fu
  induction fu with
  | zero => intro b1 S S2 hs; cases hs
  | succ fu ih =>
    intro b1 S S2 hs
    unfold sf_X5_goOn_7 at hs
    refine av_iload_n (pc := 7) (j := 1) C dX5_goOn_7 rfl rfl ?_
    refine av_ldc (pc := 8) C co_X5_111 rfl dX5_goOn_8 ?_
    refine av_icmp_ge (pc := 10) (tgt := 130) C dX5_goOn_10 (by decide) (fun hc => ?_) (fun hc => ?_)
    · rw [if_pos hc] at hs
      obtain rfl := am_inj1 hs
      exact av_vret C hr hlocks dX5_goOn_130
    · rw [if_neg hc] at hs
      refine av_aload_n (pc := 13) (j := 0) C dX5_goOn_13 rfl rfl ?_
      refine av_getI (pc := 14) (k := 11) (n := 459) C fl_X5_38 sk_7 rfl rfl dX5_goOn_14 ?_
      refine av_iconst (pc := 17) C dX5_goOn_17 rfl ?_
      refine av_icmp_eq (pc := 18) (tgt := 130) C dX5_goOn_18 (by decide) (fun hc => ?_) (fun hc => ?_)
      · rw [if_pos hc] at hs
        obtain rfl := am_inj1 hs
        exact av_vret C hr hlocks dX5_goOn_130
      · rw [if_neg hc] at hs
        refine av_aload_n (pc := 21) (j := 0) C dX5_goOn_21 rfl rfl ?_
        refine av_getI (pc := 22) (k := 11) (n := 459) C fl_X5_38 sk_7 rfl rfl dX5_goOn_22 ?_
        refine av_istore_n (pc := 25) (i := 2) (lv2 := [(2, am_I (S.1 459)), (0, am_R 7), (1, am_I b1)]) C dX5_goOn_25 rfl (by decide) rfl ?_
        refine av_aload_n (pc := 26) (j := 1) C dX5_goOn_26 rfl rfl ?_
        refine av_getR (pc := 27) (k := 5) (r := 35) C fl_X5_20 sk_7 rfl dX5_goOn_27 ?_
        refine av_iload_n (pc := 30) (j := 0) C dX5_goOn_30 rfl rfl ?_
        obtain ⟨x3, S2, hc4, hs⟩ := am_b2_of hs
        refine av_eq (st2 := [am_I (S.1 459), am_R 35]) rfl rfl rfl rfl (av_callV (pc := 31) (as := [am_I (S.1 459)]) (rest := []) C (ct_X4_at l G 35 68 101 sk_35 sk_68 rfl (S.1 459) S x3 S2 hc4) ym_X4_at si_X5_68 im_X4_at se_X4_at sk_35 rfl ⟨Nat.le_of_ble_eq_true rfl, Nat.le_of_ble_eq_true rfl⟩ rfl rfl (Nat.le_of_ble_eq_true rfl) dX5_goOn_31 ⟨Nat.le_refl _, Nat.le_refl _⟩ (fun hrv => av_eq (st2 := [am_I x3]) rfl rfl rfl rfl ?_))
        refine av_istore_n (pc := 34) (i := 3) (lv2 := [(3, am_I x3), (2, am_I (S.1 459)), (0, am_R 7), (1, am_I b1)]) C dX5_goOn_34 rfl (by decide) rfl ?_
        refine av_aload_n (pc := 35) (j := 2) C dX5_goOn_35 rfl rfl ?_
        refine av_getR (pc := 36) (k := 5) (r := 35) C fl_X5_20 sk_7 rfl dX5_goOn_36 ?_
        refine av_iload_n (pc := 39) (j := 1) C dX5_goOn_39 rfl rfl ?_
        refine av_iload_n (pc := 40) (j := 0) C dX5_goOn_40 rfl rfl ?_
        refine av_iconst (pc := 41) C dX5_goOn_41 rfl ?_
        refine av_iadd (pc := 42) C dX5_goOn_42 ?_
        refine av_i2l (pc := 43) C dX5_goOn_43 ?_
        obtain ⟨S5, hc6, hs⟩ := am_b1_of hs
        refine av_eq (st2 := [am_J (am_w32 (x3 + 1)), am_I (S.1 459), am_R 35]) rfl rfl rfl rfl (av_callV (pc := 44) (as := [am_I (S.1 459), am_J (am_w32 (x3 + 1))]) (rest := []) C (ct_X4_put l G 35 68 101 sk_35 sk_68 rfl (S.1 459) (am_w32 (x3 + 1)) S2 S5 hc6) ym_X4_put si_X5_78 im_X4_put se_X4_put sk_35 rfl ⟨Nat.le_of_ble_eq_true rfl, Nat.le_of_ble_eq_true rfl⟩ rfl rfl (Nat.le_of_ble_eq_true rfl) dX5_goOn_44 ⟨Nat.le_refl _, Nat.le_refl _⟩ (fun hrv => av_eq (st2 := []) rfl rfl rfl rfl ?_))
        refine av_iload_n (pc := 47) (j := 0) C dX5_goOn_47 rfl rfl ?_
        refine av_aload_n (pc := 48) (j := 2) C dX5_goOn_48 rfl rfl ?_
        refine av_getR (pc := 49) (k := 0) (r := 3) C fl_X5_48 sk_7 rfl dX5_goOn_49 ?_
        refine av_aload_n (pc := 52) (j := 2) C dX5_goOn_52 rfl rfl ?_
        refine av_getR (pc := 53) (k := 4) (r := 34) C fl_X5_14 sk_7 rfl dX5_goOn_53 ?_
        refine av_iload_n (pc := 56) (j := 1) C dX5_goOn_56 rfl rfl ?_
        obtain ⟨x8, S7, hc9, hs⟩ := am_b2_of hs
        refine av_eq (st2 := [am_I (S.1 459), am_R 34, am_R 3, am_I x3]) rfl rfl rfl rfl (av_callV (pc := 57) (as := [am_I (S.1 459)]) (rest := [am_R 3, am_I x3]) C (ct_X4_at l G 34 67 101 sk_34 sk_67 rfl (S.1 459) S5 x8 S7 hc9) ym_X4_at si_X5_68 im_X4_at se_X4_at sk_34 rfl ⟨Nat.le_of_ble_eq_true rfl, Nat.le_of_ble_eq_true rfl⟩ rfl rfl (Nat.le_of_ble_eq_true rfl) dX5_goOn_57 ⟨Nat.le_refl _, Nat.le_refl _⟩ (fun hrv => av_eq (st2 := [am_I x8, am_R 3, am_I x3]) rfl rfl rfl rfl ?_))
        obtain ⟨x11, S10, hc12, hs⟩ := am_b2_of hs
        refine av_eq (st2 := [am_I x8, am_R 3, am_I x3]) rfl rfl rfl rfl (av_callV (pc := 60) (as := [am_I x8]) (rest := [am_I x3]) C (ct_X0_sizeOf l G x8 S7 x11 S10 hc12) ym_X0_sizeOf si_X5_112 im_X0_sizeOf se_X0_sizeOf sk_3 rfl ⟨Nat.le_of_ble_eq_true rfl, Nat.le_of_ble_eq_true rfl⟩ rfl rfl (Nat.le_of_ble_eq_true rfl) dX5_goOn_60 ⟨Nat.le_refl _, Nat.le_refl _⟩ (fun hrv => av_eq (st2 := [am_I x11, am_I x3]) rfl rfl rfl rfl ?_))
        refine av_icmp_ge (pc := 63) (tgt := 75) C dX5_goOn_63 (by decide) (fun hc => ?_) (fun hc => ?_)
        · rw [if_pos hc] at hs
          refine av_aload_n (pc := 75) (j := 2) C dX5_goOn_75 rfl rfl ?_
          refine av_iload_n (pc := 76) (j := 1) C dX5_goOn_76 rfl rfl ?_
          obtain ⟨x14, S13, hc15, hs⟩ := am_b2_of hs
          refine av_eq (st2 := [am_I (S.1 459), am_R 7]) rfl rfl rfl rfl (av_callV (pc := 77) (as := [am_I (S.1 459)]) (rest := []) C (ct_X5_giveZero l G (S.1 459) S10 x14 S13 hc15) ym_X5_giveZero si_X5_120 im_X5_giveZero se_X5_giveZero sk_7 rfl ⟨Nat.le_of_ble_eq_true rfl, Nat.le_of_ble_eq_true rfl⟩ rfl rfl (Nat.le_of_ble_eq_true rfl) dX5_goOn_77 ⟨Nat.le_refl _, Nat.le_refl _⟩ (fun hrv => av_eq (st2 := [am_I x14]) rfl rfl rfl rfl ?_))
          refine av_istore (pc := 80) (i := 4) (lv2 := [(4, am_I x14), (3, am_I x3), (2, am_I (S.1 459)), (0, am_R 7), (1, am_I b1)]) C dX5_goOn_80 (by decide) rfl ?_
          refine av_iload (pc := 82) (j := 0) C dX5_goOn_82 rfl ?_
          refine av_iconst (pc := 84) C dX5_goOn_84 rfl ?_
          refine av_icmp_ne (pc := 85) (tgt := 96) C dX5_goOn_85 (by decide) (fun hc => ?_) (fun hc => ?_)
          · rw [if_neg hc] at hs
            refine av_iload (pc := 96) (j := 0) C dX5_goOn_96 rfl ?_
            refine av_iconst (pc := 98) C dX5_goOn_98 rfl ?_
            refine av_icmp_eq (pc := 99) (tgt := 117) C dX5_goOn_99 (by decide) (fun hc => ?_) (fun hc => ?_)
            · rw [if_pos hc] at hs
              refine av_aload_n (pc := 117) (j := 3) C dX5_goOn_117 rfl rfl ?_
              refine av_iload_n (pc := 118) (j := 2) C dX5_goOn_118 rfl rfl ?_
              refine av_iload (pc := 119) (j := 0) C dX5_goOn_119 rfl ?_
              obtain ⟨S16, hc17, hs⟩ := am_b1_of hs
              refine av_eq (st2 := [am_I x14, am_I (S.1 459), am_R 7]) rfl rfl rfl rfl (av_callV (pc := 121) (as := [am_I (S.1 459), am_I x14]) (rest := []) C (ct_X5_end l G (S.1 459) x14 S13 S16 hc17) ym_X5_end si_X5_108 im_X5_end se_X5_end sk_7 rfl ⟨Nat.le_of_ble_eq_true rfl, Nat.le_of_ble_eq_true rfl⟩ rfl rfl (Nat.le_of_ble_eq_true rfl) dX5_goOn_121 ⟨Nat.le_refl _, Nat.le_refl _⟩ (fun hrv => av_eq (st2 := []) rfl rfl rfl rfl ?_))
              refine av_iinc (pc := 124) (j := 4) (lv2 := [(1, am_I (am_w32 (b1 + 1))), (4, am_I x14), (3, am_I x3), (2, am_I (S.1 459)), (0, am_R 7)]) C dX5_goOn_124 rfl (by decide) rfl ?_
              refine av_goto (pc := 127) (tgt := 7) C dX5_goOn_127 (by decide) ?_
              refine av_lvsub (lv2 := [(0, am_R 7), (1, am_I (am_w32 (b1 + 1)))]) [4, 0] rfl ?_
              exact ih (am_w32 (b1 + 1)) S16 S2 hs
            · rw [if_neg hc] at hs
              refine av_iload (pc := 102) (j := 0) C dX5_goOn_102 rfl ?_
              refine av_iconst (pc := 104) C dX5_goOn_104 rfl ?_
              refine av_icmp_ne (pc := 105) (tgt := 124) C dX5_goOn_105 (by decide) (fun hc => ?_) (fun hc => ?_)
              · rw [if_neg hc] at hs
                refine av_iinc (pc := 124) (j := 4) (lv2 := [(1, am_I (am_w32 (b1 + 1))), (4, am_I x14), (3, am_I x3), (2, am_I (S.1 459)), (0, am_R 7)]) C dX5_goOn_124 rfl (by decide) rfl ?_
                refine av_goto (pc := 127) (tgt := 7) C dX5_goOn_127 (by decide) ?_
                refine av_lvsub (lv2 := [(0, am_R 7), (1, am_I (am_w32 (b1 + 1)))]) [4, 0] rfl ?_
                exact ih (am_w32 (b1 + 1)) S13 S2 hs
              · rw [if_pos (Decidable.not_not.mp hc)] at hs
                refine av_aload_n (pc := 108) (j := 3) C dX5_goOn_108 rfl rfl ?_
                refine av_iload_n (pc := 109) (j := 2) C dX5_goOn_109 rfl rfl ?_
                refine av_iload_n (pc := 110) (j := 1) C dX5_goOn_110 rfl rfl ?_
                obtain ⟨x19, S18, hc20, hs⟩ := am_b2_of hs
                refine av_eq (st2 := [am_I x3, am_I (S.1 459), am_R 7]) rfl rfl rfl rfl (av_callV (pc := 111) (as := [am_I (S.1 459), am_I x3]) (rest := []) C (ct_X5_leaveTry l G (S.1 459) x3 S13 x19 S18 hc20) ym_X5_leaveTry si_X5_104 im_X5_leaveTry se_X5_leaveTry sk_7 rfl ⟨Nat.le_of_ble_eq_true rfl, Nat.le_of_ble_eq_true rfl⟩ rfl rfl (Nat.le_of_ble_eq_true rfl) dX5_goOn_111 ⟨Nat.le_refl _, Nat.le_refl _⟩ (fun hrv => av_eq (st2 := [am_I x19]) rfl rfl rfl rfl ?_))
                refine av_if_ne (pc := 114) (tgt := 124) C dX5_goOn_114 (by decide) (fun hc => ?_) (fun hc => ?_)
                · rw [if_neg hc] at hs
                  refine av_iinc (pc := 124) (j := 4) (lv2 := [(1, am_I (am_w32 (b1 + 1))), (4, am_I x14), (3, am_I x3), (2, am_I (S.1 459)), (0, am_R 7)]) C dX5_goOn_124 rfl (by decide) rfl ?_
                  refine av_goto (pc := 127) (tgt := 7) C dX5_goOn_127 (by decide) ?_
                  refine av_lvsub (lv2 := [(0, am_R 7), (1, am_I (am_w32 (b1 + 1)))]) [4, 0] rfl ?_
                  exact ih (am_w32 (b1 + 1)) S18 S2 hs
                · rw [if_pos (Decidable.not_not.mp hc)] at hs
                  refine av_aload_n (pc := 117) (j := 3) C dX5_goOn_117 rfl rfl ?_
                  refine av_iload_n (pc := 118) (j := 2) C dX5_goOn_118 rfl rfl ?_
                  refine av_iload (pc := 119) (j := 0) C dX5_goOn_119 rfl ?_
                  obtain ⟨S21, hc22, hs⟩ := am_b1_of hs
                  refine av_eq (st2 := [am_I x14, am_I (S.1 459), am_R 7]) rfl rfl rfl rfl (av_callV (pc := 121) (as := [am_I (S.1 459), am_I x14]) (rest := []) C (ct_X5_end l G (S.1 459) x14 S18 S21 hc22) ym_X5_end si_X5_108 im_X5_end se_X5_end sk_7 rfl ⟨Nat.le_of_ble_eq_true rfl, Nat.le_of_ble_eq_true rfl⟩ rfl rfl (Nat.le_of_ble_eq_true rfl) dX5_goOn_121 ⟨Nat.le_refl _, Nat.le_refl _⟩ (fun hrv => av_eq (st2 := []) rfl rfl rfl rfl ?_))
                  refine av_iinc (pc := 124) (j := 4) (lv2 := [(1, am_I (am_w32 (b1 + 1))), (4, am_I x14), (3, am_I x3), (2, am_I (S.1 459)), (0, am_R 7)]) C dX5_goOn_124 rfl (by decide) rfl ?_
                  refine av_goto (pc := 127) (tgt := 7) C dX5_goOn_127 (by decide) ?_
                  refine av_lvsub (lv2 := [(0, am_R 7), (1, am_I (am_w32 (b1 + 1)))]) [4, 0] rfl ?_
                  exact ih (am_w32 (b1 + 1)) S21 S2 hs
          · rw [if_pos (Decidable.not_not.mp hc)] at hs
            refine av_aload_n (pc := 88) (j := 3) C dX5_goOn_88 rfl rfl ?_
            refine av_iload_n (pc := 89) (j := 2) C dX5_goOn_89 rfl rfl ?_
            obtain ⟨S23, hc24, hs⟩ := am_b1_of hs
            refine av_eq (st2 := [am_I (S.1 459), am_R 7]) rfl rfl rfl rfl (av_callV (pc := 90) (as := [am_I (S.1 459)]) (rest := []) C (ct_X5_stop l G (S.1 459) S13 S23 hc24) ym_X5_stop si_X5_123 im_X5_stop se_X5_stop sk_7 rfl ⟨Nat.le_of_ble_eq_true rfl, Nat.le_of_ble_eq_true rfl⟩ rfl rfl (Nat.le_of_ble_eq_true rfl) dX5_goOn_90 ⟨Nat.le_refl _, Nat.le_refl _⟩ (fun hrv => av_eq (st2 := []) rfl rfl rfl rfl ?_))
            refine av_goto (pc := 93) (tgt := 124) C dX5_goOn_93 (by decide) ?_
            refine av_iinc (pc := 124) (j := 4) (lv2 := [(1, am_I (am_w32 (b1 + 1))), (4, am_I x14), (3, am_I x3), (2, am_I (S.1 459)), (0, am_R 7)]) C dX5_goOn_124 rfl (by decide) rfl ?_
            refine av_goto (pc := 127) (tgt := 7) C dX5_goOn_127 (by decide) ?_
            refine av_lvsub (lv2 := [(0, am_R 7), (1, am_I (am_w32 (b1 + 1)))]) [4, 0] rfl ?_
            exact ih (am_w32 (b1 + 1)) S23 S2 hs
        · rw [if_neg hc] at hs
          refine av_aload_n (pc := 66) (j := 2) C dX5_goOn_66 rfl rfl ?_
          refine av_iload_n (pc := 67) (j := 1) C dX5_goOn_67 rfl rfl ?_
          refine av_iload_n (pc := 68) (j := 0) C dX5_goOn_68 rfl rfl ?_
          obtain ⟨x26, S25, hc27, hs⟩ := am_b2_of hs
          refine av_eq (st2 := [am_I x3, am_I (S.1 459), am_R 7]) rfl rfl rfl rfl (av_callV (pc := 69) (as := [am_I (S.1 459), am_I x3]) (rest := []) C (ct_X5_doStep l G (S.1 459) x3 S10 x26 S25 hc27) ym_X5_doStep si_X5_117 im_X5_doStep se_X5_doStep sk_7 rfl ⟨Nat.le_of_ble_eq_true rfl, Nat.le_of_ble_eq_true rfl⟩ rfl rfl (Nat.le_of_ble_eq_true rfl) dX5_goOn_69 ⟨Nat.le_refl _, Nat.le_refl _⟩ (fun hrv => av_eq (st2 := [am_I x26]) rfl rfl rfl rfl ?_))
          refine av_goto (pc := 72) (tgt := 80) C dX5_goOn_72 (by decide) ?_
          refine av_istore (pc := 80) (i := 4) (lv2 := [(4, am_I x26), (3, am_I x3), (2, am_I (S.1 459)), (0, am_R 7), (1, am_I b1)]) C dX5_goOn_80 (by decide) rfl ?_
          refine av_iload (pc := 82) (j := 0) C dX5_goOn_82 rfl ?_
          refine av_iconst (pc := 84) C dX5_goOn_84 rfl ?_
          refine av_icmp_ne (pc := 85) (tgt := 96) C dX5_goOn_85 (by decide) (fun hc => ?_) (fun hc => ?_)
          · rw [if_neg hc] at hs
            refine av_iload (pc := 96) (j := 0) C dX5_goOn_96 rfl ?_
            refine av_iconst (pc := 98) C dX5_goOn_98 rfl ?_
            refine av_icmp_eq (pc := 99) (tgt := 117) C dX5_goOn_99 (by decide) (fun hc => ?_) (fun hc => ?_)
            · rw [if_pos hc] at hs
              refine av_aload_n (pc := 117) (j := 3) C dX5_goOn_117 rfl rfl ?_
              refine av_iload_n (pc := 118) (j := 2) C dX5_goOn_118 rfl rfl ?_
              refine av_iload (pc := 119) (j := 0) C dX5_goOn_119 rfl ?_
              obtain ⟨S28, hc29, hs⟩ := am_b1_of hs
              refine av_eq (st2 := [am_I x26, am_I (S.1 459), am_R 7]) rfl rfl rfl rfl (av_callV (pc := 121) (as := [am_I (S.1 459), am_I x26]) (rest := []) C (ct_X5_end l G (S.1 459) x26 S25 S28 hc29) ym_X5_end si_X5_108 im_X5_end se_X5_end sk_7 rfl ⟨Nat.le_of_ble_eq_true rfl, Nat.le_of_ble_eq_true rfl⟩ rfl rfl (Nat.le_of_ble_eq_true rfl) dX5_goOn_121 ⟨Nat.le_refl _, Nat.le_refl _⟩ (fun hrv => av_eq (st2 := []) rfl rfl rfl rfl ?_))
              refine av_iinc (pc := 124) (j := 4) (lv2 := [(1, am_I (am_w32 (b1 + 1))), (4, am_I x26), (3, am_I x3), (2, am_I (S.1 459)), (0, am_R 7)]) C dX5_goOn_124 rfl (by decide) rfl ?_
              refine av_goto (pc := 127) (tgt := 7) C dX5_goOn_127 (by decide) ?_
              refine av_lvsub (lv2 := [(0, am_R 7), (1, am_I (am_w32 (b1 + 1)))]) [4, 0] rfl ?_
              exact ih (am_w32 (b1 + 1)) S28 S2 hs
            · rw [if_neg hc] at hs
              refine av_iload (pc := 102) (j := 0) C dX5_goOn_102 rfl ?_
              refine av_iconst (pc := 104) C dX5_goOn_104 rfl ?_
              refine av_icmp_ne (pc := 105) (tgt := 124) C dX5_goOn_105 (by decide) (fun hc => ?_) (fun hc => ?_)
              · rw [if_neg hc] at hs
                refine av_iinc (pc := 124) (j := 4) (lv2 := [(1, am_I (am_w32 (b1 + 1))), (4, am_I x26), (3, am_I x3), (2, am_I (S.1 459)), (0, am_R 7)]) C dX5_goOn_124 rfl (by decide) rfl ?_
                refine av_goto (pc := 127) (tgt := 7) C dX5_goOn_127 (by decide) ?_
                refine av_lvsub (lv2 := [(0, am_R 7), (1, am_I (am_w32 (b1 + 1)))]) [4, 0] rfl ?_
                exact ih (am_w32 (b1 + 1)) S25 S2 hs
              · rw [if_pos (Decidable.not_not.mp hc)] at hs
                refine av_aload_n (pc := 108) (j := 3) C dX5_goOn_108 rfl rfl ?_
                refine av_iload_n (pc := 109) (j := 2) C dX5_goOn_109 rfl rfl ?_
                refine av_iload_n (pc := 110) (j := 1) C dX5_goOn_110 rfl rfl ?_
                obtain ⟨x31, S30, hc32, hs⟩ := am_b2_of hs
                refine av_eq (st2 := [am_I x3, am_I (S.1 459), am_R 7]) rfl rfl rfl rfl (av_callV (pc := 111) (as := [am_I (S.1 459), am_I x3]) (rest := []) C (ct_X5_leaveTry l G (S.1 459) x3 S25 x31 S30 hc32) ym_X5_leaveTry si_X5_104 im_X5_leaveTry se_X5_leaveTry sk_7 rfl ⟨Nat.le_of_ble_eq_true rfl, Nat.le_of_ble_eq_true rfl⟩ rfl rfl (Nat.le_of_ble_eq_true rfl) dX5_goOn_111 ⟨Nat.le_refl _, Nat.le_refl _⟩ (fun hrv => av_eq (st2 := [am_I x31]) rfl rfl rfl rfl ?_))
                refine av_if_ne (pc := 114) (tgt := 124) C dX5_goOn_114 (by decide) (fun hc => ?_) (fun hc => ?_)
                · rw [if_neg hc] at hs
                  refine av_iinc (pc := 124) (j := 4) (lv2 := [(1, am_I (am_w32 (b1 + 1))), (4, am_I x26), (3, am_I x3), (2, am_I (S.1 459)), (0, am_R 7)]) C dX5_goOn_124 rfl (by decide) rfl ?_
                  refine av_goto (pc := 127) (tgt := 7) C dX5_goOn_127 (by decide) ?_
                  refine av_lvsub (lv2 := [(0, am_R 7), (1, am_I (am_w32 (b1 + 1)))]) [4, 0] rfl ?_
                  exact ih (am_w32 (b1 + 1)) S30 S2 hs
                · rw [if_pos (Decidable.not_not.mp hc)] at hs
                  refine av_aload_n (pc := 117) (j := 3) C dX5_goOn_117 rfl rfl ?_
                  refine av_iload_n (pc := 118) (j := 2) C dX5_goOn_118 rfl rfl ?_
                  refine av_iload (pc := 119) (j := 0) C dX5_goOn_119 rfl ?_
                  obtain ⟨S33, hc34, hs⟩ := am_b1_of hs
                  refine av_eq (st2 := [am_I x26, am_I (S.1 459), am_R 7]) rfl rfl rfl rfl (av_callV (pc := 121) (as := [am_I (S.1 459), am_I x26]) (rest := []) C (ct_X5_end l G (S.1 459) x26 S30 S33 hc34) ym_X5_end si_X5_108 im_X5_end se_X5_end sk_7 rfl ⟨Nat.le_of_ble_eq_true rfl, Nat.le_of_ble_eq_true rfl⟩ rfl rfl (Nat.le_of_ble_eq_true rfl) dX5_goOn_121 ⟨Nat.le_refl _, Nat.le_refl _⟩ (fun hrv => av_eq (st2 := []) rfl rfl rfl rfl ?_))
                  refine av_iinc (pc := 124) (j := 4) (lv2 := [(1, am_I (am_w32 (b1 + 1))), (4, am_I x26), (3, am_I x3), (2, am_I (S.1 459)), (0, am_R 7)]) C dX5_goOn_124 rfl (by decide) rfl ?_
                  refine av_goto (pc := 127) (tgt := 7) C dX5_goOn_127 (by decide) ?_
                  refine av_lvsub (lv2 := [(0, am_R 7), (1, am_I (am_w32 (b1 + 1)))]) [4, 0] rfl ?_
                  exact ih (am_w32 (b1 + 1)) S33 S2 hs
          · rw [if_pos (Decidable.not_not.mp hc)] at hs
            refine av_aload_n (pc := 88) (j := 3) C dX5_goOn_88 rfl rfl ?_
            refine av_iload_n (pc := 89) (j := 2) C dX5_goOn_89 rfl rfl ?_
            obtain ⟨S35, hc36, hs⟩ := am_b1_of hs
            refine av_eq (st2 := [am_I (S.1 459), am_R 7]) rfl rfl rfl rfl (av_callV (pc := 90) (as := [am_I (S.1 459)]) (rest := []) C (ct_X5_stop l G (S.1 459) S25 S35 hc36) ym_X5_stop si_X5_123 im_X5_stop se_X5_stop sk_7 rfl ⟨Nat.le_of_ble_eq_true rfl, Nat.le_of_ble_eq_true rfl⟩ rfl rfl (Nat.le_of_ble_eq_true rfl) dX5_goOn_90 ⟨Nat.le_refl _, Nat.le_refl _⟩ (fun hrv => av_eq (st2 := []) rfl rfl rfl rfl ?_))
            refine av_goto (pc := 93) (tgt := 124) C dX5_goOn_93 (by decide) ?_
            refine av_iinc (pc := 124) (j := 4) (lv2 := [(1, am_I (am_w32 (b1 + 1))), (4, am_I x26), (3, am_I x3), (2, am_I (S.1 459)), (0, am_R 7)]) C dX5_goOn_124 rfl (by decide) rfl ?_
            refine av_goto (pc := 127) (tgt := 7) C dX5_goOn_127 (by decide) ?_
            refine av_lvsub (lv2 := [(0, am_R 7), (1, am_I (am_w32 (b1 + 1)))]) [4, 0] rfl ?_
            exact ih (am_w32 (b1 + 1)) S35 S2 hs
def sf_X5_goOn (S : am_S) : Option (am_S) := (am_let (am_sI S 461 0) (fun S1 => (sf_X5_goOn_7 1000002 0 S1)))
set_option maxHeartbeats 4000000 in
set_option maxRecDepth 100000 in
theorem ct_X5_goOn (l : Launch) (G : am_G) (S : am_S) (S2 : am_S) (hs : sf_X5_goOn  S = some S2) : am_met l yX5_goOn cX5_goOn 5 none 5 122 G [am_R 7] S none S2 := by
  refine am_enter ym_X5_goOn (Nat.le_of_ble_eq_true rfl) ?_
  intro p e s m args below meth c C hr hlocks
  refine av_eq (lv2 := [(0, am_R 7)]) rfl rfl rfl rfl ?_
  unfold sf_X5_goOn at hs
  refine av_aload_n (pc := 0) (j := 0) C dX5_goOn_0 rfl rfl ?_
  refine av_iconst (pc := 1) C dX5_goOn_1 rfl ?_
  obtain ⟨S1, eS1, hs⟩ := am_let_of hs
  refine av_putI (pc := 2) (k := 13) (n := 461) C fp_X5_45 sk_7 rfl rfl dX5_goOn_2 ?_
  refine av_eq rfl rfl rfl eS1 ?_
  refine av_iconst (pc := 5) C dX5_goOn_5 rfl ?_
  refine av_istore_n (pc := 6) (i := 1) (lv2 := [(1, am_I 0), (0, am_R 7)]) C dX5_goOn_6 rfl (by decide) rfl ?_
  refine av_lvsub (lv2 := [(0, am_R 7), (1, am_I 0)]) [1, 0] rfl ?_
  exact wk_X5_goOn_7 C hr hlocks 1000002 0 S1 S2 hs
def sf_X6_clear (S : am_S) : Option (am_S) := (am_let (am_sI S 259 0) (fun S1 => (am_let (am_sI S1 260 0) (fun S2 => (some S2)))))
set_option maxHeartbeats 4000000 in
set_option maxRecDepth 100000 in
theorem ct_X6_clear (l : Launch) (G : am_G) (S : am_S) (S2 : am_S) (hs : sf_X6_clear  S = some S2) : am_met l yX6_clear cX6_clear 1 none 0 0 G [am_R 4] S none S2 := by
  refine am_enter ym_X6_clear (Nat.le_of_ble_eq_true rfl) ?_
  intro p e s m args below meth c C hr hlocks
  refine av_eq (lv2 := [(0, am_R 4)]) rfl rfl rfl rfl ?_
  unfold sf_X6_clear at hs
  refine av_aload_n (pc := 0) (j := 0) C dX6_clear_0 rfl rfl ?_
  refine av_iconst (pc := 1) C dX6_clear_1 rfl ?_
  obtain ⟨S1, eS1, hs⟩ := am_let_of hs
  refine av_putI (pc := 2) (k := 3) (n := 259) C fp_X6_26 sk_4 rfl rfl dX6_clear_2 ?_
  refine av_eq rfl rfl rfl eS1 ?_
  refine av_aload_n (pc := 5) (j := 0) C dX6_clear_5 rfl rfl ?_
  refine av_iconst (pc := 6) C dX6_clear_6 rfl ?_
  obtain ⟨S2, eS2, hs⟩ := am_let_of hs
  refine av_putI (pc := 7) (k := 4) (n := 260) C fp_X6_30 sk_4 rfl rfl dX6_clear_7 ?_
  refine av_eq rfl rfl rfl eS2 ?_
  obtain rfl := am_inj1 hs
  exact av_vret C hr hlocks dX6_clear_10
def sf_X6_size (S : am_S) : Option (Int × am_S) := (some ((S.1 259), S))
set_option maxHeartbeats 4000000 in
set_option maxRecDepth 100000 in
theorem ct_X6_size (l : Launch) (G : am_G) (S : am_S) (x : Int) (S2 : am_S) (hs : sf_X6_size  S = some (x, S2)) : am_met l yX6_size cX6_size 1 (some .int) 0 0 G [am_R 4] S (some (am_I x)) S2 := by
  refine am_enter ym_X6_size (Nat.le_of_ble_eq_true rfl) ?_
  intro p e s m args below meth c C hr hlocks
  refine av_eq (lv2 := [(0, am_R 4)]) rfl rfl rfl rfl ?_
  unfold sf_X6_size at hs
  refine av_aload_n (pc := 0) (j := 0) C dX6_size_0 rfl rfl ?_
  refine av_getI (pc := 1) (k := 3) (n := 259) C fl_X6_26 sk_4 rfl rfl dX6_size_1 ?_
  obtain ⟨rfl, rfl⟩ := am_inj2 hs
  exact av_iret C hr hlocks dX6_size_4
def sf_X6_time (S : am_S) : Option (Int × am_S) := (some ((S.1 260), S))
set_option maxHeartbeats 4000000 in
set_option maxRecDepth 100000 in
theorem ct_X6_time (l : Launch) (G : am_G) (S : am_S) (x : Int) (S2 : am_S) (hs : sf_X6_time  S = some (x, S2)) : am_met l yX6_time cX6_time 1 (some .int) 0 0 G [am_R 4] S (some (am_I x)) S2 := by
  refine am_enter ym_X6_time (Nat.le_of_ble_eq_true rfl) ?_
  intro p e s m args below meth c C hr hlocks
  refine av_eq (lv2 := [(0, am_R 4)]) rfl rfl rfl rfl ?_
  unfold sf_X6_time at hs
  refine av_aload_n (pc := 0) (j := 0) C dX6_time_0 rfl rfl ?_
  refine av_getI (pc := 1) (k := 4) (n := 260) C fl_X6_30 sk_4 rfl rfl dX6_time_1 ?_
  obtain ⟨rfl, rfl⟩ := am_inj2 hs
  exact av_iret C hr hlocks dX6_time_4
def sf_X6_dueFirst_4 : Nat → (b1 : Int) → (b2 : Int) → (S : am_S) → Option (Int × am_S)
  | 0, _, _, _ => none
  | fu + 1, b1, b2, S => (if (S.1 259) ≤ b2 then (some (b1, S)) else (am_b2 (sf_X4_at 60 32 b2 S) (fun x2 S1 => (am_b2 (sf_X4_at 60 32 b1 S1) (fun x5 S4 => (if x5 ≤ x2 then (sf_X6_dueFirst_4 fu b1 (am_w32 (b2 + 1)) S4) else (sf_X6_dueFirst_4 fu b2 (am_w32 (b2 + 1)) S4)))))))
set_option maxHeartbeats 4000000 in
set_option maxRecDepth 100000 in
theorem wk_X6_dueFirst_4 {p : Program} {l : Launch} {e : Env} {s : State} {m : MethodId} {args : Array Value} {below : List Frame} {meth : Method} {c : Code} {G : am_G} (C : am_C p s m args c cX6_dueFirst 3 RX6 G) (hr : meth.sig.returnType = (some .int)) (hlocks : meth.locks = false) : ∀ (fu : Nat) (b1 : Int) (b2 : Int) (S : am_S) (x : Int) (S2 : am_S), sf_X6_dueFirst_4 fu b1 b2 S = some (x, S2) → am_V p l e (am_rm 1 21) s m args below meth c (MQ below (am_Q G (some (am_I x)) S2) args s 0 0 (am_A G)) G (am_A G) s.heap 3 0 0 4 [(0, am_R 4), (1, am_I b1), (2, am_I b2)] [] S := by
  intro fu
  induction fu with
  | zero => intro b1 b2 S x S2 hs; cases hs
  | succ fu ih =>
    intro b1 b2 S x S2 hs
    unfold sf_X6_dueFirst_4 at hs
    refine av_iload_n (pc := 4) (j := 2) C dX6_dueFirst_4 rfl rfl ?_
    refine av_aload_n (pc := 5) (j := 0) C dX6_dueFirst_5 rfl rfl ?_
    refine av_getI (pc := 6) (k := 3) (n := 259) C fl_X6_26 sk_4 rfl rfl dX6_dueFirst_6 ?_
    refine av_icmp_ge (pc := 9) (tgt := 39) C dX6_dueFirst_9 (by decide) (fun hc => ?_) (fun hc => ?_)
    · rw [if_pos hc] at hs
      refine av_iload_n (pc := 39) (j := 1) C dX6_dueFirst_39 rfl rfl ?_
      obtain ⟨rfl, rfl⟩ := am_inj2 hs
      exact av_iret C hr hlocks dX6_dueFirst_40
    · rw [if_neg hc] at hs
      refine av_aload_n (pc := 12) (j := 0) C dX6_dueFirst_12 rfl rfl ?_
      refine av_getR (pc := 13) (k := 2) (r := 27) C fl_X6_23 sk_4 rfl dX6_dueFirst_13 ?_
      refine av_iload_n (pc := 16) (j := 2) C dX6_dueFirst_16 rfl rfl ?_
      obtain ⟨x2, S1, hc3, hs⟩ := am_b2_of hs
      refine av_eq (st2 := [am_I b2, am_R 27]) rfl rfl rfl rfl (av_callV (pc := 17) (as := [am_I b2]) (rest := []) C (ct_X4_at l G 27 60 32 sk_27 sk_60 rfl b2 S x2 S1 hc3) ym_X4_at si_X6_37 im_X4_at se_X4_at sk_27 rfl ⟨Nat.le_of_ble_eq_true rfl, Nat.le_of_ble_eq_true rfl⟩ rfl rfl (Nat.le_of_ble_eq_true rfl) dX6_dueFirst_17 ⟨Nat.le_refl _, Nat.le_refl _⟩ (fun hrv => av_eq (st2 := [am_I x2]) rfl rfl rfl rfl ?_))
      refine av_aload_n (pc := 20) (j := 0) C dX6_dueFirst_20 rfl rfl ?_
      refine av_getR (pc := 21) (k := 2) (r := 27) C fl_X6_23 sk_4 rfl dX6_dueFirst_21 ?_
      refine av_iload_n (pc := 24) (j := 1) C dX6_dueFirst_24 rfl rfl ?_
      obtain ⟨x5, S4, hc6, hs⟩ := am_b2_of hs
      refine av_eq (st2 := [am_I b1, am_R 27, am_I x2]) rfl rfl rfl rfl (av_callV (pc := 25) (as := [am_I b1]) (rest := [am_I x2]) C (ct_X4_at l G 27 60 32 sk_27 sk_60 rfl b1 S1 x5 S4 hc6) ym_X4_at si_X6_37 im_X4_at se_X4_at sk_27 rfl ⟨Nat.le_of_ble_eq_true rfl, Nat.le_of_ble_eq_true rfl⟩ rfl rfl (Nat.le_of_ble_eq_true rfl) dX6_dueFirst_25 ⟨Nat.le_refl _, Nat.le_refl _⟩ (fun hrv => av_eq (st2 := [am_I x5, am_I x2]) rfl rfl rfl rfl ?_))
      refine av_icmp_ge (pc := 28) (tgt := 33) C dX6_dueFirst_28 (by decide) (fun hc => ?_) (fun hc => ?_)
      · rw [if_pos hc] at hs
        refine av_iinc (pc := 33) (j := 2) (lv2 := [(2, am_I (am_w32 (b2 + 1))), (0, am_R 4), (1, am_I b1)]) C dX6_dueFirst_33 rfl (by decide) rfl ?_
        refine av_goto (pc := 36) (tgt := 4) C dX6_dueFirst_36 (by decide) ?_
        refine av_lvsub (lv2 := [(0, am_R 4), (1, am_I b1), (2, am_I (am_w32 (b2 + 1)))]) [1, 2, 0] rfl ?_
        exact ih b1 (am_w32 (b2 + 1)) S4 x S2 hs
      · rw [if_neg hc] at hs
        refine av_iload_n (pc := 31) (j := 2) C dX6_dueFirst_31 rfl rfl ?_
        refine av_istore_n (pc := 32) (i := 1) (lv2 := [(1, am_I b2), (0, am_R 4), (2, am_I b2)]) C dX6_dueFirst_32 rfl (by decide) rfl ?_
        refine av_iinc (pc := 33) (j := 2) (lv2 := [(2, am_I (am_w32 (b2 + 1))), (1, am_I b2), (0, am_R 4)]) C dX6_dueFirst_33 rfl (by decide) rfl ?_
        refine av_goto (pc := 36) (tgt := 4) C dX6_dueFirst_36 (by decide) ?_
        refine av_lvsub (lv2 := [(0, am_R 4), (1, am_I b2), (2, am_I (am_w32 (b2 + 1)))]) [2, 1, 0] rfl ?_
        exact ih b2 (am_w32 (b2 + 1)) S4 x S2 hs
def sf_X6_dueFirst (S : am_S) : Option (Int × am_S) := (sf_X6_dueFirst_4 1000 0 1 S)
set_option maxHeartbeats 4000000 in
set_option maxRecDepth 100000 in
theorem ct_X6_dueFirst (l : Launch) (G : am_G) (S : am_S) (x : Int) (S2 : am_S) (hs : sf_X6_dueFirst  S = some (x, S2)) : am_met l yX6_dueFirst cX6_dueFirst 3 (some .int) 1 21 G [am_R 4] S (some (am_I x)) S2 := by
  refine am_enter ym_X6_dueFirst (Nat.le_of_ble_eq_true rfl) ?_
  intro p e s m args below meth c C hr hlocks
  refine av_eq (lv2 := [(0, am_R 4)]) rfl rfl rfl rfl ?_
  unfold sf_X6_dueFirst at hs
  refine av_iconst (pc := 0) C dX6_dueFirst_0 rfl ?_
  refine av_istore_n (pc := 1) (i := 1) (lv2 := [(1, am_I 0), (0, am_R 4)]) C dX6_dueFirst_1 rfl (by decide) rfl ?_
  refine av_iconst (pc := 2) C dX6_dueFirst_2 rfl ?_
  refine av_istore_n (pc := 3) (i := 2) (lv2 := [(2, am_I 1), (1, am_I 0), (0, am_R 4)]) C dX6_dueFirst_3 rfl (by decide) rfl ?_
  refine av_lvsub (lv2 := [(0, am_R 4), (1, am_I 0), (2, am_I 1)]) [2, 1, 0] rfl ?_
  exact wk_X6_dueFirst_4 C hr hlocks 1000 0 1 S x S2 hs
def sf_X6_functionOf (a1 : Int) (S : am_S) : Option (Int × am_S) := (am_b2 (sf_X4_at 58 32 a1 S) (fun x2 S1 => (some (x2, S1))))
set_option maxHeartbeats 4000000 in
set_option maxRecDepth 100000 in
theorem ct_X6_functionOf (l : Launch) (G : am_G) (a1 : Int) (S : am_S) (x : Int) (S2 : am_S) (hs : sf_X6_functionOf a1 S = some (x, S2)) : am_met l yX6_functionOf cX6_functionOf 2 (some .int) 1 21 G [am_R 4, am_I a1] S (some (am_I x)) S2 := by
  refine am_enter ym_X6_functionOf (Nat.le_of_ble_eq_true rfl) ?_
  intro p e s m args below meth c C hr hlocks
  refine av_eq (lv2 := [(0, am_R 4), (1, am_I a1)]) rfl rfl rfl rfl ?_
  unfold sf_X6_functionOf at hs
  refine av_aload_n (pc := 0) (j := 0) C dX6_functionOf_0 rfl rfl ?_
  refine av_getR (pc := 1) (k := 0) (r := 25) C fl_X6_14 sk_4 rfl dX6_functionOf_1 ?_
  refine av_iload_n (pc := 4) (j := 1) C dX6_functionOf_4 rfl rfl ?_
  obtain ⟨x2, S1, hc3, hs⟩ := am_b2_of hs
  refine av_eq (st2 := [am_I a1, am_R 25]) rfl rfl rfl rfl (av_callV (pc := 5) (as := [am_I a1]) (rest := []) C (ct_X4_at l G 25 58 32 sk_25 sk_58 rfl a1 S x2 S1 hc3) ym_X4_at si_X6_37 im_X4_at se_X4_at sk_25 rfl ⟨Nat.le_of_ble_eq_true rfl, Nat.le_of_ble_eq_true rfl⟩ rfl rfl (Nat.le_of_ble_eq_true rfl) dX6_functionOf_5 ⟨Nat.le_refl _, Nat.le_refl _⟩ (fun hrv => av_eq (st2 := [am_I x2]) rfl rfl rfl rfl ?_))
  obtain ⟨rfl, rfl⟩ := am_inj2 hs
  exact av_iret C hr hlocks dX6_functionOf_8
def sf_X6_valueOf (a1 : Int) (S : am_S) : Option (Int × am_S) := (am_b2 (sf_X4_valueAt 59 32 a1 S) (fun x2 S1 => (some (x2, S1))))
set_option maxHeartbeats 4000000 in
set_option maxRecDepth 100000 in
theorem ct_X6_valueOf (l : Launch) (G : am_G) (a1 : Int) (S : am_S) (x : Int) (S2 : am_S) (hs : sf_X6_valueOf a1 S = some (x, S2)) : am_met l yX6_valueOf cX6_valueOf 2 (some .long) 1 21 G [am_R 4, am_I a1] S (some (am_J x)) S2 := by
  refine am_enter ym_X6_valueOf (Nat.le_of_ble_eq_true rfl) ?_
  intro p e s m args below meth c C hr hlocks
  refine av_eq (lv2 := [(0, am_R 4), (1, am_I a1)]) rfl rfl rfl rfl ?_
  unfold sf_X6_valueOf at hs
  refine av_aload_n (pc := 0) (j := 0) C dX6_valueOf_0 rfl rfl ?_
  refine av_getR (pc := 1) (k := 1) (r := 26) C fl_X6_20 sk_4 rfl dX6_valueOf_1 ?_
  refine av_iload_n (pc := 4) (j := 1) C dX6_valueOf_4 rfl rfl ?_
  obtain ⟨x2, S1, hc3, hs⟩ := am_b2_of hs
  refine av_eq (st2 := [am_I a1, am_R 26]) rfl rfl rfl rfl (av_callV (pc := 5) (as := [am_I a1]) (rest := []) C (ct_X4_valueAt l G 26 59 32 sk_26 sk_59 rfl a1 S x2 S1 hc3) ym_X4_valueAt si_X6_41 im_X4_valueAt se_X4_valueAt sk_26 rfl ⟨Nat.le_of_ble_eq_true rfl, Nat.le_of_ble_eq_true rfl⟩ rfl rfl (Nat.le_of_ble_eq_true rfl) dX6_valueOf_5 ⟨Nat.le_refl _, Nat.le_refl _⟩ (fun hrv => av_eq (st2 := [am_J x2]) rfl rfl rfl rfl ?_))
  obtain ⟨rfl, rfl⟩ := am_inj2 hs
  exact av_lret C hr hlocks dX6_valueOf_8
def sf_X6_finish_31 : Nat → (b2 : Int) → (S : am_S) → Option (am_S)
  | 0, _, _ => none
  | fu + 1, b2, S => (if (S.1 259) ≤ b2 then (some S) else (am_b2 (sf_X4_at 58 32 (am_w32 (b2 + 1)) S) (fun x7 S6 => (am_b1 (sf_X4_put 58 32 b2 x7 S6) (fun S9 => (am_b2 (sf_X4_valueAt 59 32 (am_w32 (b2 + 1)) S9) (fun x12 S11 => (am_b1 (sf_X4_put 59 32 b2 x12 S11) (fun S14 => (am_b2 (sf_X4_at 60 32 (am_w32 (b2 + 1)) S14) (fun x17 S16 => (am_b1 (sf_X4_put 60 32 b2 x17 S16) (fun S19 => (sf_X6_finish_31 fu (am_w32 (b2 + 1)) S19))))))))))))))
set_option maxHeartbeats 4000000 in
set_option maxRecDepth 100000 in
theorem wk_X6_finish_31 {p : Program} {l : Launch} {e : Env} {s : State} {m : MethodId} {args : Array Value} {below : List Frame} {meth : Method} {c : Code} {G : am_G} (C : am_C p s m args c cX6_finish 3 RX6 G) (hr : meth.sig.returnType = none) (hlocks : meth.locks = false) : ∀ (fu : Nat) (b2 : Int) (S : am_S) (S2 : am_S), sf_X6_finish_31 fu b2 S = some S2 → am_V p l e (am_rm 1 23) s m args below meth c (MQ below (am_Q G none S2) args s 0 0 (am_A G)) G (am_A G) s.heap 3 0 0 31 [(0, am_R 4), (2, am_I b2)] [] S := by
  intro fu
  induction fu with
  | zero => intro b2 S S2 hs; cases hs
  | succ fu ih =>
    intro b2 S S2 hs
    unfold sf_X6_finish_31 at hs
    refine av_iload_n (pc := 31) (j := 1) C dX6_finish_31 rfl rfl ?_
    refine av_aload_n (pc := 32) (j := 0) C dX6_finish_32 rfl rfl ?_
    refine av_getI (pc := 33) (k := 3) (n := 259) C fl_X6_26 sk_4 rfl rfl dX6_finish_33 ?_
    refine av_icmp_ge (pc := 36) (tgt := 101) C dX6_finish_36 (by decide) (fun hc => ?_) (fun hc => ?_)
    · rw [if_pos hc] at hs
      obtain rfl := am_inj1 hs
      exact av_vret C hr hlocks dX6_finish_101
    · rw [if_neg hc] at hs
      refine av_aload_n (pc := 39) (j := 0) C dX6_finish_39 rfl rfl ?_
      refine av_getR (pc := 40) (k := 0) (r := 25) C fl_X6_14 sk_4 rfl dX6_finish_40 ?_
      refine av_iload_n (pc := 43) (j := 1) C dX6_finish_43 rfl rfl ?_
      refine av_aload_n (pc := 44) (j := 0) C dX6_finish_44 rfl rfl ?_
      refine av_getR (pc := 45) (k := 0) (r := 25) C fl_X6_14 sk_4 rfl dX6_finish_45 ?_
      refine av_iload_n (pc := 48) (j := 1) C dX6_finish_48 rfl rfl ?_
      refine av_iconst (pc := 49) C dX6_finish_49 rfl ?_
      refine av_iadd (pc := 50) C dX6_finish_50 ?_
      obtain ⟨x7, S6, hc8, hs⟩ := am_b2_of hs
      refine av_eq (st2 := [am_I (am_w32 (b2 + 1)), am_R 25, am_I b2, am_R 25]) rfl rfl rfl rfl (av_callV (pc := 51) (as := [am_I (am_w32 (b2 + 1))]) (rest := [am_I b2, am_R 25]) C (ct_X4_at l G 25 58 32 sk_25 sk_58 rfl (am_w32 (b2 + 1)) S x7 S6 hc8) ym_X4_at si_X6_37 im_X4_at se_X4_at sk_25 rfl ⟨Nat.le_of_ble_eq_true rfl, Nat.le_of_ble_eq_true rfl⟩ rfl rfl (Nat.le_of_ble_eq_true rfl) dX6_finish_51 ⟨Nat.le_refl _, Nat.le_refl _⟩ (fun hrv => av_eq (st2 := [am_I x7, am_I b2, am_R 25]) rfl rfl rfl rfl ?_))
      refine av_i2l (pc := 54) C dX6_finish_54 ?_
      obtain ⟨S9, hc10, hs⟩ := am_b1_of hs
      refine av_eq (st2 := [am_J x7, am_I b2, am_R 25]) rfl rfl rfl rfl (av_callV (pc := 55) (as := [am_I b2, am_J x7]) (rest := []) C (ct_X4_put l G 25 58 32 sk_25 sk_58 rfl b2 x7 S6 S9 hc10) ym_X4_put si_X6_33 im_X4_put se_X4_put sk_25 rfl ⟨Nat.le_of_ble_eq_true rfl, Nat.le_of_ble_eq_true rfl⟩ rfl rfl (Nat.le_of_ble_eq_true rfl) dX6_finish_55 ⟨Nat.le_refl _, Nat.le_refl _⟩ (fun hrv => av_eq (st2 := []) rfl rfl rfl rfl ?_))
      refine av_aload_n (pc := 58) (j := 0) C dX6_finish_58 rfl rfl ?_
      refine av_getR (pc := 59) (k := 1) (r := 26) C fl_X6_20 sk_4 rfl dX6_finish_59 ?_
      refine av_iload_n (pc := 62) (j := 1) C dX6_finish_62 rfl rfl ?_
      refine av_aload_n (pc := 63) (j := 0) C dX6_finish_63 rfl rfl ?_
      refine av_getR (pc := 64) (k := 1) (r := 26) C fl_X6_20 sk_4 rfl dX6_finish_64 ?_
      refine av_iload_n (pc := 67) (j := 1) C dX6_finish_67 rfl rfl ?_
      refine av_iconst (pc := 68) C dX6_finish_68 rfl ?_
      refine av_iadd (pc := 69) C dX6_finish_69 ?_
      obtain ⟨x12, S11, hc13, hs⟩ := am_b2_of hs
      refine av_eq (st2 := [am_I (am_w32 (b2 + 1)), am_R 26, am_I b2, am_R 26]) rfl rfl rfl rfl (av_callV (pc := 70) (as := [am_I (am_w32 (b2 + 1))]) (rest := [am_I b2, am_R 26]) C (ct_X4_valueAt l G 26 59 32 sk_26 sk_59 rfl (am_w32 (b2 + 1)) S9 x12 S11 hc13) ym_X4_valueAt si_X6_41 im_X4_valueAt se_X4_valueAt sk_26 rfl ⟨Nat.le_of_ble_eq_true rfl, Nat.le_of_ble_eq_true rfl⟩ rfl rfl (Nat.le_of_ble_eq_true rfl) dX6_finish_70 ⟨Nat.le_refl _, Nat.le_refl _⟩ (fun hrv => av_eq (st2 := [am_J x12, am_I b2, am_R 26]) rfl rfl rfl rfl ?_))
      obtain ⟨S14, hc15, hs⟩ := am_b1_of hs
      refine av_eq (st2 := [am_J x12, am_I b2, am_R 26]) rfl rfl rfl rfl (av_callV (pc := 73) (as := [am_I b2, am_J x12]) (rest := []) C (ct_X4_put l G 26 59 32 sk_26 sk_59 rfl b2 x12 S11 S14 hc15) ym_X4_put si_X6_33 im_X4_put se_X4_put sk_26 rfl ⟨Nat.le_of_ble_eq_true rfl, Nat.le_of_ble_eq_true rfl⟩ rfl rfl (Nat.le_of_ble_eq_true rfl) dX6_finish_73 ⟨Nat.le_refl _, Nat.le_refl _⟩ (fun hrv => av_eq (st2 := []) rfl rfl rfl rfl ?_))
      refine av_aload_n (pc := 76) (j := 0) C dX6_finish_76 rfl rfl ?_
      refine av_getR (pc := 77) (k := 2) (r := 27) C fl_X6_23 sk_4 rfl dX6_finish_77 ?_
      refine av_iload_n (pc := 80) (j := 1) C dX6_finish_80 rfl rfl ?_
      refine av_aload_n (pc := 81) (j := 0) C dX6_finish_81 rfl rfl ?_
      refine av_getR (pc := 82) (k := 2) (r := 27) C fl_X6_23 sk_4 rfl dX6_finish_82 ?_
      refine av_iload_n (pc := 85) (j := 1) C dX6_finish_85 rfl rfl ?_
      refine av_iconst (pc := 86) C dX6_finish_86 rfl ?_
      refine av_iadd (pc := 87) C dX6_finish_87 ?_
      obtain ⟨x17, S16, hc18, hs⟩ := am_b2_of hs
      refine av_eq (st2 := [am_I (am_w32 (b2 + 1)), am_R 27, am_I b2, am_R 27]) rfl rfl rfl rfl (av_callV (pc := 88) (as := [am_I (am_w32 (b2 + 1))]) (rest := [am_I b2, am_R 27]) C (ct_X4_at l G 27 60 32 sk_27 sk_60 rfl (am_w32 (b2 + 1)) S14 x17 S16 hc18) ym_X4_at si_X6_37 im_X4_at se_X4_at sk_27 rfl ⟨Nat.le_of_ble_eq_true rfl, Nat.le_of_ble_eq_true rfl⟩ rfl rfl (Nat.le_of_ble_eq_true rfl) dX6_finish_88 ⟨Nat.le_refl _, Nat.le_refl _⟩ (fun hrv => av_eq (st2 := [am_I x17, am_I b2, am_R 27]) rfl rfl rfl rfl ?_))
      refine av_i2l (pc := 91) C dX6_finish_91 ?_
      obtain ⟨S19, hc20, hs⟩ := am_b1_of hs
      refine av_eq (st2 := [am_J x17, am_I b2, am_R 27]) rfl rfl rfl rfl (av_callV (pc := 92) (as := [am_I b2, am_J x17]) (rest := []) C (ct_X4_put l G 27 60 32 sk_27 sk_60 rfl b2 x17 S16 S19 hc20) ym_X4_put si_X6_33 im_X4_put se_X4_put sk_27 rfl ⟨Nat.le_of_ble_eq_true rfl, Nat.le_of_ble_eq_true rfl⟩ rfl rfl (Nat.le_of_ble_eq_true rfl) dX6_finish_92 ⟨Nat.le_refl _, Nat.le_refl _⟩ (fun hrv => av_eq (st2 := []) rfl rfl rfl rfl ?_))
      refine av_iinc (pc := 95) (j := 1) (lv2 := [(2, am_I (am_w32 (b2 + 1))), (0, am_R 4)]) C dX6_finish_95 rfl (by decide) rfl ?_
      refine av_goto (pc := 98) (tgt := 31) C dX6_finish_98 (by decide) ?_
      refine av_lvsub (lv2 := [(0, am_R 4), (2, am_I (am_w32 (b2 + 1)))]) [1, 0] rfl ?_
      exact ih (am_w32 (b2 + 1)) S19 S2 hs
def sf_X6_finish (a1 : Int) (S : am_S) : Option (am_S) := (am_b2 (sf_X4_at 60 32 a1 S) (fun x2 S1 => (am_let (am_sI S1 260 (am_max (S.1 260) x2)) (fun S4 => (am_let (am_sI S4 259 (am_w32 ((S4.1 259) - 1))) (fun S5 => (sf_X6_finish_31 1000 a1 S5)))))))
set_option maxHeartbeats 4000000 in
set_option maxRecDepth 100000 in
theorem ct_X6_finish (l : Launch) (G : am_G) (a1 : Int) (S : am_S) (S2 : am_S) (hs : sf_X6_finish a1 S = some S2) : am_met l yX6_finish cX6_finish 3 none 1 23 G [am_R 4, am_I a1] S none S2 := by
  refine am_enter ym_X6_finish (Nat.le_of_ble_eq_true rfl) ?_
  intro p e s m args below meth c C hr hlocks
  refine av_eq (lv2 := [(0, am_R 4), (1, am_I a1)]) rfl rfl rfl rfl ?_
  unfold sf_X6_finish at hs
  refine av_aload_n (pc := 0) (j := 0) C dX6_finish_0 rfl rfl ?_
  refine av_aload_n (pc := 1) (j := 0) C dX6_finish_1 rfl rfl ?_
  refine av_getI (pc := 2) (k := 4) (n := 260) C fl_X6_30 sk_4 rfl rfl dX6_finish_2 ?_
  refine av_aload_n (pc := 5) (j := 0) C dX6_finish_5 rfl rfl ?_
  refine av_getR (pc := 6) (k := 2) (r := 27) C fl_X6_23 sk_4 rfl dX6_finish_6 ?_
  refine av_iload_n (pc := 9) (j := 1) C dX6_finish_9 rfl rfl ?_
  obtain ⟨x2, S1, hc3, hs⟩ := am_b2_of hs
  refine av_eq (st2 := [am_I a1, am_R 27, am_I (S.1 260), am_R 4]) rfl rfl rfl rfl (av_callV (pc := 10) (as := [am_I a1]) (rest := [am_I (S.1 260), am_R 4]) C (ct_X4_at l G 27 60 32 sk_27 sk_60 rfl a1 S x2 S1 hc3) ym_X4_at si_X6_37 im_X4_at se_X4_at sk_27 rfl ⟨Nat.le_of_ble_eq_true rfl, Nat.le_of_ble_eq_true rfl⟩ rfl rfl (Nat.le_of_ble_eq_true rfl) dX6_finish_10 ⟨Nat.le_refl _, Nat.le_refl _⟩ (fun hrv => av_eq (st2 := [am_I x2, am_I (S.1 260), am_R 4]) rfl rfl rfl rfl ?_))
  refine av_mmax (pc := 13) C si_X6_45 st_M_max ini_M cod_M_max ⟨Nat.le_of_ble_eq_true rfl, Nat.le_of_ble_eq_true rfl⟩ (Nat.le_of_ble_eq_true rfl) dX6_finish_13 ⟨Nat.le_refl _, Nat.le_refl _⟩ ?_
  obtain ⟨S4, eS4, hs⟩ := am_let_of hs
  refine av_putI (pc := 16) (k := 4) (n := 260) C fp_X6_30 sk_4 rfl rfl dX6_finish_16 ?_
  refine av_eq rfl rfl rfl eS4 ?_
  refine av_aload_n (pc := 19) (j := 0) C dX6_finish_19 rfl rfl ?_
  refine av_dup (pc := 20) C dX6_finish_20 rfl ?_
  refine av_getI (pc := 21) (k := 3) (n := 259) C fl_X6_26 sk_4 rfl rfl dX6_finish_21 ?_
  refine av_iconst (pc := 24) C dX6_finish_24 rfl ?_
  refine av_isub (pc := 25) C dX6_finish_25 ?_
  obtain ⟨S5, eS5, hs⟩ := am_let_of hs
  refine av_putI (pc := 26) (k := 3) (n := 259) C fp_X6_26 sk_4 rfl rfl dX6_finish_26 ?_
  refine av_eq rfl rfl rfl eS5 ?_
  refine av_iload_n (pc := 29) (j := 1) C dX6_finish_29 rfl rfl ?_
  refine av_istore_n (pc := 30) (i := 2) (lv2 := [(2, am_I a1), (0, am_R 4), (1, am_I a1)]) C dX6_finish_30 rfl (by decide) rfl ?_
  refine av_lvsub (lv2 := [(0, am_R 4), (2, am_I a1)]) [1, 0] rfl ?_
  exact wk_X6_finish_31 C hr hlocks 1000 a1 S5 S2 hs
def sf_X7_clear (S : am_S) : Option (am_S) := (am_b1 (sf_X4_fill 52 4 3 S) (fun S1 => (some S1)))
set_option maxHeartbeats 4000000 in
set_option maxRecDepth 100000 in
theorem ct_X7_clear (l : Launch) (G : am_G) (S : am_S) (S2 : am_S) (hs : sf_X7_clear  S = some S2) : am_met l yX7_clear cX7_clear 1 none 1 23 G [am_R 2] S none S2 := by
  refine am_enter ym_X7_clear (Nat.le_of_ble_eq_true rfl) ?_
  intro p e s m args below meth c C hr hlocks
  refine av_eq (lv2 := [(0, am_R 2)]) rfl rfl rfl rfl ?_
  unfold sf_X7_clear at hs
  refine av_aload_n (pc := 0) (j := 0) C dX7_clear_0 rfl rfl ?_
  refine av_getR (pc := 1) (k := 0) (r := 19) C fl_X7_14 sk_2 rfl dX7_clear_1 ?_
  refine av_ldc2 (pc := 4) C co_X7_29 (by unfold am_r64; omega) dX7_clear_4 ?_
  obtain ⟨S1, hc2, hs⟩ := am_b1_of hs
  refine av_eq (st2 := [am_J 3, am_R 19]) rfl rfl rfl rfl (av_callV (pc := 7) (as := [am_J 3]) (rest := []) C (ct_X4_fill l G 19 52 4 sk_19 sk_52 rfl 3 S S1 hc2) ym_X4_fill si_X7_31 im_X4_fill se_X4_fill sk_19 rfl ⟨Nat.le_of_ble_eq_true rfl, Nat.le_of_ble_eq_true rfl⟩ rfl rfl (Nat.le_of_ble_eq_true rfl) dX7_clear_7 ⟨Nat.le_refl _, Nat.le_refl _⟩ (fun hrv => av_eq (st2 := []) rfl rfl rfl rfl ?_))
  obtain rfl := am_inj1 hs
  exact av_vret C hr hlocks dX7_clear_10
def sf_X7_change (a1 : Int) (a2 : Int) (a3 : Int) (a4 : Int) (S : am_S) : Option (am_S) := (am_b1 (sf_X4_put 52 4 a1 a2 S) (fun S1 => (am_b1 (sf_X4_put 53 4 a1 a3 S1) (fun S3 => (am_b1 (sf_X4_put 54 4 a1 a4 S3) (fun S5 => (some S5)))))))
set_option maxHeartbeats 4000000 in
set_option maxRecDepth 100000 in
theorem ct_X7_change (l : Launch) (G : am_G) (a1 : Int) (a2 : Int) (a3 : Int) (a4 : Int) (S : am_S) (S2 : am_S) (hs : sf_X7_change a1 a2 a3 a4 S = some S2) : am_met l yX7_change cX7_change 7 none 1 23 G [am_R 2, am_I a1, am_I a2, am_J a3, am_J a4] S none S2 := by
  refine am_enter ym_X7_change (Nat.le_of_ble_eq_true rfl) ?_
  intro p e s m args below meth c C hr hlocks
  refine av_eq (lv2 := [(0, am_R 2), (1, am_I a1), (2, am_I a2), (3, am_J a3), (5, am_J a4)]) rfl rfl rfl rfl ?_
  unfold sf_X7_change at hs
  refine av_aload_n (pc := 0) (j := 0) C dX7_change_0 rfl rfl ?_
  refine av_getR (pc := 1) (k := 0) (r := 19) C fl_X7_14 sk_2 rfl dX7_change_1 ?_
  refine av_iload_n (pc := 4) (j := 1) C dX7_change_4 rfl rfl ?_
  refine av_iload_n (pc := 5) (j := 2) C dX7_change_5 rfl rfl ?_
  refine av_i2l (pc := 6) C dX7_change_6 ?_
  obtain ⟨S1, hc2, hs⟩ := am_b1_of hs
  refine av_eq (st2 := [am_J a2, am_I a1, am_R 19]) rfl rfl rfl rfl (av_callV (pc := 7) (as := [am_I a1, am_J a2]) (rest := []) C (ct_X4_put l G 19 52 4 sk_19 sk_52 rfl a1 a2 S S1 hc2) ym_X4_put si_X7_35 im_X4_put se_X4_put sk_19 rfl ⟨Nat.le_of_ble_eq_true rfl, Nat.le_of_ble_eq_true rfl⟩ rfl rfl (Nat.le_of_ble_eq_true rfl) dX7_change_7 ⟨Nat.le_refl _, Nat.le_refl _⟩ (fun hrv => av_eq (st2 := []) rfl rfl rfl rfl ?_))
  refine av_aload_n (pc := 10) (j := 0) C dX7_change_10 rfl rfl ?_
  refine av_getR (pc := 11) (k := 1) (r := 20) C fl_X7_20 sk_2 rfl dX7_change_11 ?_
  refine av_iload_n (pc := 14) (j := 1) C dX7_change_14 rfl rfl ?_
  refine av_lload_n (pc := 15) (j := 3) C dX7_change_15 rfl rfl ?_
  obtain ⟨S3, hc4, hs⟩ := am_b1_of hs
  refine av_eq (st2 := [am_J a3, am_I a1, am_R 20]) rfl rfl rfl rfl (av_callV (pc := 16) (as := [am_I a1, am_J a3]) (rest := []) C (ct_X4_put l G 20 53 4 sk_20 sk_53 rfl a1 a3 S1 S3 hc4) ym_X4_put si_X7_35 im_X4_put se_X4_put sk_20 rfl ⟨Nat.le_of_ble_eq_true rfl, Nat.le_of_ble_eq_true rfl⟩ rfl rfl (Nat.le_of_ble_eq_true rfl) dX7_change_16 ⟨Nat.le_refl _, Nat.le_refl _⟩ (fun hrv => av_eq (st2 := []) rfl rfl rfl rfl ?_))
  refine av_aload_n (pc := 19) (j := 0) C dX7_change_19 rfl rfl ?_
  refine av_getR (pc := 20) (k := 2) (r := 21) C fl_X7_23 sk_2 rfl dX7_change_20 ?_
  refine av_iload_n (pc := 23) (j := 1) C dX7_change_23 rfl rfl ?_
  refine av_lload (pc := 24) (j := 4) C dX7_change_24 rfl ?_
  obtain ⟨S5, hc6, hs⟩ := am_b1_of hs
  refine av_eq (st2 := [am_J a4, am_I a1, am_R 21]) rfl rfl rfl rfl (av_callV (pc := 26) (as := [am_I a1, am_J a4]) (rest := []) C (ct_X4_put l G 21 54 4 sk_21 sk_54 rfl a1 a4 S3 S5 hc6) ym_X4_put si_X7_35 im_X4_put se_X4_put sk_21 rfl ⟨Nat.le_of_ble_eq_true rfl, Nat.le_of_ble_eq_true rfl⟩ rfl rfl (Nat.le_of_ble_eq_true rfl) dX7_change_26 ⟨Nat.le_refl _, Nat.le_refl _⟩ (fun hrv => av_eq (st2 := []) rfl rfl rfl rfl ?_))
  obtain rfl := am_inj1 hs
  exact av_vret C hr hlocks dX7_change_29
def sf_X7_kindOf (a1 : Int) (S : am_S) : Option (Int × am_S) := (am_b2 (sf_X4_at 52 4 a1 S) (fun x2 S1 => (some (x2, S1))))
set_option maxHeartbeats 4000000 in
set_option maxRecDepth 100000 in
theorem ct_X7_kindOf (l : Launch) (G : am_G) (a1 : Int) (S : am_S) (x : Int) (S2 : am_S) (hs : sf_X7_kindOf a1 S = some (x, S2)) : am_met l yX7_kindOf cX7_kindOf 2 (some .int) 1 21 G [am_R 2, am_I a1] S (some (am_I x)) S2 := by
  refine am_enter ym_X7_kindOf (Nat.le_of_ble_eq_true rfl) ?_
  intro p e s m args below meth c C hr hlocks
  refine av_eq (lv2 := [(0, am_R 2), (1, am_I a1)]) rfl rfl rfl rfl ?_
  unfold sf_X7_kindOf at hs
  refine av_aload_n (pc := 0) (j := 0) C dX7_kindOf_0 rfl rfl ?_
  refine av_getR (pc := 1) (k := 0) (r := 19) C fl_X7_14 sk_2 rfl dX7_kindOf_1 ?_
  refine av_iload_n (pc := 4) (j := 1) C dX7_kindOf_4 rfl rfl ?_
  obtain ⟨x2, S1, hc3, hs⟩ := am_b2_of hs
  refine av_eq (st2 := [am_I a1, am_R 19]) rfl rfl rfl rfl (av_callV (pc := 5) (as := [am_I a1]) (rest := []) C (ct_X4_at l G 19 52 4 sk_19 sk_52 rfl a1 S x2 S1 hc3) ym_X4_at si_X7_39 im_X4_at se_X4_at sk_19 rfl ⟨Nat.le_of_ble_eq_true rfl, Nat.le_of_ble_eq_true rfl⟩ rfl rfl (Nat.le_of_ble_eq_true rfl) dX7_kindOf_5 ⟨Nat.le_refl _, Nat.le_refl _⟩ (fun hrv => av_eq (st2 := [am_I x2]) rfl rfl rfl rfl ?_))
  obtain ⟨rfl, rfl⟩ := am_inj2 hs
  exact av_iret C hr hlocks dX7_kindOf_8
def sf_X7_uOf (a1 : Int) (S : am_S) : Option (Int × am_S) := (am_b2 (sf_X4_valueAt 53 4 a1 S) (fun x2 S1 => (some (x2, S1))))
set_option maxHeartbeats 4000000 in
set_option maxRecDepth 100000 in
theorem ct_X7_uOf (l : Launch) (G : am_G) (a1 : Int) (S : am_S) (x : Int) (S2 : am_S) (hs : sf_X7_uOf a1 S = some (x, S2)) : am_met l yX7_uOf cX7_uOf 2 (some .long) 1 21 G [am_R 2, am_I a1] S (some (am_J x)) S2 := by
  refine am_enter ym_X7_uOf (Nat.le_of_ble_eq_true rfl) ?_
  intro p e s m args below meth c C hr hlocks
  refine av_eq (lv2 := [(0, am_R 2), (1, am_I a1)]) rfl rfl rfl rfl ?_
  unfold sf_X7_uOf at hs
  refine av_aload_n (pc := 0) (j := 0) C dX7_uOf_0 rfl rfl ?_
  refine av_getR (pc := 1) (k := 1) (r := 20) C fl_X7_20 sk_2 rfl dX7_uOf_1 ?_
  refine av_iload_n (pc := 4) (j := 1) C dX7_uOf_4 rfl rfl ?_
  obtain ⟨x2, S1, hc3, hs⟩ := am_b2_of hs
  refine av_eq (st2 := [am_I a1, am_R 20]) rfl rfl rfl rfl (av_callV (pc := 5) (as := [am_I a1]) (rest := []) C (ct_X4_valueAt l G 20 53 4 sk_20 sk_53 rfl a1 S x2 S1 hc3) ym_X4_valueAt si_X7_43 im_X4_valueAt se_X4_valueAt sk_20 rfl ⟨Nat.le_of_ble_eq_true rfl, Nat.le_of_ble_eq_true rfl⟩ rfl rfl (Nat.le_of_ble_eq_true rfl) dX7_uOf_5 ⟨Nat.le_refl _, Nat.le_refl _⟩ (fun hrv => av_eq (st2 := [am_J x2]) rfl rfl rfl rfl ?_))
  obtain ⟨rfl, rfl⟩ := am_inj2 hs
  exact av_lret C hr hlocks dX7_uOf_8
def sf_X7_wOf (a1 : Int) (S : am_S) : Option (Int × am_S) := (am_b2 (sf_X4_valueAt 54 4 a1 S) (fun x2 S1 => (some (x2, S1))))
set_option maxHeartbeats 4000000 in
set_option maxRecDepth 100000 in
theorem ct_X7_wOf (l : Launch) (G : am_G) (a1 : Int) (S : am_S) (x : Int) (S2 : am_S) (hs : sf_X7_wOf a1 S = some (x, S2)) : am_met l yX7_wOf cX7_wOf 2 (some .long) 1 21 G [am_R 2, am_I a1] S (some (am_J x)) S2 := by
  refine am_enter ym_X7_wOf (Nat.le_of_ble_eq_true rfl) ?_
  intro p e s m args below meth c C hr hlocks
  refine av_eq (lv2 := [(0, am_R 2), (1, am_I a1)]) rfl rfl rfl rfl ?_
  unfold sf_X7_wOf at hs
  refine av_aload_n (pc := 0) (j := 0) C dX7_wOf_0 rfl rfl ?_
  refine av_getR (pc := 1) (k := 2) (r := 21) C fl_X7_23 sk_2 rfl dX7_wOf_1 ?_
  refine av_iload_n (pc := 4) (j := 1) C dX7_wOf_4 rfl rfl ?_
  obtain ⟨x2, S1, hc3, hs⟩ := am_b2_of hs
  refine av_eq (st2 := [am_I a1, am_R 21]) rfl rfl rfl rfl (av_callV (pc := 5) (as := [am_I a1]) (rest := []) C (ct_X4_valueAt l G 21 54 4 sk_21 sk_54 rfl a1 S x2 S1 hc3) ym_X4_valueAt si_X7_43 im_X4_valueAt se_X4_valueAt sk_21 rfl ⟨Nat.le_of_ble_eq_true rfl, Nat.le_of_ble_eq_true rfl⟩ rfl rfl (Nat.le_of_ble_eq_true rfl) dX7_wOf_5 ⟨Nat.le_refl _, Nat.le_refl _⟩ (fun hrv => av_eq (st2 := [am_J x2]) rfl rfl rfl rfl ?_))
  obtain ⟨rfl, rfl⟩ := am_inj2 hs
  exact av_lret C hr hlocks dX7_wOf_8
def sf_X9_promise (S : am_S) : Option (Int × am_S) := (am_b2 (sf_X3_isFull  S) (fun x2 S1 => (if x2 = 0 then (am_b2 (sf_X3_make  S1) (fun x5 S4 => (some (x5, S4)))) else (some ((-2), S1)))))
set_option maxHeartbeats 4000000 in
set_option maxRecDepth 100000 in
theorem ct_X9_promise (l : Launch) (G : am_G) (S : am_S) (x : Int) (S2 : am_S) (hs : sf_X9_promise  S = some (x, S2)) : am_met l yX9_promise cX9_promise 1 (some .int) 2 44 G [am_R 0] S (some (am_I x)) S2 := by
  refine am_enter ym_X9_promise (Nat.le_of_ble_eq_true rfl) ?_
  intro p e s m args below meth c C hr hlocks
  refine av_eq (lv2 := [(0, am_R 0)]) rfl rfl rfl rfl ?_
  unfold sf_X9_promise at hs
  refine av_aload_n (pc := 0) (j := 0) C dX9_promise_0 rfl rfl ?_
  refine av_getR (pc := 1) (k := 0) (r := 1) C fl_X9_12 sk_0 rfl dX9_promise_1 ?_
  obtain ⟨x2, S1, hc3, hs⟩ := am_b2_of hs
  refine av_eq (st2 := [am_R 1]) rfl rfl rfl rfl (av_callV (pc := 4) (as := []) (rest := []) C (ct_X3_isFull l G  S x2 S1 hc3) ym_X3_isFull si_X9_62 im_X3_isFull se_X3_isFull sk_1 rfl ⟨Nat.le_of_ble_eq_true rfl, Nat.le_of_ble_eq_true rfl⟩ rfl rfl (Nat.le_of_ble_eq_true rfl) dX9_promise_4 ⟨Nat.le_refl _, Nat.le_refl _⟩ (fun hrv => av_eq (st2 := [am_I x2]) rfl rfl rfl rfl ?_))
  refine av_if_eq (pc := 7) (tgt := 15) C dX9_promise_7 (by decide) (fun hc => ?_) (fun hc => ?_)
  · rw [if_pos hc] at hs
    refine av_aload_n (pc := 15) (j := 0) C dX9_promise_15 rfl rfl ?_
    refine av_getR (pc := 16) (k := 0) (r := 1) C fl_X9_12 sk_0 rfl dX9_promise_16 ?_
    obtain ⟨x5, S4, hc6, hs⟩ := am_b2_of hs
    refine av_eq (st2 := [am_R 1]) rfl rfl rfl rfl (av_callV (pc := 19) (as := []) (rest := []) C (ct_X3_make l G  S1 x5 S4 hc6) ym_X3_make si_X9_66 im_X3_make se_X3_make sk_1 rfl ⟨Nat.le_of_ble_eq_true rfl, Nat.le_of_ble_eq_true rfl⟩ rfl rfl (Nat.le_of_ble_eq_true rfl) dX9_promise_19 ⟨Nat.le_refl _, Nat.le_refl _⟩ (fun hrv => av_eq (st2 := [am_I x5]) rfl rfl rfl rfl ?_))
    obtain ⟨rfl, rfl⟩ := am_inj2 hs
    exact av_iret C hr hlocks dX9_promise_22
  · rw [if_neg hc] at hs
    refine av_bipush (pc := 10) C dX9_promise_10 rfl ?_
    refine av_goto (pc := 12) (tgt := 22) C dX9_promise_12 (by decide) ?_
    obtain ⟨rfl, rfl⟩ := am_inj2 hs
    exact av_iret C hr hlocks dX9_promise_22
def sf_X9_isValue (a1 : Int) (a2 : Int) (S : am_S) : Option (Int × am_S) := (am_b2 (sf_X3_made  S) (fun x2 S1 => (am_b2 (sf_X8_exists a1 a2 x2 S1) (fun x5 S4 => (am_gz x5 (some (x5, S4)))))))
set_option maxHeartbeats 4000000 in
set_option maxRecDepth 100000 in
theorem ct_X9_isValue (l : Launch) (G : am_G) (a1 : Int) (a2 : Int) (S : am_S) (x : Int) (S2 : am_S) (hs : sf_X9_isValue a1 a2 S = some (x, S2)) : am_met l yX9_isValue cX9_isValue 3 (some .boolean) 2 43 G [am_R 0, am_I a1, am_I a2] S (some (am_I x)) S2 := by
  refine am_enter ym_X9_isValue (Nat.le_of_ble_eq_true rfl) ?_
  intro p e s m args below meth c C hr hlocks
  refine av_eq (lv2 := [(0, am_R 0), (1, am_I a1), (2, am_I a2)]) rfl rfl rfl rfl ?_
  unfold sf_X9_isValue at hs
  refine av_iload_n (pc := 0) (j := 1) C dX9_isValue_0 rfl rfl ?_
  refine av_iload_n (pc := 1) (j := 2) C dX9_isValue_1 rfl rfl ?_
  refine av_aload_n (pc := 2) (j := 0) C dX9_isValue_2 rfl rfl ?_
  refine av_getR (pc := 3) (k := 0) (r := 1) C fl_X9_12 sk_0 rfl dX9_isValue_3 ?_
  obtain ⟨x2, S1, hc3, hs⟩ := am_b2_of hs
  refine av_eq (st2 := [am_R 1, am_I a2, am_I a1]) rfl rfl rfl rfl (av_callV (pc := 6) (as := []) (rest := [am_I a2, am_I a1]) C (ct_X3_made l G  S x2 S1 hc3) ym_X3_made si_X9_167 im_X3_made se_X3_made sk_1 rfl ⟨Nat.le_of_ble_eq_true rfl, Nat.le_of_ble_eq_true rfl⟩ rfl rfl (Nat.le_of_ble_eq_true rfl) dX9_isValue_6 ⟨Nat.le_refl _, Nat.le_refl _⟩ (fun hrv => av_eq (st2 := [am_I x2, am_I a2, am_I a1]) rfl rfl rfl rfl ?_))
  obtain ⟨x5, S4, hc6, hs⟩ := am_b2_of hs
  refine av_eq (st2 := [am_I x2, am_I a2, am_I a1]) rfl rfl rfl rfl (av_callS (pc := 9) (as := [am_I a1, am_I a2, am_I x2]) (rest := []) C (ct_X8_exists l G a1 a2 x2 S1 x5 S4 hc6) ym_X8_exists si_X9_284 st_X8_exists ⟨Nat.le_of_ble_eq_true rfl, Nat.le_of_ble_eq_true rfl⟩ rfl rfl (Nat.le_of_ble_eq_true rfl) dX9_isValue_9 ⟨Nat.le_refl _, Nat.le_refl _⟩ (fun hrv => av_eq (st2 := [am_I x5]) rfl rfl rfl rfl ?_))
  obtain ⟨hz, hs⟩ := am_gz_of hs
  obtain ⟨rfl, rfl⟩ := am_inj2 hs
  exact av_zret C hz hr hlocks dX9_isValue_12
def sf_X9_settleFromOutside (a1 : Int) (a2 : Int) (a3 : Int) (a4 : Int) (S : am_S) : Option (Int × am_S) := (am_b2 (sf_X3_has a1 S) (fun x2 S1 => (if x2 = 0 then (some (0, S1)) else (am_b2 (sf_X9_isValue a3 a4 S1) (fun x5 S4 => (if x5 = 0 then (some (0, S4)) else (am_b2 (sf_X8_of a3 a4 S4) (fun x8 S7 => (am_b1 (sf_X3_settleBy a1 a2 x8 0 S7) (fun S10 => (some (1, S10))))))))))))
set_option maxHeartbeats 4000000 in
set_option maxRecDepth 100000 in
theorem ct_X9_settleFromOutside (l : Launch) (G : am_G) (a1 : Int) (a2 : Int) (a3 : Int) (a4 : Int) (S : am_S) (x : Int) (S2 : am_S) (hs : sf_X9_settleFromOutside a1 a2 a3 a4 S = some (x, S2)) : am_met l yX9_settleFromOutside cX9_settleFromOutside 5 (some .boolean) 3 73 G [am_R 0, am_I a1, am_I a2, am_I a3, am_I a4] S (some (am_I x)) S2 := by
  refine am_enter ym_X9_settleFromOutside (Nat.le_of_ble_eq_true rfl) ?_
  intro p e s m args below meth c C hr hlocks
  refine av_eq (lv2 := [(0, am_R 0), (1, am_I a1), (2, am_I a2), (3, am_I a3), (4, am_I a4)]) rfl rfl rfl rfl ?_
  unfold sf_X9_settleFromOutside at hs
  refine av_aload_n (pc := 0) (j := 0) C dX9_settleFromOutside_0 rfl rfl ?_
  refine av_getR (pc := 1) (k := 0) (r := 1) C fl_X9_12 sk_0 rfl dX9_settleFromOutside_1 ?_
  refine av_iload_n (pc := 4) (j := 1) C dX9_settleFromOutside_4 rfl rfl ?_
  obtain ⟨x2, S1, hc3, hs⟩ := am_b2_of hs
  refine av_eq (st2 := [am_I a1, am_R 1]) rfl rfl rfl rfl (av_callV (pc := 5) (as := [am_I a1]) (rest := []) C (ct_X3_has l G a1 S x2 S1 hc3) ym_X3_has si_X9_74 im_X3_has se_X3_has sk_1 rfl ⟨Nat.le_of_ble_eq_true rfl, Nat.le_of_ble_eq_true rfl⟩ rfl rfl (Nat.le_of_ble_eq_true rfl) dX9_settleFromOutside_5 ⟨Nat.le_refl _, Nat.le_refl _⟩ (fun hrv => av_eq (st2 := [am_I x2]) rfl rfl rfl rfl ?_))
  refine av_if_eq (pc := 8) (tgt := 21) C dX9_settleFromOutside_8 (by decide) (fun hc => ?_) (fun hc => ?_)
  · rw [if_pos hc] at hs
    refine av_iconst (pc := 21) C dX9_settleFromOutside_21 rfl ?_
    obtain ⟨rfl, rfl⟩ := am_inj2 hs
    exact av_zret C (by decide) hr hlocks dX9_settleFromOutside_22
  · rw [if_neg hc] at hs
    refine av_aload_n (pc := 11) (j := 0) C dX9_settleFromOutside_11 rfl rfl ?_
    refine av_iload_n (pc := 12) (j := 3) C dX9_settleFromOutside_12 rfl rfl ?_
    refine av_iload (pc := 13) (j := 4) C dX9_settleFromOutside_13 rfl ?_
    obtain ⟨x5, S4, hc6, hs⟩ := am_b2_of hs
    refine av_eq (st2 := [am_I a4, am_I a3, am_R 0]) rfl rfl rfl rfl (av_callV (pc := 15) (as := [am_I a3, am_I a4]) (rest := []) C (ct_X9_isValue l G a3 a4 S1 x5 S4 hc6) ym_X9_isValue si_X9_78 im_X9_isValue se_X9_isValue sk_0 rfl ⟨Nat.le_of_ble_eq_true rfl, Nat.le_of_ble_eq_true rfl⟩ rfl rfl (Nat.le_of_ble_eq_true rfl) dX9_settleFromOutside_15 ⟨Nat.le_refl _, Nat.le_refl _⟩ (fun hrv => av_eq (st2 := [am_I x5]) rfl rfl rfl rfl ?_))
    refine av_if_ne (pc := 18) (tgt := 23) C dX9_settleFromOutside_18 (by decide) (fun hc => ?_) (fun hc => ?_)
    · rw [if_neg hc] at hs
      refine av_aload_n (pc := 23) (j := 0) C dX9_settleFromOutside_23 rfl rfl ?_
      refine av_getR (pc := 24) (k := 0) (r := 1) C fl_X9_12 sk_0 rfl dX9_settleFromOutside_24 ?_
      refine av_iload_n (pc := 27) (j := 1) C dX9_settleFromOutside_27 rfl rfl ?_
      refine av_iload_n (pc := 28) (j := 2) C dX9_settleFromOutside_28 rfl rfl ?_
      refine av_iload_n (pc := 29) (j := 3) C dX9_settleFromOutside_29 rfl rfl ?_
      refine av_iload (pc := 30) (j := 4) C dX9_settleFromOutside_30 rfl ?_
      obtain ⟨x8, S7, hc9, hs⟩ := am_b2_of hs
      refine av_eq (st2 := [am_I a4, am_I a3, am_I a2, am_I a1, am_R 1]) rfl rfl rfl rfl (av_callS (pc := 32) (as := [am_I a3, am_I a4]) (rest := [am_I a2, am_I a1, am_R 1]) C (ct_X8_of l G a3 a4 S4 x8 S7 hc9) ym_X8_of si_X9_82 st_X8_of ⟨Nat.le_of_ble_eq_true rfl, Nat.le_of_ble_eq_true rfl⟩ rfl rfl (Nat.le_of_ble_eq_true rfl) dX9_settleFromOutside_32 ⟨Nat.le_refl _, Nat.le_refl _⟩ (fun hrv => av_eq (st2 := [am_J x8, am_I a2, am_I a1, am_R 1]) rfl rfl rfl rfl ?_))
      refine av_iconst (pc := 35) C dX9_settleFromOutside_35 rfl ?_
      obtain ⟨S10, hc11, hs⟩ := am_b1_of hs
      refine av_eq (st2 := [am_I 0, am_J x8, am_I a2, am_I a1, am_R 1]) rfl rfl rfl rfl (av_callV (pc := 36) (as := [am_I a1, am_I a2, am_J x8, am_I 0]) (rest := []) C (ct_X3_settleBy l G a1 a2 x8 0 S7 S10 hc11) ym_X3_settleBy si_X9_88 im_X3_settleBy se_X3_settleBy sk_1 rfl ⟨Nat.le_of_ble_eq_true rfl, Nat.le_of_ble_eq_true rfl⟩ rfl rfl (Nat.le_of_ble_eq_true rfl) dX9_settleFromOutside_36 ⟨Nat.le_refl _, Nat.le_refl _⟩ (fun hrv => av_eq (st2 := []) rfl rfl rfl rfl ?_))
      refine av_iconst (pc := 39) C dX9_settleFromOutside_39 rfl ?_
      obtain ⟨rfl, rfl⟩ := am_inj2 hs
      exact av_zret C (by decide) hr hlocks dX9_settleFromOutside_40
    · rw [if_pos (Decidable.not_not.mp hc)] at hs
      refine av_iconst (pc := 21) C dX9_settleFromOutside_21 rfl ?_
      obtain ⟨rfl, rfl⟩ := am_inj2 hs
      exact av_zret C (by decide) hr hlocks dX9_settleFromOutside_22
def sf_X9_resolve (a1 : Int) (a2 : Int) (a3 : Int) (S : am_S) : Option (Int × am_S) := (am_b2 (sf_X9_settleFromOutside a1 1 a2 a3 S) (fun x2 S1 => (am_gz x2 (some (x2, S1)))))
set_option maxHeartbeats 4000000 in
set_option maxRecDepth 100000 in
theorem ct_X9_resolve (l : Launch) (G : am_G) (a1 : Int) (a2 : Int) (a3 : Int) (S : am_S) (x : Int) (S2 : am_S) (hs : sf_X9_resolve a1 a2 a3 S = some (x, S2)) : am_met l yX9_resolve cX9_resolve 4 (some .boolean) 4 97 G [am_R 0, am_I a1, am_I a2, am_I a3] S (some (am_I x)) S2 := by
  refine am_enter ym_X9_resolve (Nat.le_of_ble_eq_true rfl) ?_
  intro p e s m args below meth c C hr hlocks
  refine av_eq (lv2 := [(0, am_R 0), (1, am_I a1), (2, am_I a2), (3, am_I a3)]) rfl rfl rfl rfl ?_
  unfold sf_X9_resolve at hs
  refine av_aload_n (pc := 0) (j := 0) C dX9_resolve_0 rfl rfl ?_
  refine av_iload_n (pc := 1) (j := 1) C dX9_resolve_1 rfl rfl ?_
  refine av_iconst (pc := 2) C dX9_resolve_2 rfl ?_
  refine av_iload_n (pc := 3) (j := 2) C dX9_resolve_3 rfl rfl ?_
  refine av_iload_n (pc := 4) (j := 3) C dX9_resolve_4 rfl rfl ?_
  obtain ⟨x2, S1, hc3, hs⟩ := am_b2_of hs
  refine av_eq (st2 := [am_I a3, am_I a2, am_I 1, am_I a1, am_R 0]) rfl rfl rfl rfl (av_callV (pc := 5) (as := [am_I a1, am_I 1, am_I a2, am_I a3]) (rest := []) C (ct_X9_settleFromOutside l G a1 1 a2 a3 S x2 S1 hc3) ym_X9_settleFromOutside si_X9_70 im_X9_settleFromOutside se_X9_settleFromOutside sk_0 rfl ⟨Nat.le_of_ble_eq_true rfl, Nat.le_of_ble_eq_true rfl⟩ rfl rfl (Nat.le_of_ble_eq_true rfl) dX9_resolve_5 ⟨Nat.le_refl _, Nat.le_refl _⟩ (fun hrv => av_eq (st2 := [am_I x2]) rfl rfl rfl rfl ?_))
  obtain ⟨hz, hs⟩ := am_gz_of hs
  obtain ⟨rfl, rfl⟩ := am_inj2 hs
  exact av_zret C hz hr hlocks dX9_resolve_8
def sf_X9_reject (a1 : Int) (a2 : Int) (a3 : Int) (S : am_S) : Option (Int × am_S) := (am_b2 (sf_X9_settleFromOutside a1 2 a2 a3 S) (fun x2 S1 => (am_gz x2 (some (x2, S1)))))
set_option maxHeartbeats 4000000 in
set_option maxRecDepth 100000 in
theorem ct_X9_reject (l : Launch) (G : am_G) (a1 : Int) (a2 : Int) (a3 : Int) (S : am_S) (x : Int) (S2 : am_S) (hs : sf_X9_reject a1 a2 a3 S = some (x, S2)) : am_met l yX9_reject cX9_reject 4 (some .boolean) 4 97 G [am_R 0, am_I a1, am_I a2, am_I a3] S (some (am_I x)) S2 := by
  refine am_enter ym_X9_reject (Nat.le_of_ble_eq_true rfl) ?_
  intro p e s m args below meth c C hr hlocks
  refine av_eq (lv2 := [(0, am_R 0), (1, am_I a1), (2, am_I a2), (3, am_I a3)]) rfl rfl rfl rfl ?_
  unfold sf_X9_reject at hs
  refine av_aload_n (pc := 0) (j := 0) C dX9_reject_0 rfl rfl ?_
  refine av_iload_n (pc := 1) (j := 1) C dX9_reject_1 rfl rfl ?_
  refine av_iconst (pc := 2) C dX9_reject_2 rfl ?_
  refine av_iload_n (pc := 3) (j := 2) C dX9_reject_3 rfl rfl ?_
  refine av_iload_n (pc := 4) (j := 3) C dX9_reject_4 rfl rfl ?_
  obtain ⟨x2, S1, hc3, hs⟩ := am_b2_of hs
  refine av_eq (st2 := [am_I a3, am_I a2, am_I 2, am_I a1, am_R 0]) rfl rfl rfl rfl (av_callV (pc := 5) (as := [am_I a1, am_I 2, am_I a2, am_I a3]) (rest := []) C (ct_X9_settleFromOutside l G a1 2 a2 a3 S x2 S1 hc3) ym_X9_settleFromOutside si_X9_70 im_X9_settleFromOutside se_X9_settleFromOutside sk_0 rfl ⟨Nat.le_of_ble_eq_true rfl, Nat.le_of_ble_eq_true rfl⟩ rfl rfl (Nat.le_of_ble_eq_true rfl) dX9_reject_5 ⟨Nat.le_refl _, Nat.le_refl _⟩ (fun hrv => av_eq (st2 := [am_I x2]) rfl rfl rfl rfl ?_))
  obtain ⟨hz, hs⟩ := am_gz_of hs
  obtain ⟨rfl, rfl⟩ := am_inj2 hs
  exact av_zret C hz hr hlocks dX9_reject_8
def sf_X9_isHandler (a1 : Int) (S : am_S) : Option (Int × am_S) := (if a1 = (-1) then (some (1, S)) else (am_b2 (sf_X9_isFunction a1 S) (fun x2 S1 => (if x2 = 0 then (some (0, S1)) else (some (1, S1))))))
set_option maxHeartbeats 4000000 in
set_option maxRecDepth 100000 in
theorem ct_X9_isHandler (l : Launch) (G : am_G) (a1 : Int) (S : am_S) (x : Int) (S2 : am_S) (hs : sf_X9_isHandler a1 S = some (x, S2)) : am_met l yX9_isHandler cX9_isHandler 1 (some .boolean) 2 41 G [am_I a1] S (some (am_I x)) S2 := by
  refine am_enter ym_X9_isHandler (Nat.le_of_ble_eq_true rfl) ?_
  intro p e s m args below meth c C hr hlocks
  refine av_eq (lv2 := [(0, am_I a1)]) rfl rfl rfl rfl ?_
  unfold sf_X9_isHandler at hs
  refine av_iload_n (pc := 0) (j := 0) C dX9_isHandler_0 rfl rfl ?_
  refine av_iconst (pc := 1) C dX9_isHandler_1 rfl ?_
  refine av_icmp_eq (pc := 2) (tgt := 12) C dX9_isHandler_2 (by decide) (fun hc => ?_) (fun hc => ?_)
  · rw [if_pos hc] at hs
    refine av_iconst (pc := 12) C dX9_isHandler_12 rfl ?_
    refine av_goto (pc := 13) (tgt := 17) C dX9_isHandler_13 (by decide) ?_
    obtain ⟨rfl, rfl⟩ := am_inj2 hs
    exact av_zret C (by decide) hr hlocks dX9_isHandler_17
  · rw [if_neg hc] at hs
    refine av_iload_n (pc := 5) (j := 0) C dX9_isHandler_5 rfl rfl ?_
    obtain ⟨x2, S1, hc3, hs⟩ := am_b2_of hs
    refine av_eq (st2 := [am_I a1]) rfl rfl rfl rfl (av_callS (pc := 6) (as := [am_I a1]) (rest := []) C (ct_X9_isFunction l G a1 S x2 S1 hc3) ym_X9_isFunction si_X9_106 st_X9_isFunction ⟨Nat.le_of_ble_eq_true rfl, Nat.le_of_ble_eq_true rfl⟩ rfl rfl (Nat.le_of_ble_eq_true rfl) dX9_isHandler_6 ⟨Nat.le_refl _, Nat.le_refl _⟩ (fun hrv => av_eq (st2 := [am_I x2]) rfl rfl rfl rfl ?_))
    refine av_if_eq (pc := 9) (tgt := 16) C dX9_isHandler_9 (by decide) (fun hc => ?_) (fun hc => ?_)
    · rw [if_pos hc] at hs
      refine av_iconst (pc := 16) C dX9_isHandler_16 rfl ?_
      obtain ⟨rfl, rfl⟩ := am_inj2 hs
      exact av_zret C (by decide) hr hlocks dX9_isHandler_17
    · rw [if_neg hc] at hs
      refine av_iconst (pc := 12) C dX9_isHandler_12 rfl ?_
      refine av_goto (pc := 13) (tgt := 17) C dX9_isHandler_13 (by decide) ?_
      obtain ⟨rfl, rfl⟩ := am_inj2 hs
      exact av_zret C (by decide) hr hlocks dX9_isHandler_17
def sf_X9_then (a1 : Int) (a2 : Int) (a3 : Int) (S : am_S) : Option (Int × am_S) := (am_b2 (sf_X3_has a1 S) (fun x2 S1 => (if x2 = 0 then (some ((-1), S1)) else (am_b2 (sf_X9_isHandler a2 S1) (fun x5 S4 => (if x5 = 0 then (some ((-1), S4)) else (am_b2 (sf_X9_isHandler a3 S4) (fun x8 S7 => (if x8 = 0 then (some ((-1), S7)) else (am_b2 (sf_X3_isFull  S7) (fun x11 S10 => (if x11 = 0 then (am_b2 (sf_X5_addHandlers a1 a2 a3 S10) (fun x14 S13 => (some (x14, S13)))) else (some ((-2), S10))))))))))))))
set_option maxHeartbeats 4000000 in
set_option maxRecDepth 100000 in
theorem ct_X9_then (l : Launch) (G : am_G) (a1 : Int) (a2 : Int) (a3 : Int) (S : am_S) (x : Int) (S2 : am_S) (hs : sf_X9_then a1 a2 a3 S = some (x, S2)) : am_met l yX9_then cX9_then 4 (some .int) 4 93 G [am_R 0, am_I a1, am_I a2, am_I a3] S (some (am_I x)) S2 := by
  refine am_enter ym_X9_then (Nat.le_of_ble_eq_true rfl) ?_
  intro p e s m args below meth c C hr hlocks
  refine av_eq (lv2 := [(0, am_R 0), (1, am_I a1), (2, am_I a2), (3, am_I a3)]) rfl rfl rfl rfl ?_
  unfold sf_X9_then at hs
  refine av_aload_n (pc := 0) (j := 0) C dX9_then_0 rfl rfl ?_
  refine av_getR (pc := 1) (k := 0) (r := 1) C fl_X9_12 sk_0 rfl dX9_then_1 ?_
  refine av_iload_n (pc := 4) (j := 1) C dX9_then_4 rfl rfl ?_
  obtain ⟨x2, S1, hc3, hs⟩ := am_b2_of hs
  refine av_eq (st2 := [am_I a1, am_R 1]) rfl rfl rfl rfl (av_callV (pc := 5) (as := [am_I a1]) (rest := []) C (ct_X3_has l G a1 S x2 S1 hc3) ym_X3_has si_X9_74 im_X3_has se_X3_has sk_1 rfl ⟨Nat.le_of_ble_eq_true rfl, Nat.le_of_ble_eq_true rfl⟩ rfl rfl (Nat.le_of_ble_eq_true rfl) dX9_then_5 ⟨Nat.le_refl _, Nat.le_refl _⟩ (fun hrv => av_eq (st2 := [am_I x2]) rfl rfl rfl rfl ?_))
  refine av_if_eq (pc := 8) (tgt := 25) C dX9_then_8 (by decide) (fun hc => ?_) (fun hc => ?_)
  · rw [if_pos hc] at hs
    refine av_iconst (pc := 25) C dX9_then_25 rfl ?_
    obtain ⟨rfl, rfl⟩ := am_inj2 hs
    exact av_iret C hr hlocks dX9_then_26
  · rw [if_neg hc] at hs
    refine av_iload_n (pc := 11) (j := 2) C dX9_then_11 rfl rfl ?_
    obtain ⟨x5, S4, hc6, hs⟩ := am_b2_of hs
    refine av_eq (st2 := [am_I a2]) rfl rfl rfl rfl (av_callS (pc := 12) (as := [am_I a2]) (rest := []) C (ct_X9_isHandler l G a2 S1 x5 S4 hc6) ym_X9_isHandler si_X9_92 st_X9_isHandler ⟨Nat.le_of_ble_eq_true rfl, Nat.le_of_ble_eq_true rfl⟩ rfl rfl (Nat.le_of_ble_eq_true rfl) dX9_then_12 ⟨Nat.le_refl _, Nat.le_refl _⟩ (fun hrv => av_eq (st2 := [am_I x5]) rfl rfl rfl rfl ?_))
    refine av_if_eq (pc := 15) (tgt := 25) C dX9_then_15 (by decide) (fun hc => ?_) (fun hc => ?_)
    · rw [if_pos hc] at hs
      refine av_iconst (pc := 25) C dX9_then_25 rfl ?_
      obtain ⟨rfl, rfl⟩ := am_inj2 hs
      exact av_iret C hr hlocks dX9_then_26
    · rw [if_neg hc] at hs
      refine av_iload_n (pc := 18) (j := 3) C dX9_then_18 rfl rfl ?_
      obtain ⟨x8, S7, hc9, hs⟩ := am_b2_of hs
      refine av_eq (st2 := [am_I a3]) rfl rfl rfl rfl (av_callS (pc := 19) (as := [am_I a3]) (rest := []) C (ct_X9_isHandler l G a3 S4 x8 S7 hc9) ym_X9_isHandler si_X9_92 st_X9_isHandler ⟨Nat.le_of_ble_eq_true rfl, Nat.le_of_ble_eq_true rfl⟩ rfl rfl (Nat.le_of_ble_eq_true rfl) dX9_then_19 ⟨Nat.le_refl _, Nat.le_refl _⟩ (fun hrv => av_eq (st2 := [am_I x8]) rfl rfl rfl rfl ?_))
      refine av_if_ne (pc := 22) (tgt := 27) C dX9_then_22 (by decide) (fun hc => ?_) (fun hc => ?_)
      · rw [if_neg hc] at hs
        refine av_aload_n (pc := 27) (j := 0) C dX9_then_27 rfl rfl ?_
        refine av_getR (pc := 28) (k := 0) (r := 1) C fl_X9_12 sk_0 rfl dX9_then_28 ?_
        obtain ⟨x11, S10, hc12, hs⟩ := am_b2_of hs
        refine av_eq (st2 := [am_R 1]) rfl rfl rfl rfl (av_callV (pc := 31) (as := []) (rest := []) C (ct_X3_isFull l G  S7 x11 S10 hc12) ym_X3_isFull si_X9_62 im_X3_isFull se_X3_isFull sk_1 rfl ⟨Nat.le_of_ble_eq_true rfl, Nat.le_of_ble_eq_true rfl⟩ rfl rfl (Nat.le_of_ble_eq_true rfl) dX9_then_31 ⟨Nat.le_refl _, Nat.le_refl _⟩ (fun hrv => av_eq (st2 := [am_I x11]) rfl rfl rfl rfl ?_))
        refine av_if_eq (pc := 34) (tgt := 42) C dX9_then_34 (by decide) (fun hc => ?_) (fun hc => ?_)
        · rw [if_pos hc] at hs
          refine av_aload_n (pc := 42) (j := 0) C dX9_then_42 rfl rfl ?_
          refine av_getR (pc := 43) (k := 6) (r := 7) C fl_X9_58 sk_0 rfl dX9_then_43 ?_
          refine av_iload_n (pc := 46) (j := 1) C dX9_then_46 rfl rfl ?_
          refine av_iload_n (pc := 47) (j := 2) C dX9_then_47 rfl rfl ?_
          refine av_iload_n (pc := 48) (j := 3) C dX9_then_48 rfl rfl ?_
          obtain ⟨x14, S13, hc15, hs⟩ := am_b2_of hs
          refine av_eq (st2 := [am_I a3, am_I a2, am_I a1, am_R 7]) rfl rfl rfl rfl (av_callV (pc := 49) (as := [am_I a1, am_I a2, am_I a3]) (rest := []) C (ct_X5_addHandlers l G a1 a2 a3 S10 x14 S13 hc15) ym_X5_addHandlers si_X9_95 im_X5_addHandlers se_X5_addHandlers sk_7 rfl ⟨Nat.le_of_ble_eq_true rfl, Nat.le_of_ble_eq_true rfl⟩ rfl rfl (Nat.le_of_ble_eq_true rfl) dX9_then_49 ⟨Nat.le_refl _, Nat.le_refl _⟩ (fun hrv => av_eq (st2 := [am_I x14]) rfl rfl rfl rfl ?_))
          obtain ⟨rfl, rfl⟩ := am_inj2 hs
          exact av_iret C hr hlocks dX9_then_52
        · rw [if_neg hc] at hs
          refine av_bipush (pc := 37) C dX9_then_37 rfl ?_
          refine av_goto (pc := 39) (tgt := 52) C dX9_then_39 (by decide) ?_
          obtain ⟨rfl, rfl⟩ := am_inj2 hs
          exact av_iret C hr hlocks dX9_then_52
      · rw [if_pos (Decidable.not_not.mp hc)] at hs
        refine av_iconst (pc := 25) C dX9_then_25 rfl ?_
        obtain ⟨rfl, rfl⟩ := am_inj2 hs
        exact av_iret C hr hlocks dX9_then_26
def sf_X9_thenable (a1 : Int) (a2 : Int) (a3 : Int) (a4 : Int) (a5 : Int) (a6 : Int) (S : am_S) : Option (Int × am_S) := (am_b2 (sf_X9_isWithin a1 4 S) (fun x2 S1 => (if x2 = 0 then (some (0, S1)) else (am_b2 (sf_X9_isWithin a2 4 S1) (fun x5 S4 => (if x5 = 0 then (some (0, S4)) else (am_b2 (sf_X9_isValue a3 a4 S4) (fun x8 S7 => (if x8 = 0 then (some (0, S7)) else (am_b2 (sf_X9_isValue a5 a6 S7) (fun x11 S10 => (if x11 = 0 then (some (0, S10)) else (am_b2 (sf_X8_of a3 a4 S10) (fun x14 S13 => (am_b2 (sf_X8_of a5 a6 S13) (fun x17 S16 => (am_b1 (sf_X7_change a1 a2 x14 x17 S16) (fun S19 => (some (1, S19))))))))))))))))))))
set_option maxHeartbeats 4000000 in
set_option maxRecDepth 100000 in
theorem ct_X9_thenable (l : Launch) (G : am_G) (a1 : Int) (a2 : Int) (a3 : Int) (a4 : Int) (a5 : Int) (a6 : Int) (S : am_S) (x : Int) (S2 : am_S) (hs : sf_X9_thenable a1 a2 a3 a4 a5 a6 S = some (x, S2)) : am_met l yX9_thenable cX9_thenable 7 (some .boolean) 3 65 G [am_R 0, am_I a1, am_I a2, am_I a3, am_I a4, am_I a5, am_I a6] S (some (am_I x)) S2 := by
  refine am_enter ym_X9_thenable (Nat.le_of_ble_eq_true rfl) ?_
  intro p e s m args below meth c C hr hlocks
  refine av_eq (lv2 := [(0, am_R 0), (1, am_I a1), (2, am_I a2), (3, am_I a3), (4, am_I a4), (5, am_I a5), (6, am_I a6)]) rfl rfl rfl rfl ?_
  unfold sf_X9_thenable at hs
  refine av_iload_n (pc := 0) (j := 1) C dX9_thenable_0 rfl rfl ?_
  refine av_iconst (pc := 1) C dX9_thenable_1 rfl ?_
  obtain ⟨x2, S1, hc3, hs⟩ := am_b2_of hs
  refine av_eq (st2 := [am_I 4, am_I a1]) rfl rfl rfl rfl (av_callS (pc := 2) (as := [am_I a1, am_I 4]) (rest := []) C (ct_X9_isWithin l G a1 4 S x2 S1 hc3) ym_X9_isWithin si_X9_99 st_X9_isWithin ⟨Nat.le_of_ble_eq_true rfl, Nat.le_of_ble_eq_true rfl⟩ rfl rfl (Nat.le_of_ble_eq_true rfl) dX9_thenable_2 ⟨Nat.le_refl _, Nat.le_refl _⟩ (fun hrv => av_eq (st2 := [am_I x2]) rfl rfl rfl rfl ?_))
  refine av_if_eq (pc := 5) (tgt := 16) C dX9_thenable_5 (by decide) (fun hc => ?_) (fun hc => ?_)
  · rw [if_pos hc] at hs
    refine av_iconst (pc := 16) C dX9_thenable_16 rfl ?_
    obtain ⟨rfl, rfl⟩ := am_inj2 hs
    exact av_zret C (by decide) hr hlocks dX9_thenable_17
  · rw [if_neg hc] at hs
    refine av_iload_n (pc := 8) (j := 2) C dX9_thenable_8 rfl rfl ?_
    refine av_iconst (pc := 9) C dX9_thenable_9 rfl ?_
    obtain ⟨x5, S4, hc6, hs⟩ := am_b2_of hs
    refine av_eq (st2 := [am_I 4, am_I a2]) rfl rfl rfl rfl (av_callS (pc := 10) (as := [am_I a2, am_I 4]) (rest := []) C (ct_X9_isWithin l G a2 4 S1 x5 S4 hc6) ym_X9_isWithin si_X9_99 st_X9_isWithin ⟨Nat.le_of_ble_eq_true rfl, Nat.le_of_ble_eq_true rfl⟩ rfl rfl (Nat.le_of_ble_eq_true rfl) dX9_thenable_10 ⟨Nat.le_refl _, Nat.le_refl _⟩ (fun hrv => av_eq (st2 := [am_I x5]) rfl rfl rfl rfl ?_))
    refine av_if_ne (pc := 13) (tgt := 18) C dX9_thenable_13 (by decide) (fun hc => ?_) (fun hc => ?_)
    · rw [if_neg hc] at hs
      refine av_aload_n (pc := 18) (j := 0) C dX9_thenable_18 rfl rfl ?_
      refine av_iload_n (pc := 19) (j := 3) C dX9_thenable_19 rfl rfl ?_
      refine av_iload (pc := 20) (j := 4) C dX9_thenable_20 rfl ?_
      obtain ⟨x8, S7, hc9, hs⟩ := am_b2_of hs
      refine av_eq (st2 := [am_I a4, am_I a3, am_R 0]) rfl rfl rfl rfl (av_callV (pc := 22) (as := [am_I a3, am_I a4]) (rest := []) C (ct_X9_isValue l G a3 a4 S4 x8 S7 hc9) ym_X9_isValue si_X9_78 im_X9_isValue se_X9_isValue sk_0 rfl ⟨Nat.le_of_ble_eq_true rfl, Nat.le_of_ble_eq_true rfl⟩ rfl rfl (Nat.le_of_ble_eq_true rfl) dX9_thenable_22 ⟨Nat.le_refl _, Nat.le_refl _⟩ (fun hrv => av_eq (st2 := [am_I x8]) rfl rfl rfl rfl ?_))
      refine av_if_eq (pc := 25) (tgt := 39) C dX9_thenable_25 (by decide) (fun hc => ?_) (fun hc => ?_)
      · rw [if_pos hc] at hs
        refine av_iconst (pc := 39) C dX9_thenable_39 rfl ?_
        obtain ⟨rfl, rfl⟩ := am_inj2 hs
        exact av_zret C (by decide) hr hlocks dX9_thenable_40
      · rw [if_neg hc] at hs
        refine av_aload_n (pc := 28) (j := 0) C dX9_thenable_28 rfl rfl ?_
        refine av_iload (pc := 29) (j := 5) C dX9_thenable_29 rfl ?_
        refine av_iload (pc := 31) (j := 6) C dX9_thenable_31 rfl ?_
        obtain ⟨x11, S10, hc12, hs⟩ := am_b2_of hs
        refine av_eq (st2 := [am_I a6, am_I a5, am_R 0]) rfl rfl rfl rfl (av_callV (pc := 33) (as := [am_I a5, am_I a6]) (rest := []) C (ct_X9_isValue l G a5 a6 S7 x11 S10 hc12) ym_X9_isValue si_X9_78 im_X9_isValue se_X9_isValue sk_0 rfl ⟨Nat.le_of_ble_eq_true rfl, Nat.le_of_ble_eq_true rfl⟩ rfl rfl (Nat.le_of_ble_eq_true rfl) dX9_thenable_33 ⟨Nat.le_refl _, Nat.le_refl _⟩ (fun hrv => av_eq (st2 := [am_I x11]) rfl rfl rfl rfl ?_))
        refine av_if_ne (pc := 36) (tgt := 41) C dX9_thenable_36 (by decide) (fun hc => ?_) (fun hc => ?_)
        · rw [if_neg hc] at hs
          refine av_aload_n (pc := 41) (j := 0) C dX9_thenable_41 rfl rfl ?_
          refine av_getR (pc := 42) (k := 1) (r := 2) C fl_X9_19 sk_0 rfl dX9_thenable_42 ?_
          refine av_iload_n (pc := 45) (j := 1) C dX9_thenable_45 rfl rfl ?_
          refine av_iload_n (pc := 46) (j := 2) C dX9_thenable_46 rfl rfl ?_
          refine av_iload_n (pc := 47) (j := 3) C dX9_thenable_47 rfl rfl ?_
          refine av_iload (pc := 48) (j := 4) C dX9_thenable_48 rfl ?_
          obtain ⟨x14, S13, hc15, hs⟩ := am_b2_of hs
          refine av_eq (st2 := [am_I a4, am_I a3, am_I a2, am_I a1, am_R 2]) rfl rfl rfl rfl (av_callS (pc := 50) (as := [am_I a3, am_I a4]) (rest := [am_I a2, am_I a1, am_R 2]) C (ct_X8_of l G a3 a4 S10 x14 S13 hc15) ym_X8_of si_X9_82 st_X8_of ⟨Nat.le_of_ble_eq_true rfl, Nat.le_of_ble_eq_true rfl⟩ rfl rfl (Nat.le_of_ble_eq_true rfl) dX9_thenable_50 ⟨Nat.le_refl _, Nat.le_refl _⟩ (fun hrv => av_eq (st2 := [am_J x14, am_I a2, am_I a1, am_R 2]) rfl rfl rfl rfl ?_))
          refine av_iload (pc := 53) (j := 5) C dX9_thenable_53 rfl ?_
          refine av_iload (pc := 55) (j := 6) C dX9_thenable_55 rfl ?_
          obtain ⟨x17, S16, hc18, hs⟩ := am_b2_of hs
          refine av_eq (st2 := [am_I a6, am_I a5, am_J x14, am_I a2, am_I a1, am_R 2]) rfl rfl rfl rfl (av_callS (pc := 57) (as := [am_I a5, am_I a6]) (rest := [am_J x14, am_I a2, am_I a1, am_R 2]) C (ct_X8_of l G a5 a6 S13 x17 S16 hc18) ym_X8_of si_X9_82 st_X8_of ⟨Nat.le_of_ble_eq_true rfl, Nat.le_of_ble_eq_true rfl⟩ rfl rfl (Nat.le_of_ble_eq_true rfl) dX9_thenable_57 ⟨Nat.le_refl _, Nat.le_refl _⟩ (fun hrv => av_eq (st2 := [am_J x17, am_J x14, am_I a2, am_I a1, am_R 2]) rfl rfl rfl rfl ?_))
          obtain ⟨S19, hc20, hs⟩ := am_b1_of hs
          refine av_eq (st2 := [am_J x17, am_J x14, am_I a2, am_I a1, am_R 2]) rfl rfl rfl rfl (av_callV (pc := 60) (as := [am_I a1, am_I a2, am_J x14, am_J x17]) (rest := []) C (ct_X7_change l G a1 a2 x14 x17 S16 S19 hc20) ym_X7_change si_X9_102 im_X7_change se_X7_change sk_2 rfl ⟨Nat.le_of_ble_eq_true rfl, Nat.le_of_ble_eq_true rfl⟩ rfl rfl (Nat.le_of_ble_eq_true rfl) dX9_thenable_60 ⟨Nat.le_refl _, Nat.le_refl _⟩ (fun hrv => av_eq (st2 := []) rfl rfl rfl rfl ?_))
          refine av_iconst (pc := 63) C dX9_thenable_63 rfl ?_
          obtain ⟨rfl, rfl⟩ := am_inj2 hs
          exact av_zret C (by decide) hr hlocks dX9_thenable_64
        · rw [if_pos (Decidable.not_not.mp hc)] at hs
          refine av_iconst (pc := 39) C dX9_thenable_39 rfl ?_
          obtain ⟨rfl, rfl⟩ := am_inj2 hs
          exact av_zret C (by decide) hr hlocks dX9_thenable_40
    · rw [if_pos (Decidable.not_not.mp hc)] at hs
      refine av_iconst (pc := 16) C dX9_thenable_16 rfl ?_
      obtain ⟨rfl, rfl⟩ := am_inj2 hs
      exact av_zret C (by decide) hr hlocks dX9_thenable_17
def sf_X9_step (a1 : Int) (a2 : Int) (a3 : Int) (a4 : Int) (S : am_S) : Option (Int × am_S) := (am_b2 (sf_X9_isFunction a1 S) (fun x2 S1 => (if x2 = 0 then (some ((-1), S1)) else (am_b2 (sf_X0_mayBeStep a2 a3 a4 S1) (fun x5 S4 => (if x5 = 0 then (some ((-1), S4)) else (am_b2 (sf_X0_isFull a1 S4) (fun x8 S7 => (if x8 = 0 then (if a2 = 2 then (am_b2 (sf_X8_of a3 a4 S7) (fun x17 S16 => (am_b2 (sf_X0_add a1 a2 x17 S16) (fun x20 S19 => (some (x20, S19)))))) else (am_b2 (sf_X8_of 0 a4 S7) (fun x11 S10 => (am_b2 (sf_X0_add a1 a2 x11 S10) (fun x14 S13 => (some (x14, S13))))))) else (some ((-2), S7)))))))))))
set_option maxHeartbeats 4000000 in
set_option maxRecDepth 100000 in
theorem ct_X9_step (l : Launch) (G : am_G) (a1 : Int) (a2 : Int) (a3 : Int) (a4 : Int) (S : am_S) (x : Int) (S2 : am_S) (hs : sf_X9_step a1 a2 a3 a4 S = some (x, S2)) : am_met l yX9_step cX9_step 5 (some .int) 3 65 G [am_R 0, am_I a1, am_I a2, am_I a3, am_I a4] S (some (am_I x)) S2 := by
  refine am_enter ym_X9_step (Nat.le_of_ble_eq_true rfl) ?_
  intro p e s m args below meth c C hr hlocks
  refine av_eq (lv2 := [(0, am_R 0), (1, am_I a1), (2, am_I a2), (3, am_I a3), (4, am_I a4)]) rfl rfl rfl rfl ?_
  unfold sf_X9_step at hs
  refine av_iload_n (pc := 0) (j := 1) C dX9_step_0 rfl rfl ?_
  obtain ⟨x2, S1, hc3, hs⟩ := am_b2_of hs
  refine av_eq (st2 := [am_I a1]) rfl rfl rfl rfl (av_callS (pc := 1) (as := [am_I a1]) (rest := []) C (ct_X9_isFunction l G a1 S x2 S1 hc3) ym_X9_isFunction si_X9_106 st_X9_isFunction ⟨Nat.le_of_ble_eq_true rfl, Nat.le_of_ble_eq_true rfl⟩ rfl rfl (Nat.le_of_ble_eq_true rfl) dX9_step_1 ⟨Nat.le_refl _, Nat.le_refl _⟩ (fun hrv => av_eq (st2 := [am_I x2]) rfl rfl rfl rfl ?_))
  refine av_if_eq (pc := 4) (tgt := 17) C dX9_step_4 (by decide) (fun hc => ?_) (fun hc => ?_)
  · rw [if_pos hc] at hs
    refine av_iconst (pc := 17) C dX9_step_17 rfl ?_
    obtain ⟨rfl, rfl⟩ := am_inj2 hs
    exact av_iret C hr hlocks dX9_step_18
  · rw [if_neg hc] at hs
    refine av_iload_n (pc := 7) (j := 2) C dX9_step_7 rfl rfl ?_
    refine av_iload_n (pc := 8) (j := 3) C dX9_step_8 rfl rfl ?_
    refine av_iload (pc := 9) (j := 4) C dX9_step_9 rfl ?_
    obtain ⟨x5, S4, hc6, hs⟩ := am_b2_of hs
    refine av_eq (st2 := [am_I a4, am_I a3, am_I a2]) rfl rfl rfl rfl (av_callS (pc := 11) (as := [am_I a2, am_I a3, am_I a4]) (rest := []) C (ct_X0_mayBeStep l G a2 a3 a4 S1 x5 S4 hc6) ym_X0_mayBeStep si_X9_109 st_X0_mayBeStep ⟨Nat.le_of_ble_eq_true rfl, Nat.le_of_ble_eq_true rfl⟩ rfl rfl (Nat.le_of_ble_eq_true rfl) dX9_step_11 ⟨Nat.le_refl _, Nat.le_refl _⟩ (fun hrv => av_eq (st2 := [am_I x5]) rfl rfl rfl rfl ?_))
    refine av_if_ne (pc := 14) (tgt := 19) C dX9_step_14 (by decide) (fun hc => ?_) (fun hc => ?_)
    · rw [if_neg hc] at hs
      refine av_aload_n (pc := 19) (j := 0) C dX9_step_19 rfl rfl ?_
      refine av_getR (pc := 20) (k := 2) (r := 3) C fl_X9_26 sk_0 rfl dX9_step_20 ?_
      refine av_iload_n (pc := 23) (j := 1) C dX9_step_23 rfl rfl ?_
      obtain ⟨x8, S7, hc9, hs⟩ := am_b2_of hs
      refine av_eq (st2 := [am_I a1, am_R 3]) rfl rfl rfl rfl (av_callV (pc := 24) (as := [am_I a1]) (rest := []) C (ct_X0_isFull l G a1 S4 x8 S7 hc9) ym_X0_isFull si_X9_113 im_X0_isFull se_X0_isFull sk_3 rfl ⟨Nat.le_of_ble_eq_true rfl, Nat.le_of_ble_eq_true rfl⟩ rfl rfl (Nat.le_of_ble_eq_true rfl) dX9_step_24 ⟨Nat.le_refl _, Nat.le_refl _⟩ (fun hrv => av_eq (st2 := [am_I x8]) rfl rfl rfl rfl ?_))
      refine av_if_eq (pc := 27) (tgt := 35) C dX9_step_27 (by decide) (fun hc => ?_) (fun hc => ?_)
      · rw [if_pos hc] at hs
        refine av_aload_n (pc := 35) (j := 0) C dX9_step_35 rfl rfl ?_
        refine av_getR (pc := 36) (k := 2) (r := 3) C fl_X9_26 sk_0 rfl dX9_step_36 ?_
        refine av_iload_n (pc := 39) (j := 1) C dX9_step_39 rfl rfl ?_
        refine av_iload_n (pc := 40) (j := 2) C dX9_step_40 rfl rfl ?_
        refine av_iload_n (pc := 41) (j := 2) C dX9_step_41 rfl rfl ?_
        refine av_iconst (pc := 42) C dX9_step_42 rfl ?_
        refine av_icmp_ne (pc := 43) (tgt := 50) C dX9_step_43 (by decide) (fun hc => ?_) (fun hc => ?_)
        · rw [if_neg hc] at hs
          refine av_iconst (pc := 50) C dX9_step_50 rfl ?_
          refine av_iload (pc := 51) (j := 4) C dX9_step_51 rfl ?_
          obtain ⟨x11, S10, hc12, hs⟩ := am_b2_of hs
          refine av_eq (st2 := [am_I a4, am_I 0, am_I a2, am_I a1, am_R 3]) rfl rfl rfl rfl (av_callS (pc := 53) (as := [am_I 0, am_I a4]) (rest := [am_I a2, am_I a1, am_R 3]) C (ct_X8_of l G 0 a4 S7 x11 S10 hc12) ym_X8_of si_X9_82 st_X8_of ⟨Nat.le_of_ble_eq_true rfl, Nat.le_of_ble_eq_true rfl⟩ rfl rfl (Nat.le_of_ble_eq_true rfl) dX9_step_53 ⟨Nat.le_refl _, Nat.le_refl _⟩ (fun hrv => av_eq (st2 := [am_J x11, am_I a2, am_I a1, am_R 3]) rfl rfl rfl rfl ?_))
          obtain ⟨x14, S13, hc15, hs⟩ := am_b2_of hs
          refine av_eq (st2 := [am_J x11, am_I a2, am_I a1, am_R 3]) rfl rfl rfl rfl (av_callV (pc := 56) (as := [am_I a1, am_I a2, am_J x11]) (rest := []) C (ct_X0_add l G a1 a2 x11 S10 x14 S13 hc15) ym_X0_add si_X9_115 im_X0_add se_X0_add sk_3 rfl ⟨Nat.le_of_ble_eq_true rfl, Nat.le_of_ble_eq_true rfl⟩ rfl rfl (Nat.le_of_ble_eq_true rfl) dX9_step_56 ⟨Nat.le_refl _, Nat.le_refl _⟩ (fun hrv => av_eq (st2 := [am_I x14]) rfl rfl rfl rfl ?_))
          obtain ⟨rfl, rfl⟩ := am_inj2 hs
          exact av_iret C hr hlocks dX9_step_59
        · rw [if_pos (Decidable.not_not.mp hc)] at hs
          refine av_iload_n (pc := 46) (j := 3) C dX9_step_46 rfl rfl ?_
          refine av_goto (pc := 47) (tgt := 51) C dX9_step_47 (by decide) ?_
          refine av_iload (pc := 51) (j := 4) C dX9_step_51 rfl ?_
          obtain ⟨x17, S16, hc18, hs⟩ := am_b2_of hs
          refine av_eq (st2 := [am_I a4, am_I a3, am_I a2, am_I a1, am_R 3]) rfl rfl rfl rfl (av_callS (pc := 53) (as := [am_I a3, am_I a4]) (rest := [am_I a2, am_I a1, am_R 3]) C (ct_X8_of l G a3 a4 S7 x17 S16 hc18) ym_X8_of si_X9_82 st_X8_of ⟨Nat.le_of_ble_eq_true rfl, Nat.le_of_ble_eq_true rfl⟩ rfl rfl (Nat.le_of_ble_eq_true rfl) dX9_step_53 ⟨Nat.le_refl _, Nat.le_refl _⟩ (fun hrv => av_eq (st2 := [am_J x17, am_I a2, am_I a1, am_R 3]) rfl rfl rfl rfl ?_))
          obtain ⟨x20, S19, hc21, hs⟩ := am_b2_of hs
          refine av_eq (st2 := [am_J x17, am_I a2, am_I a1, am_R 3]) rfl rfl rfl rfl (av_callV (pc := 56) (as := [am_I a1, am_I a2, am_J x17]) (rest := []) C (ct_X0_add l G a1 a2 x17 S16 x20 S19 hc21) ym_X0_add si_X9_115 im_X0_add se_X0_add sk_3 rfl ⟨Nat.le_of_ble_eq_true rfl, Nat.le_of_ble_eq_true rfl⟩ rfl rfl (Nat.le_of_ble_eq_true rfl) dX9_step_56 ⟨Nat.le_refl _, Nat.le_refl _⟩ (fun hrv => av_eq (st2 := [am_I x20]) rfl rfl rfl rfl ?_))
          obtain ⟨rfl, rfl⟩ := am_inj2 hs
          exact av_iret C hr hlocks dX9_step_59
      · rw [if_neg hc] at hs
        refine av_bipush (pc := 30) C dX9_step_30 rfl ?_
        refine av_goto (pc := 32) (tgt := 59) C dX9_step_32 (by decide) ?_
        obtain ⟨rfl, rfl⟩ := am_inj2 hs
        exact av_iret C hr hlocks dX9_step_59
    · rw [if_pos (Decidable.not_not.mp hc)] at hs
      refine av_iconst (pc := 17) C dX9_step_17 rfl ?_
      obtain ⟨rfl, rfl⟩ := am_inj2 hs
      exact av_iret C hr hlocks dX9_step_18
def sf_X9_empty (a1 : Int) (S : am_S) : Option (Int × am_S) := (am_b2 (sf_X9_isFunction a1 S) (fun x2 S1 => (if x2 = 0 then (some ((-1), S1)) else (am_b2 (sf_X0_removeAll a1 S1) (fun x5 S4 => (some (x5, S4)))))))
set_option maxHeartbeats 4000000 in
set_option maxRecDepth 100000 in
theorem ct_X9_empty (l : Launch) (G : am_G) (a1 : Int) (S : am_S) (x : Int) (S2 : am_S) (hs : sf_X9_empty a1 S = some (x, S2)) : am_met l yX9_empty cX9_empty 2 (some .int) 2 45 G [am_R 0, am_I a1] S (some (am_I x)) S2 := by
  refine am_enter ym_X9_empty (Nat.le_of_ble_eq_true rfl) ?_
  intro p e s m args below meth c C hr hlocks
  refine av_eq (lv2 := [(0, am_R 0), (1, am_I a1)]) rfl rfl rfl rfl ?_
  unfold sf_X9_empty at hs
  refine av_iload_n (pc := 0) (j := 1) C dX9_empty_0 rfl rfl ?_
  obtain ⟨x2, S1, hc3, hs⟩ := am_b2_of hs
  refine av_eq (st2 := [am_I a1]) rfl rfl rfl rfl (av_callS (pc := 1) (as := [am_I a1]) (rest := []) C (ct_X9_isFunction l G a1 S x2 S1 hc3) ym_X9_isFunction si_X9_106 st_X9_isFunction ⟨Nat.le_of_ble_eq_true rfl, Nat.le_of_ble_eq_true rfl⟩ rfl rfl (Nat.le_of_ble_eq_true rfl) dX9_empty_1 ⟨Nat.le_refl _, Nat.le_refl _⟩ (fun hrv => av_eq (st2 := [am_I x2]) rfl rfl rfl rfl ?_))
  refine av_if_eq (pc := 4) (tgt := 18) C dX9_empty_4 (by decide) (fun hc => ?_) (fun hc => ?_)
  · rw [if_pos hc] at hs
    refine av_iconst (pc := 18) C dX9_empty_18 rfl ?_
    obtain ⟨rfl, rfl⟩ := am_inj2 hs
    exact av_iret C hr hlocks dX9_empty_19
  · rw [if_neg hc] at hs
    refine av_aload_n (pc := 7) (j := 0) C dX9_empty_7 rfl rfl ?_
    refine av_getR (pc := 8) (k := 2) (r := 3) C fl_X9_26 sk_0 rfl dX9_empty_8 ?_
    refine av_iload_n (pc := 11) (j := 1) C dX9_empty_11 rfl rfl ?_
    obtain ⟨x5, S4, hc6, hs⟩ := am_b2_of hs
    refine av_eq (st2 := [am_I a1, am_R 3]) rfl rfl rfl rfl (av_callV (pc := 12) (as := [am_I a1]) (rest := []) C (ct_X0_removeAll l G a1 S1 x5 S4 hc6) ym_X0_removeAll si_X9_119 im_X0_removeAll se_X0_removeAll sk_3 rfl ⟨Nat.le_of_ble_eq_true rfl, Nat.le_of_ble_eq_true rfl⟩ rfl rfl (Nat.le_of_ble_eq_true rfl) dX9_empty_12 ⟨Nat.le_refl _, Nat.le_refl _⟩ (fun hrv => av_eq (st2 := [am_I x5]) rfl rfl rfl rfl ?_))
    refine av_goto (pc := 15) (tgt := 19) C dX9_empty_15 (by decide) ?_
    obtain ⟨rfl, rfl⟩ := am_inj2 hs
    exact av_iret C hr hlocks dX9_empty_19
def sf_X9_start (a1 : Int) (a2 : Int) (a3 : Int) (S : am_S) : Option (Int × am_S) := (am_b2 (sf_X9_isFunction a1 S) (fun x2 S1 => (if x2 = 0 then (some ((-1), S1)) else (am_b2 (sf_X9_isValue a2 a3 S1) (fun x5 S4 => (if x5 = 0 then (some ((-1), S4)) else (am_b2 (sf_X3_isFull  S4) (fun x8 S7 => (if x8 = 0 then (am_b2 (sf_X8_of a2 a3 S7) (fun x11 S10 => (am_b2 (sf_X5_begin a1 x11 S10) (fun x14 S13 => (am_b1 (sf_X5_goOn  S13) (fun S16 => (some (x14, S16)))))))) else (some ((-2), S7)))))))))))
set_option maxHeartbeats 4000000 in
set_option maxRecDepth 100000 in
theorem ct_X9_start (l : Launch) (G : am_G) (a1 : Int) (a2 : Int) (a3 : Int) (S : am_S) (x : Int) (S2 : am_S) (hs : sf_X9_start a1 a2 a3 S = some (x, S2)) : am_met l yX9_start cX9_start 5 (some .int) 6 146 G [am_R 0, am_I a1, am_I a2, am_I a3] S (some (am_I x)) S2 := by
  refine am_enter ym_X9_start (Nat.le_of_ble_eq_true rfl) ?_
  intro p e s m args below meth c C hr hlocks
  refine av_eq (lv2 := [(0, am_R 0), (1, am_I a1), (2, am_I a2), (3, am_I a3)]) rfl rfl rfl rfl ?_
  unfold sf_X9_start at hs
  refine av_iload_n (pc := 0) (j := 1) C dX9_start_0 rfl rfl ?_
  obtain ⟨x2, S1, hc3, hs⟩ := am_b2_of hs
  refine av_eq (st2 := [am_I a1]) rfl rfl rfl rfl (av_callS (pc := 1) (as := [am_I a1]) (rest := []) C (ct_X9_isFunction l G a1 S x2 S1 hc3) ym_X9_isFunction si_X9_106 st_X9_isFunction ⟨Nat.le_of_ble_eq_true rfl, Nat.le_of_ble_eq_true rfl⟩ rfl rfl (Nat.le_of_ble_eq_true rfl) dX9_start_1 ⟨Nat.le_refl _, Nat.le_refl _⟩ (fun hrv => av_eq (st2 := [am_I x2]) rfl rfl rfl rfl ?_))
  refine av_if_eq (pc := 4) (tgt := 16) C dX9_start_4 (by decide) (fun hc => ?_) (fun hc => ?_)
  · rw [if_pos hc] at hs
    refine av_iconst (pc := 16) C dX9_start_16 rfl ?_
    obtain ⟨rfl, rfl⟩ := am_inj2 hs
    exact av_iret C hr hlocks dX9_start_17
  · rw [if_neg hc] at hs
    refine av_aload_n (pc := 7) (j := 0) C dX9_start_7 rfl rfl ?_
    refine av_iload_n (pc := 8) (j := 2) C dX9_start_8 rfl rfl ?_
    refine av_iload_n (pc := 9) (j := 3) C dX9_start_9 rfl rfl ?_
    obtain ⟨x5, S4, hc6, hs⟩ := am_b2_of hs
    refine av_eq (st2 := [am_I a3, am_I a2, am_R 0]) rfl rfl rfl rfl (av_callV (pc := 10) (as := [am_I a2, am_I a3]) (rest := []) C (ct_X9_isValue l G a2 a3 S1 x5 S4 hc6) ym_X9_isValue si_X9_78 im_X9_isValue se_X9_isValue sk_0 rfl ⟨Nat.le_of_ble_eq_true rfl, Nat.le_of_ble_eq_true rfl⟩ rfl rfl (Nat.le_of_ble_eq_true rfl) dX9_start_10 ⟨Nat.le_refl _, Nat.le_refl _⟩ (fun hrv => av_eq (st2 := [am_I x5]) rfl rfl rfl rfl ?_))
    refine av_if_ne (pc := 13) (tgt := 18) C dX9_start_13 (by decide) (fun hc => ?_) (fun hc => ?_)
    · rw [if_neg hc] at hs
      refine av_aload_n (pc := 18) (j := 0) C dX9_start_18 rfl rfl ?_
      refine av_getR (pc := 19) (k := 0) (r := 1) C fl_X9_12 sk_0 rfl dX9_start_19 ?_
      obtain ⟨x8, S7, hc9, hs⟩ := am_b2_of hs
      refine av_eq (st2 := [am_R 1]) rfl rfl rfl rfl (av_callV (pc := 22) (as := []) (rest := []) C (ct_X3_isFull l G  S4 x8 S7 hc9) ym_X3_isFull si_X9_62 im_X3_isFull se_X3_isFull sk_1 rfl ⟨Nat.le_of_ble_eq_true rfl, Nat.le_of_ble_eq_true rfl⟩ rfl rfl (Nat.le_of_ble_eq_true rfl) dX9_start_22 ⟨Nat.le_refl _, Nat.le_refl _⟩ (fun hrv => av_eq (st2 := [am_I x8]) rfl rfl rfl rfl ?_))
      refine av_if_eq (pc := 25) (tgt := 31) C dX9_start_25 (by decide) (fun hc => ?_) (fun hc => ?_)
      · rw [if_pos hc] at hs
        refine av_aload_n (pc := 31) (j := 0) C dX9_start_31 rfl rfl ?_
        refine av_getR (pc := 32) (k := 6) (r := 7) C fl_X9_58 sk_0 rfl dX9_start_32 ?_
        refine av_iload_n (pc := 35) (j := 1) C dX9_start_35 rfl rfl ?_
        refine av_iload_n (pc := 36) (j := 2) C dX9_start_36 rfl rfl ?_
        refine av_iload_n (pc := 37) (j := 3) C dX9_start_37 rfl rfl ?_
        obtain ⟨x11, S10, hc12, hs⟩ := am_b2_of hs
        refine av_eq (st2 := [am_I a3, am_I a2, am_I a1, am_R 7]) rfl rfl rfl rfl (av_callS (pc := 38) (as := [am_I a2, am_I a3]) (rest := [am_I a1, am_R 7]) C (ct_X8_of l G a2 a3 S7 x11 S10 hc12) ym_X8_of si_X9_82 st_X8_of ⟨Nat.le_of_ble_eq_true rfl, Nat.le_of_ble_eq_true rfl⟩ rfl rfl (Nat.le_of_ble_eq_true rfl) dX9_start_38 ⟨Nat.le_refl _, Nat.le_refl _⟩ (fun hrv => av_eq (st2 := [am_J x11, am_I a1, am_R 7]) rfl rfl rfl rfl ?_))
        obtain ⟨x14, S13, hc15, hs⟩ := am_b2_of hs
        refine av_eq (st2 := [am_J x11, am_I a1, am_R 7]) rfl rfl rfl rfl (av_callV (pc := 41) (as := [am_I a1, am_J x11]) (rest := []) C (ct_X5_begin l G a1 x11 S10 x14 S13 hc15) ym_X5_begin si_X9_123 im_X5_begin se_X5_begin sk_7 rfl ⟨Nat.le_of_ble_eq_true rfl, Nat.le_of_ble_eq_true rfl⟩ rfl rfl (Nat.le_of_ble_eq_true rfl) dX9_start_41 ⟨Nat.le_refl _, Nat.le_refl _⟩ (fun hrv => av_eq (st2 := [am_I x14]) rfl rfl rfl rfl ?_))
        refine av_istore (pc := 44) (i := 4) (lv2 := [(4, am_I x14), (0, am_R 0), (1, am_I a1), (2, am_I a2), (3, am_I a3)]) C dX9_start_44 (by decide) rfl ?_
        refine av_aload_n (pc := 46) (j := 1) C dX9_start_46 rfl rfl ?_
        refine av_getR (pc := 47) (k := 6) (r := 7) C fl_X9_58 sk_0 rfl dX9_start_47 ?_
        obtain ⟨S16, hc17, hs⟩ := am_b1_of hs
        refine av_eq (st2 := [am_R 7]) rfl rfl rfl rfl (av_callV (pc := 50) (as := []) (rest := []) C (ct_X5_goOn l G  S13 S16 hc17) ym_X5_goOn si_X9_127 im_X5_goOn se_X5_goOn sk_7 rfl ⟨Nat.le_of_ble_eq_true rfl, Nat.le_of_ble_eq_true rfl⟩ rfl rfl (Nat.le_of_ble_eq_true rfl) dX9_start_50 ⟨Nat.le_refl _, Nat.le_refl _⟩ (fun hrv => av_eq (st2 := []) rfl rfl rfl rfl ?_))
        refine av_iload (pc := 53) (j := 0) C dX9_start_53 rfl ?_
        obtain ⟨rfl, rfl⟩ := am_inj2 hs
        exact av_iret C hr hlocks dX9_start_55
      · rw [if_neg hc] at hs
        refine av_bipush (pc := 28) C dX9_start_28 rfl ?_
        obtain ⟨rfl, rfl⟩ := am_inj2 hs
        exact av_iret C hr hlocks dX9_start_30
    · rw [if_pos (Decidable.not_not.mp hc)] at hs
      refine av_iconst (pc := 16) C dX9_start_16 rfl ?_
      obtain ⟨rfl, rfl⟩ := am_inj2 hs
      exact av_iret C hr hlocks dX9_start_17
def sf_X9_later (a1 : Int) (a2 : Int) (a3 : Int) (a4 : Int) (S : am_S) : Option (Int × am_S) := (am_b2 (sf_X9_isFunction a1 S) (fun x2 S1 => (if x2 = 0 then (some ((-1), S1)) else (am_b2 (sf_X9_isValue a2 a3 S1) (fun x5 S4 => (if x5 = 0 then (some ((-1), S4)) else (am_b2 (sf_X9_isWithin a4 1001 S4) (fun x8 S7 => (if x8 = 0 then (some ((-1), S7)) else (am_b2 (sf_X6_isFull  S7) (fun x11 S10 => (if x11 = 0 then (am_b2 (sf_X8_of a2 a3 S10) (fun x14 S13 => (am_b2 (sf_X6_add a1 x14 a4 S13) (fun x17 S16 => (some (x17, S16)))))) else (some ((-2), S10))))))))))))))
set_option maxHeartbeats 4000000 in
set_option maxRecDepth 100000 in
theorem ct_X9_later (l : Launch) (G : am_G) (a1 : Int) (a2 : Int) (a3 : Int) (a4 : Int) (S : am_S) (x : Int) (S2 : am_S) (hs : sf_X9_later a1 a2 a3 a4 S = some (x, S2)) : am_met l yX9_later cX9_later 5 (some .int) 3 65 G [am_R 0, am_I a1, am_I a2, am_I a3, am_I a4] S (some (am_I x)) S2 := by
  refine am_enter ym_X9_later (Nat.le_of_ble_eq_true rfl) ?_
  intro p e s m args below meth c C hr hlocks
  refine av_eq (lv2 := [(0, am_R 0), (1, am_I a1), (2, am_I a2), (3, am_I a3), (4, am_I a4)]) rfl rfl rfl rfl ?_
  unfold sf_X9_later at hs
  refine av_iload_n (pc := 0) (j := 1) C dX9_later_0 rfl rfl ?_
  obtain ⟨x2, S1, hc3, hs⟩ := am_b2_of hs
  refine av_eq (st2 := [am_I a1]) rfl rfl rfl rfl (av_callS (pc := 1) (as := [am_I a1]) (rest := []) C (ct_X9_isFunction l G a1 S x2 S1 hc3) ym_X9_isFunction si_X9_106 st_X9_isFunction ⟨Nat.le_of_ble_eq_true rfl, Nat.le_of_ble_eq_true rfl⟩ rfl rfl (Nat.le_of_ble_eq_true rfl) dX9_later_1 ⟨Nat.le_refl _, Nat.le_refl _⟩ (fun hrv => av_eq (st2 := [am_I x2]) rfl rfl rfl rfl ?_))
  refine av_if_eq (pc := 4) (tgt := 27) C dX9_later_4 (by decide) (fun hc => ?_) (fun hc => ?_)
  · rw [if_pos hc] at hs
    refine av_iconst (pc := 27) C dX9_later_27 rfl ?_
    obtain ⟨rfl, rfl⟩ := am_inj2 hs
    exact av_iret C hr hlocks dX9_later_28
  · rw [if_neg hc] at hs
    refine av_aload_n (pc := 7) (j := 0) C dX9_later_7 rfl rfl ?_
    refine av_iload_n (pc := 8) (j := 2) C dX9_later_8 rfl rfl ?_
    refine av_iload_n (pc := 9) (j := 3) C dX9_later_9 rfl rfl ?_
    obtain ⟨x5, S4, hc6, hs⟩ := am_b2_of hs
    refine av_eq (st2 := [am_I a3, am_I a2, am_R 0]) rfl rfl rfl rfl (av_callV (pc := 10) (as := [am_I a2, am_I a3]) (rest := []) C (ct_X9_isValue l G a2 a3 S1 x5 S4 hc6) ym_X9_isValue si_X9_78 im_X9_isValue se_X9_isValue sk_0 rfl ⟨Nat.le_of_ble_eq_true rfl, Nat.le_of_ble_eq_true rfl⟩ rfl rfl (Nat.le_of_ble_eq_true rfl) dX9_later_10 ⟨Nat.le_refl _, Nat.le_refl _⟩ (fun hrv => av_eq (st2 := [am_I x5]) rfl rfl rfl rfl ?_))
    refine av_if_eq (pc := 13) (tgt := 27) C dX9_later_13 (by decide) (fun hc => ?_) (fun hc => ?_)
    · rw [if_pos hc] at hs
      refine av_iconst (pc := 27) C dX9_later_27 rfl ?_
      obtain ⟨rfl, rfl⟩ := am_inj2 hs
      exact av_iret C hr hlocks dX9_later_28
    · rw [if_neg hc] at hs
      refine av_iload (pc := 16) (j := 4) C dX9_later_16 rfl ?_
      refine av_sipush (pc := 18) C dX9_later_18 rfl ?_
      obtain ⟨x8, S7, hc9, hs⟩ := am_b2_of hs
      refine av_eq (st2 := [am_I 1001, am_I a4]) rfl rfl rfl rfl (av_callS (pc := 21) (as := [am_I a4, am_I 1001]) (rest := []) C (ct_X9_isWithin l G a4 1001 S4 x8 S7 hc9) ym_X9_isWithin si_X9_99 st_X9_isWithin ⟨Nat.le_of_ble_eq_true rfl, Nat.le_of_ble_eq_true rfl⟩ rfl rfl (Nat.le_of_ble_eq_true rfl) dX9_later_21 ⟨Nat.le_refl _, Nat.le_refl _⟩ (fun hrv => av_eq (st2 := [am_I x8]) rfl rfl rfl rfl ?_))
      refine av_if_ne (pc := 24) (tgt := 29) C dX9_later_24 (by decide) (fun hc => ?_) (fun hc => ?_)
      · rw [if_neg hc] at hs
        refine av_aload_n (pc := 29) (j := 0) C dX9_later_29 rfl rfl ?_
        refine av_getR (pc := 30) (k := 3) (r := 4) C fl_X9_33 sk_0 rfl dX9_later_30 ?_
        obtain ⟨x11, S10, hc12, hs⟩ := am_b2_of hs
        refine av_eq (st2 := [am_R 4]) rfl rfl rfl rfl (av_callV (pc := 33) (as := []) (rest := []) C (ct_X6_isFull l G  S7 x11 S10 hc12) ym_X6_isFull si_X9_130 im_X6_isFull se_X6_isFull sk_4 rfl ⟨Nat.le_of_ble_eq_true rfl, Nat.le_of_ble_eq_true rfl⟩ rfl rfl (Nat.le_of_ble_eq_true rfl) dX9_later_33 ⟨Nat.le_refl _, Nat.le_refl _⟩ (fun hrv => av_eq (st2 := [am_I x11]) rfl rfl rfl rfl ?_))
        refine av_if_eq (pc := 36) (tgt := 44) C dX9_later_36 (by decide) (fun hc => ?_) (fun hc => ?_)
        · rw [if_pos hc] at hs
          refine av_aload_n (pc := 44) (j := 0) C dX9_later_44 rfl rfl ?_
          refine av_getR (pc := 45) (k := 3) (r := 4) C fl_X9_33 sk_0 rfl dX9_later_45 ?_
          refine av_iload_n (pc := 48) (j := 1) C dX9_later_48 rfl rfl ?_
          refine av_iload_n (pc := 49) (j := 2) C dX9_later_49 rfl rfl ?_
          refine av_iload_n (pc := 50) (j := 3) C dX9_later_50 rfl rfl ?_
          obtain ⟨x14, S13, hc15, hs⟩ := am_b2_of hs
          refine av_eq (st2 := [am_I a3, am_I a2, am_I a1, am_R 4]) rfl rfl rfl rfl (av_callS (pc := 51) (as := [am_I a2, am_I a3]) (rest := [am_I a1, am_R 4]) C (ct_X8_of l G a2 a3 S10 x14 S13 hc15) ym_X8_of si_X9_82 st_X8_of ⟨Nat.le_of_ble_eq_true rfl, Nat.le_of_ble_eq_true rfl⟩ rfl rfl (Nat.le_of_ble_eq_true rfl) dX9_later_51 ⟨Nat.le_refl _, Nat.le_refl _⟩ (fun hrv => av_eq (st2 := [am_J x14, am_I a1, am_R 4]) rfl rfl rfl rfl ?_))
          refine av_iload (pc := 54) (j := 4) C dX9_later_54 rfl ?_
          obtain ⟨x17, S16, hc18, hs⟩ := am_b2_of hs
          refine av_eq (st2 := [am_I a4, am_J x14, am_I a1, am_R 4]) rfl rfl rfl rfl (av_callV (pc := 56) (as := [am_I a1, am_J x14, am_I a4]) (rest := []) C (ct_X6_add l G a1 x14 a4 S13 x17 S16 hc18) ym_X6_add si_X9_131 im_X6_add se_X6_add sk_4 rfl ⟨Nat.le_of_ble_eq_true rfl, Nat.le_of_ble_eq_true rfl⟩ rfl rfl (Nat.le_of_ble_eq_true rfl) dX9_later_56 ⟨Nat.le_refl _, Nat.le_refl _⟩ (fun hrv => av_eq (st2 := [am_I x17]) rfl rfl rfl rfl ?_))
          obtain ⟨rfl, rfl⟩ := am_inj2 hs
          exact av_iret C hr hlocks dX9_later_59
        · rw [if_neg hc] at hs
          refine av_bipush (pc := 39) C dX9_later_39 rfl ?_
          refine av_goto (pc := 41) (tgt := 59) C dX9_later_41 (by decide) ?_
          obtain ⟨rfl, rfl⟩ := am_inj2 hs
          exact av_iret C hr hlocks dX9_later_59
      · rw [if_pos (Decidable.not_not.mp hc)] at hs
        refine av_iconst (pc := 27) C dX9_later_27 rfl ?_
        obtain ⟨rfl, rfl⟩ := am_inj2 hs
        exact av_iret C hr hlocks dX9_later_28
def sf_X9_item (a1 : Int) (a2 : Int) (S : am_S) : Option (Int × am_S) := (am_b2 (sf_X9_isValue a1 a2 S) (fun x2 S1 => (if x2 = 0 then (some ((-1), S1)) else (am_b2 (sf_X1_isFull  S1) (fun x5 S4 => (if x5 = 0 then (am_b2 (sf_X8_of a1 a2 S4) (fun x8 S7 => (am_b2 (sf_X1_addItem x8 S7) (fun x11 S10 => (some (x11, S10)))))) else (some ((-2), S4))))))))
set_option maxHeartbeats 4000000 in
set_option maxRecDepth 100000 in
theorem ct_X9_item (l : Launch) (G : am_G) (a1 : Int) (a2 : Int) (S : am_S) (x : Int) (S2 : am_S) (hs : sf_X9_item a1 a2 S = some (x, S2)) : am_met l yX9_item cX9_item 3 (some .int) 3 65 G [am_R 0, am_I a1, am_I a2] S (some (am_I x)) S2 := by
  refine am_enter ym_X9_item (Nat.le_of_ble_eq_true rfl) ?_
  intro p e s m args below meth c C hr hlocks
  refine av_eq (lv2 := [(0, am_R 0), (1, am_I a1), (2, am_I a2)]) rfl rfl rfl rfl ?_
  unfold sf_X9_item at hs
  refine av_aload_n (pc := 0) (j := 0) C dX9_item_0 rfl rfl ?_
  refine av_iload_n (pc := 1) (j := 1) C dX9_item_1 rfl rfl ?_
  refine av_iload_n (pc := 2) (j := 2) C dX9_item_2 rfl rfl ?_
  obtain ⟨x2, S1, hc3, hs⟩ := am_b2_of hs
  refine av_eq (st2 := [am_I a2, am_I a1, am_R 0]) rfl rfl rfl rfl (av_callV (pc := 3) (as := [am_I a1, am_I a2]) (rest := []) C (ct_X9_isValue l G a1 a2 S x2 S1 hc3) ym_X9_isValue si_X9_78 im_X9_isValue se_X9_isValue sk_0 rfl ⟨Nat.le_of_ble_eq_true rfl, Nat.le_of_ble_eq_true rfl⟩ rfl rfl (Nat.le_of_ble_eq_true rfl) dX9_item_3 ⟨Nat.le_refl _, Nat.le_refl _⟩ (fun hrv => av_eq (st2 := [am_I x2]) rfl rfl rfl rfl ?_))
  refine av_if_ne (pc := 6) (tgt := 11) C dX9_item_6 (by decide) (fun hc => ?_) (fun hc => ?_)
  · rw [if_neg hc] at hs
    refine av_aload_n (pc := 11) (j := 0) C dX9_item_11 rfl rfl ?_
    refine av_getR (pc := 12) (k := 5) (r := 6) C fl_X9_49 sk_0 rfl dX9_item_12 ?_
    obtain ⟨x5, S4, hc6, hs⟩ := am_b2_of hs
    refine av_eq (st2 := [am_R 6]) rfl rfl rfl rfl (av_callV (pc := 15) (as := []) (rest := []) C (ct_X1_isFull l G  S1 x5 S4 hc6) ym_X1_isFull si_X9_134 im_X1_isFull se_X1_isFull sk_6 rfl ⟨Nat.le_of_ble_eq_true rfl, Nat.le_of_ble_eq_true rfl⟩ rfl rfl (Nat.le_of_ble_eq_true rfl) dX9_item_15 ⟨Nat.le_refl _, Nat.le_refl _⟩ (fun hrv => av_eq (st2 := [am_I x5]) rfl rfl rfl rfl ?_))
    refine av_if_eq (pc := 18) (tgt := 26) C dX9_item_18 (by decide) (fun hc => ?_) (fun hc => ?_)
    · rw [if_pos hc] at hs
      refine av_aload_n (pc := 26) (j := 0) C dX9_item_26 rfl rfl ?_
      refine av_getR (pc := 27) (k := 5) (r := 6) C fl_X9_49 sk_0 rfl dX9_item_27 ?_
      refine av_iload_n (pc := 30) (j := 1) C dX9_item_30 rfl rfl ?_
      refine av_iload_n (pc := 31) (j := 2) C dX9_item_31 rfl rfl ?_
      obtain ⟨x8, S7, hc9, hs⟩ := am_b2_of hs
      refine av_eq (st2 := [am_I a2, am_I a1, am_R 6]) rfl rfl rfl rfl (av_callS (pc := 32) (as := [am_I a1, am_I a2]) (rest := [am_R 6]) C (ct_X8_of l G a1 a2 S4 x8 S7 hc9) ym_X8_of si_X9_82 st_X8_of ⟨Nat.le_of_ble_eq_true rfl, Nat.le_of_ble_eq_true rfl⟩ rfl rfl (Nat.le_of_ble_eq_true rfl) dX9_item_32 ⟨Nat.le_refl _, Nat.le_refl _⟩ (fun hrv => av_eq (st2 := [am_J x8, am_R 6]) rfl rfl rfl rfl ?_))
      obtain ⟨x11, S10, hc12, hs⟩ := am_b2_of hs
      refine av_eq (st2 := [am_J x8, am_R 6]) rfl rfl rfl rfl (av_callV (pc := 35) (as := [am_J x8]) (rest := []) C (ct_X1_addItem l G x8 S7 x11 S10 hc12) ym_X1_addItem si_X9_135 im_X1_addItem se_X1_addItem sk_6 rfl ⟨Nat.le_of_ble_eq_true rfl, Nat.le_of_ble_eq_true rfl⟩ rfl rfl (Nat.le_of_ble_eq_true rfl) dX9_item_35 ⟨Nat.le_refl _, Nat.le_refl _⟩ (fun hrv => av_eq (st2 := [am_I x11]) rfl rfl rfl rfl ?_))
      obtain ⟨rfl, rfl⟩ := am_inj2 hs
      exact av_iret C hr hlocks dX9_item_38
    · rw [if_neg hc] at hs
      refine av_bipush (pc := 21) C dX9_item_21 rfl ?_
      refine av_goto (pc := 23) (tgt := 38) C dX9_item_23 (by decide) ?_
      obtain ⟨rfl, rfl⟩ := am_inj2 hs
      exact av_iret C hr hlocks dX9_item_38
  · rw [if_pos (Decidable.not_not.mp hc)] at hs
    refine av_iconst (pc := 9) C dX9_item_9 rfl ?_
    obtain ⟨rfl, rfl⟩ := am_inj2 hs
    exact av_iret C hr hlocks dX9_item_10
def sf_X9_group (a1 : Int) (S : am_S) : Option (Int × am_S) := (am_b2 (sf_X9_isWithin a1 4 S) (fun x2 S1 => (if x2 = 0 then (some ((-1), S1)) else (am_b2 (sf_X1_hasRoom  S1) (fun x5 S4 => (if x5 = 0 then (some ((-2), S4)) else (am_b2 (sf_X1_form a1 S4) (fun x8 S7 => (some (x8, S7))))))))))
set_option maxHeartbeats 4000000 in
set_option maxRecDepth 100000 in
theorem ct_X9_group (l : Launch) (G : am_G) (a1 : Int) (S : am_S) (x : Int) (S2 : am_S) (hs : sf_X9_group a1 S = some (x, S2)) : am_met l yX9_group cX9_group 2 (some .int) 5 120 G [am_R 0, am_I a1] S (some (am_I x)) S2 := by
  refine am_enter ym_X9_group (Nat.le_of_ble_eq_true rfl) ?_
  intro p e s m args below meth c C hr hlocks
  refine av_eq (lv2 := [(0, am_R 0), (1, am_I a1)]) rfl rfl rfl rfl ?_
  unfold sf_X9_group at hs
  refine av_iload_n (pc := 0) (j := 1) C dX9_group_0 rfl rfl ?_
  refine av_iconst (pc := 1) C dX9_group_1 rfl ?_
  obtain ⟨x2, S1, hc3, hs⟩ := am_b2_of hs
  refine av_eq (st2 := [am_I 4, am_I a1]) rfl rfl rfl rfl (av_callS (pc := 2) (as := [am_I a1, am_I 4]) (rest := []) C (ct_X9_isWithin l G a1 4 S x2 S1 hc3) ym_X9_isWithin si_X9_99 st_X9_isWithin ⟨Nat.le_of_ble_eq_true rfl, Nat.le_of_ble_eq_true rfl⟩ rfl rfl (Nat.le_of_ble_eq_true rfl) dX9_group_2 ⟨Nat.le_refl _, Nat.le_refl _⟩ (fun hrv => av_eq (st2 := [am_I x2]) rfl rfl rfl rfl ?_))
  refine av_if_ne (pc := 5) (tgt := 10) C dX9_group_5 (by decide) (fun hc => ?_) (fun hc => ?_)
  · rw [if_neg hc] at hs
    refine av_aload_n (pc := 10) (j := 0) C dX9_group_10 rfl rfl ?_
    refine av_getR (pc := 11) (k := 5) (r := 6) C fl_X9_49 sk_0 rfl dX9_group_11 ?_
    obtain ⟨x5, S4, hc6, hs⟩ := am_b2_of hs
    refine av_eq (st2 := [am_R 6]) rfl rfl rfl rfl (av_callV (pc := 14) (as := []) (rest := []) C (ct_X1_hasRoom l G  S1 x5 S4 hc6) ym_X1_hasRoom si_X9_139 im_X1_hasRoom se_X1_hasRoom sk_6 rfl ⟨Nat.le_of_ble_eq_true rfl, Nat.le_of_ble_eq_true rfl⟩ rfl rfl (Nat.le_of_ble_eq_true rfl) dX9_group_14 ⟨Nat.le_refl _, Nat.le_refl _⟩ (fun hrv => av_eq (st2 := [am_I x5]) rfl rfl rfl rfl ?_))
    refine av_if_eq (pc := 17) (tgt := 31) C dX9_group_17 (by decide) (fun hc => ?_) (fun hc => ?_)
    · rw [if_pos hc] at hs
      refine av_bipush (pc := 31) C dX9_group_31 rfl ?_
      obtain ⟨rfl, rfl⟩ := am_inj2 hs
      exact av_iret C hr hlocks dX9_group_33
    · rw [if_neg hc] at hs
      refine av_aload_n (pc := 20) (j := 0) C dX9_group_20 rfl rfl ?_
      refine av_getR (pc := 21) (k := 5) (r := 6) C fl_X9_49 sk_0 rfl dX9_group_21 ?_
      refine av_iload_n (pc := 24) (j := 1) C dX9_group_24 rfl rfl ?_
      obtain ⟨x8, S7, hc9, hs⟩ := am_b2_of hs
      refine av_eq (st2 := [am_I a1, am_R 6]) rfl rfl rfl rfl (av_callV (pc := 25) (as := [am_I a1]) (rest := []) C (ct_X1_form l G a1 S4 x8 S7 hc9) ym_X1_form si_X9_142 im_X1_form se_X1_form sk_6 rfl ⟨Nat.le_of_ble_eq_true rfl, Nat.le_of_ble_eq_true rfl⟩ rfl rfl (Nat.le_of_ble_eq_true rfl) dX9_group_25 ⟨Nat.le_refl _, Nat.le_refl _⟩ (fun hrv => av_eq (st2 := [am_I x8]) rfl rfl rfl rfl ?_))
      refine av_goto (pc := 28) (tgt := 33) C dX9_group_28 (by decide) ?_
      obtain ⟨rfl, rfl⟩ := am_inj2 hs
      exact av_iret C hr hlocks dX9_group_33
  · rw [if_pos (Decidable.not_not.mp hc)] at hs
    refine av_iconst (pc := 8) C dX9_group_8 rfl ?_
    obtain ⟨rfl, rfl⟩ := am_inj2 hs
    exact av_iret C hr hlocks dX9_group_9
def sf_X9_adopt (a1 : Int) (a2 : Int) (a3 : Int) (S : am_S) : Option (am_S) := (am_b2 (sf_X8_numberOf a2 S) (fun x2 S1 => (am_b2 (sf_X8_sortOf a2 S1) (fun x5 S4 => (if x5 = 1 then (am_b2 (sf_X9_jobOf a1 1 S4) (fun x32 S31 => (am_b1 (sf_X3_waitFor x2 x32 S31) (fun S34 => (some S34))))) else (am_b2 (sf_X7_kindOf x2 S4) (fun x8 S7 => (if x8 = 0 then (am_b2 (sf_X7_uOf x2 S7) (fun x12 S11 => (am_b1 (sf_X3_settleBy a1 1 x12 a3 S11) (fun S14 => (some S14))))) else (if x8 = 1 then (am_b2 (sf_X7_uOf x2 S7) (fun x17 S16 => (am_b1 (sf_X3_settleBy a1 2 x17 a3 S16) (fun S19 => (some S19))))) else (if x8 = 2 then (am_b2 (sf_X7_uOf x2 S7) (fun x22 S21 => (am_b1 (sf_X3_settleBy a1 1 x22 a3 S21) (fun S24 => (am_b2 (sf_X7_wOf x2 S24) (fun x27 S26 => (am_b1 (sf_X3_settleBy a1 2 x27 a3 S26) (fun S29 => (some S29))))))))) else (some S7)))))))))))
set_option maxHeartbeats 4000000 in
set_option maxRecDepth 100000 in
theorem ct_X9_adopt (l : Launch) (G : am_G) (a1 : Int) (a2 : Int) (a3 : Int) (S : am_S) (S2 : am_S) (hs : sf_X9_adopt a1 a2 a3 S = some S2) : am_met l yX9_adopt cX9_adopt 6 none 3 73 G [am_R 0, am_I a1, am_J a2, am_I a3] S none S2 := by
  refine am_enter ym_X9_adopt (Nat.le_of_ble_eq_true rfl) ?_
  intro p e s m args below meth c C hr hlocks
  refine av_eq (lv2 := [(0, am_R 0), (1, am_I a1), (2, am_J a2), (4, am_I a3)]) rfl rfl rfl rfl ?_
  unfold sf_X9_adopt at hs
  refine av_lload_n (pc := 0) (j := 2) C dX9_adopt_0 rfl rfl ?_
  obtain ⟨x2, S1, hc3, hs⟩ := am_b2_of hs
  refine av_eq (st2 := [am_J a2]) rfl rfl rfl rfl (av_callS (pc := 1) (as := [am_J a2]) (rest := []) C (ct_X8_numberOf l G a2 S x2 S1 hc3) ym_X8_numberOf si_X9_188 st_X8_numberOf ⟨Nat.le_of_ble_eq_true rfl, Nat.le_of_ble_eq_true rfl⟩ rfl rfl (Nat.le_of_ble_eq_true rfl) dX9_adopt_1 ⟨Nat.le_refl _, Nat.le_refl _⟩ (fun hrv => av_eq (st2 := [am_I x2]) rfl rfl rfl rfl ?_))
  refine av_istore (pc := 4) (i := 5) (lv2 := [(5, am_I x2), (0, am_R 0), (1, am_I a1), (2, am_J a2), (4, am_I a3)]) C dX9_adopt_4 (by decide) rfl ?_
  refine av_lload_n (pc := 6) (j := 3) C dX9_adopt_6 rfl rfl ?_
  obtain ⟨x5, S4, hc6, hs⟩ := am_b2_of hs
  refine av_eq (st2 := [am_J a2]) rfl rfl rfl rfl (av_callS (pc := 7) (as := [am_J a2]) (rest := []) C (ct_X8_sortOf l G a2 S1 x5 S4 hc6) ym_X8_sortOf si_X9_185 st_X8_sortOf ⟨Nat.le_of_ble_eq_true rfl, Nat.le_of_ble_eq_true rfl⟩ rfl rfl (Nat.le_of_ble_eq_true rfl) dX9_adopt_7 ⟨Nat.le_refl _, Nat.le_refl _⟩ (fun hrv => av_eq (st2 := [am_I x5]) rfl rfl rfl rfl ?_))
  refine av_iconst (pc := 10) C dX9_adopt_10 rfl ?_
  refine av_icmp_ne (pc := 11) (tgt := 29) C dX9_adopt_11 (by decide) (fun hc => ?_) (fun hc => ?_)
  · rw [if_neg hc] at hs
    refine av_aload_n (pc := 29) (j := 1) C dX9_adopt_29 rfl rfl ?_
    refine av_getR (pc := 30) (k := 1) (r := 2) C fl_X9_19 sk_0 rfl dX9_adopt_30 ?_
    refine av_iload (pc := 33) (j := 0) C dX9_adopt_33 rfl ?_
    obtain ⟨x8, S7, hc9, hs⟩ := am_b2_of hs
    refine av_eq (st2 := [am_I x2, am_R 2]) rfl rfl rfl rfl (av_callV (pc := 35) (as := [am_I x2]) (rest := []) C (ct_X7_kindOf l G x2 S4 x8 S7 hc9) ym_X7_kindOf si_X9_265 im_X7_kindOf se_X7_kindOf sk_2 rfl ⟨Nat.le_of_ble_eq_true rfl, Nat.le_of_ble_eq_true rfl⟩ rfl rfl (Nat.le_of_ble_eq_true rfl) dX9_adopt_35 ⟨Nat.le_refl _, Nat.le_refl _⟩ (fun hrv => av_eq (st2 := [am_I x8]) rfl rfl rfl rfl ?_))
    have hdef10 : (hs : (some S7) = some S2) → am_V p l e (am_rm 3 73) s m args below meth c (MQ below (am_Q G none S2) args s 0 0 (am_A G)) G (am_A G) s.heap 6 0 0 153 [(5, am_I x2), (0, am_R 0), (1, am_I a1), (2, am_J a2), (4, am_I a3)] [] S7 := by
      intro hs
      obtain rfl := am_inj1 hs
      exact av_vret C hr hlocks dX9_adopt_153
    by_cases hk0 : x8 = 0
    · rw [if_pos hk0] at hs
      refine av_swi (pc := 38) (k := 0) (tgt := 64) C dX9_adopt_38 (by rw [hk0]; rfl) (by decide) rfl (by decide) ?_
      refine av_aload_n (pc := 64) (j := 1) C dX9_adopt_64 rfl rfl ?_
      refine av_getR (pc := 65) (k := 0) (r := 1) C fl_X9_12 sk_0 rfl dX9_adopt_65 ?_
      refine av_iload_n (pc := 68) (j := 2) C dX9_adopt_68 rfl rfl ?_
      refine av_iconst (pc := 69) C dX9_adopt_69 rfl ?_
      refine av_aload_n (pc := 70) (j := 1) C dX9_adopt_70 rfl rfl ?_
      refine av_getR (pc := 71) (k := 1) (r := 2) C fl_X9_19 sk_0 rfl dX9_adopt_71 ?_
      refine av_iload (pc := 74) (j := 0) C dX9_adopt_74 rfl ?_
      obtain ⟨x12, S11, hc13, hs⟩ := am_b2_of hs
      refine av_eq (st2 := [am_I x2, am_R 2, am_I 1, am_I a1, am_R 1]) rfl rfl rfl rfl (av_callV (pc := 76) (as := [am_I x2]) (rest := [am_I 1, am_I a1, am_R 1]) C (ct_X7_uOf l G x2 S7 x12 S11 hc13) ym_X7_uOf si_X9_268 im_X7_uOf se_X7_uOf sk_2 rfl ⟨Nat.le_of_ble_eq_true rfl, Nat.le_of_ble_eq_true rfl⟩ rfl rfl (Nat.le_of_ble_eq_true rfl) dX9_adopt_76 ⟨Nat.le_refl _, Nat.le_refl _⟩ (fun hrv => av_eq (st2 := [am_J x12, am_I 1, am_I a1, am_R 1]) rfl rfl rfl rfl ?_))
      refine av_iload (pc := 79) (j := 4) C dX9_adopt_79 rfl ?_
      obtain ⟨S14, hc15, hs⟩ := am_b1_of hs
      refine av_eq (st2 := [am_I a3, am_J x12, am_I 1, am_I a1, am_R 1]) rfl rfl rfl rfl (av_callV (pc := 81) (as := [am_I a1, am_I 1, am_J x12, am_I a3]) (rest := []) C (ct_X3_settleBy l G a1 1 x12 a3 S11 S14 hc15) ym_X3_settleBy si_X9_88 im_X3_settleBy se_X3_settleBy sk_1 rfl ⟨Nat.le_of_ble_eq_true rfl, Nat.le_of_ble_eq_true rfl⟩ rfl rfl (Nat.le_of_ble_eq_true rfl) dX9_adopt_81 ⟨Nat.le_refl _, Nat.le_refl _⟩ (fun hrv => av_eq (st2 := []) rfl rfl rfl rfl ?_))
      refine av_goto (pc := 84) (tgt := 153) C dX9_adopt_84 (by decide) ?_
      obtain rfl := am_inj1 hs
      exact av_vret C hr hlocks dX9_adopt_153
    · rw [if_neg hk0] at hs
      by_cases hk1 : x8 = 1
      · rw [if_pos hk1] at hs
        refine av_swi (pc := 38) (k := 1) (tgt := 87) C dX9_adopt_38 (by rw [hk1]; rfl) (by decide) rfl (by decide) ?_
        refine av_aload_n (pc := 87) (j := 1) C dX9_adopt_87 rfl rfl ?_
        refine av_getR (pc := 88) (k := 0) (r := 1) C fl_X9_12 sk_0 rfl dX9_adopt_88 ?_
        refine av_iload_n (pc := 91) (j := 2) C dX9_adopt_91 rfl rfl ?_
        refine av_iconst (pc := 92) C dX9_adopt_92 rfl ?_
        refine av_aload_n (pc := 93) (j := 1) C dX9_adopt_93 rfl rfl ?_
        refine av_getR (pc := 94) (k := 1) (r := 2) C fl_X9_19 sk_0 rfl dX9_adopt_94 ?_
        refine av_iload (pc := 97) (j := 0) C dX9_adopt_97 rfl ?_
        obtain ⟨x17, S16, hc18, hs⟩ := am_b2_of hs
        refine av_eq (st2 := [am_I x2, am_R 2, am_I 2, am_I a1, am_R 1]) rfl rfl rfl rfl (av_callV (pc := 99) (as := [am_I x2]) (rest := [am_I 2, am_I a1, am_R 1]) C (ct_X7_uOf l G x2 S7 x17 S16 hc18) ym_X7_uOf si_X9_268 im_X7_uOf se_X7_uOf sk_2 rfl ⟨Nat.le_of_ble_eq_true rfl, Nat.le_of_ble_eq_true rfl⟩ rfl rfl (Nat.le_of_ble_eq_true rfl) dX9_adopt_99 ⟨Nat.le_refl _, Nat.le_refl _⟩ (fun hrv => av_eq (st2 := [am_J x17, am_I 2, am_I a1, am_R 1]) rfl rfl rfl rfl ?_))
        refine av_iload (pc := 102) (j := 4) C dX9_adopt_102 rfl ?_
        obtain ⟨S19, hc20, hs⟩ := am_b1_of hs
        refine av_eq (st2 := [am_I a3, am_J x17, am_I 2, am_I a1, am_R 1]) rfl rfl rfl rfl (av_callV (pc := 104) (as := [am_I a1, am_I 2, am_J x17, am_I a3]) (rest := []) C (ct_X3_settleBy l G a1 2 x17 a3 S16 S19 hc20) ym_X3_settleBy si_X9_88 im_X3_settleBy se_X3_settleBy sk_1 rfl ⟨Nat.le_of_ble_eq_true rfl, Nat.le_of_ble_eq_true rfl⟩ rfl rfl (Nat.le_of_ble_eq_true rfl) dX9_adopt_104 ⟨Nat.le_refl _, Nat.le_refl _⟩ (fun hrv => av_eq (st2 := []) rfl rfl rfl rfl ?_))
        refine av_goto (pc := 107) (tgt := 153) C dX9_adopt_107 (by decide) ?_
        obtain rfl := am_inj1 hs
        exact av_vret C hr hlocks dX9_adopt_153
      · rw [if_neg hk1] at hs
        by_cases hk2 : x8 = 2
        · rw [if_pos hk2] at hs
          refine av_swi (pc := 38) (k := 2) (tgt := 110) C dX9_adopt_38 (by rw [hk2]; rfl) (by decide) rfl (by decide) ?_
          refine av_aload_n (pc := 110) (j := 1) C dX9_adopt_110 rfl rfl ?_
          refine av_getR (pc := 111) (k := 0) (r := 1) C fl_X9_12 sk_0 rfl dX9_adopt_111 ?_
          refine av_iload_n (pc := 114) (j := 2) C dX9_adopt_114 rfl rfl ?_
          refine av_iconst (pc := 115) C dX9_adopt_115 rfl ?_
          refine av_aload_n (pc := 116) (j := 1) C dX9_adopt_116 rfl rfl ?_
          refine av_getR (pc := 117) (k := 1) (r := 2) C fl_X9_19 sk_0 rfl dX9_adopt_117 ?_
          refine av_iload (pc := 120) (j := 0) C dX9_adopt_120 rfl ?_
          obtain ⟨x22, S21, hc23, hs⟩ := am_b2_of hs
          refine av_eq (st2 := [am_I x2, am_R 2, am_I 1, am_I a1, am_R 1]) rfl rfl rfl rfl (av_callV (pc := 122) (as := [am_I x2]) (rest := [am_I 1, am_I a1, am_R 1]) C (ct_X7_uOf l G x2 S7 x22 S21 hc23) ym_X7_uOf si_X9_268 im_X7_uOf se_X7_uOf sk_2 rfl ⟨Nat.le_of_ble_eq_true rfl, Nat.le_of_ble_eq_true rfl⟩ rfl rfl (Nat.le_of_ble_eq_true rfl) dX9_adopt_122 ⟨Nat.le_refl _, Nat.le_refl _⟩ (fun hrv => av_eq (st2 := [am_J x22, am_I 1, am_I a1, am_R 1]) rfl rfl rfl rfl ?_))
          refine av_iload (pc := 125) (j := 4) C dX9_adopt_125 rfl ?_
          obtain ⟨S24, hc25, hs⟩ := am_b1_of hs
          refine av_eq (st2 := [am_I a3, am_J x22, am_I 1, am_I a1, am_R 1]) rfl rfl rfl rfl (av_callV (pc := 127) (as := [am_I a1, am_I 1, am_J x22, am_I a3]) (rest := []) C (ct_X3_settleBy l G a1 1 x22 a3 S21 S24 hc25) ym_X3_settleBy si_X9_88 im_X3_settleBy se_X3_settleBy sk_1 rfl ⟨Nat.le_of_ble_eq_true rfl, Nat.le_of_ble_eq_true rfl⟩ rfl rfl (Nat.le_of_ble_eq_true rfl) dX9_adopt_127 ⟨Nat.le_refl _, Nat.le_refl _⟩ (fun hrv => av_eq (st2 := []) rfl rfl rfl rfl ?_))
          refine av_aload_n (pc := 130) (j := 1) C dX9_adopt_130 rfl rfl ?_
          refine av_getR (pc := 131) (k := 0) (r := 1) C fl_X9_12 sk_0 rfl dX9_adopt_131 ?_
          refine av_iload_n (pc := 134) (j := 2) C dX9_adopt_134 rfl rfl ?_
          refine av_iconst (pc := 135) C dX9_adopt_135 rfl ?_
          refine av_aload_n (pc := 136) (j := 1) C dX9_adopt_136 rfl rfl ?_
          refine av_getR (pc := 137) (k := 1) (r := 2) C fl_X9_19 sk_0 rfl dX9_adopt_137 ?_
          refine av_iload (pc := 140) (j := 0) C dX9_adopt_140 rfl ?_
          obtain ⟨x27, S26, hc28, hs⟩ := am_b2_of hs
          refine av_eq (st2 := [am_I x2, am_R 2, am_I 2, am_I a1, am_R 1]) rfl rfl rfl rfl (av_callV (pc := 142) (as := [am_I x2]) (rest := [am_I 2, am_I a1, am_R 1]) C (ct_X7_wOf l G x2 S24 x27 S26 hc28) ym_X7_wOf si_X9_271 im_X7_wOf se_X7_wOf sk_2 rfl ⟨Nat.le_of_ble_eq_true rfl, Nat.le_of_ble_eq_true rfl⟩ rfl rfl (Nat.le_of_ble_eq_true rfl) dX9_adopt_142 ⟨Nat.le_refl _, Nat.le_refl _⟩ (fun hrv => av_eq (st2 := [am_J x27, am_I 2, am_I a1, am_R 1]) rfl rfl rfl rfl ?_))
          refine av_iload (pc := 145) (j := 4) C dX9_adopt_145 rfl ?_
          obtain ⟨S29, hc30, hs⟩ := am_b1_of hs
          refine av_eq (st2 := [am_I a3, am_J x27, am_I 2, am_I a1, am_R 1]) rfl rfl rfl rfl (av_callV (pc := 147) (as := [am_I a1, am_I 2, am_J x27, am_I a3]) (rest := []) C (ct_X3_settleBy l G a1 2 x27 a3 S26 S29 hc30) ym_X3_settleBy si_X9_88 im_X3_settleBy se_X3_settleBy sk_1 rfl ⟨Nat.le_of_ble_eq_true rfl, Nat.le_of_ble_eq_true rfl⟩ rfl rfl (Nat.le_of_ble_eq_true rfl) dX9_adopt_147 ⟨Nat.le_refl _, Nat.le_refl _⟩ (fun hrv => av_eq (st2 := []) rfl rfl rfl rfl ?_))
          refine av_goto (pc := 150) (tgt := 153) C dX9_adopt_150 (by decide) ?_
          obtain rfl := am_inj1 hs
          exact av_vret C hr hlocks dX9_adopt_153
        · rw [if_neg hk2] at hs
          refine av_swo (pc := 38) (tgt := 153) C dX9_adopt_38 (by omega) (by decide) ?_
          exact hdef10 hs
  · rw [if_pos (Decidable.not_not.mp hc)] at hs
    refine av_aload_n (pc := 14) (j := 1) C dX9_adopt_14 rfl rfl ?_
    refine av_getR (pc := 15) (k := 0) (r := 1) C fl_X9_12 sk_0 rfl dX9_adopt_15 ?_
    refine av_iload (pc := 18) (j := 0) C dX9_adopt_18 rfl ?_
    refine av_iload_n (pc := 20) (j := 2) C dX9_adopt_20 rfl rfl ?_
    refine av_iconst (pc := 21) C dX9_adopt_21 rfl ?_
    obtain ⟨x32, S31, hc33, hs⟩ := am_b2_of hs
    refine av_eq (st2 := [am_I 1, am_I a1, am_I x2, am_R 1]) rfl rfl rfl rfl (av_callS (pc := 22) (as := [am_I a1, am_I 1]) (rest := [am_I x2, am_R 1]) C (ct_X9_jobOf l G a1 1 S4 x32 S31 hc33) ym_X9_jobOf si_X9_257 st_X9_jobOf ⟨Nat.le_of_ble_eq_true rfl, Nat.le_of_ble_eq_true rfl⟩ rfl rfl (Nat.le_of_ble_eq_true rfl) dX9_adopt_22 ⟨Nat.le_refl _, Nat.le_refl _⟩ (fun hrv => av_eq (st2 := [am_I x32, am_I x2, am_R 1]) rfl rfl rfl rfl ?_))
    obtain ⟨S34, hc35, hs⟩ := am_b1_of hs
    refine av_eq (st2 := [am_I x32, am_I x2, am_R 1]) rfl rfl rfl rfl (av_callV (pc := 25) (as := [am_I x2, am_I x32]) (rest := []) C (ct_X3_waitFor l G x2 x32 S31 S34 hc35) ym_X3_waitFor si_X9_261 im_X3_waitFor se_X3_waitFor sk_1 rfl ⟨Nat.le_of_ble_eq_true rfl, Nat.le_of_ble_eq_true rfl⟩ rfl rfl (Nat.le_of_ble_eq_true rfl) dX9_adopt_25 ⟨Nat.le_refl _, Nat.le_refl _⟩ (fun hrv => av_eq (st2 := []) rfl rfl rfl rfl ?_))
    obtain rfl := am_inj1 hs
    exact av_vret C hr hlocks dX9_adopt_28
def sf_X9_doJob (a1 : Int) (S : am_S) : Option (am_S) := (am_b2 (sf_X3_sourceOf a1 S) (fun x2 S1 => (am_b2 (sf_X3_statusOf x2 S1) (fun x5 S4 => (am_b2 (sf_X3_valueOf x2 S4) (fun x8 S7 => (if (Int.tmod a1 9) = 0 then (am_b2 (sf_X3_toAdopt (Int.tdiv a1 9) S7) (fun x16 S15 => (am_b2 (sf_X3_addKey (Int.tdiv a1 9) S15) (fun x19 S18 => (am_b1 (sf_X9_adopt (Int.tdiv a1 9) x16 x19 S18) (fun S21 => (some S21))))))) else (if (Int.tmod a1 9) = 1 then (am_b2 (sf_X3_lastKeyOf (Int.tdiv a1 9) S7) (fun x24 S23 => (am_b1 (sf_X3_settleBy (Int.tdiv a1 9) x5 x8 x24 S23) (fun S26 => (some S26))))) else (if (Int.tmod a1 9) = 2 then (am_b1 (sf_X5_handle (Int.tdiv a1 9) x5 x8 S7) (fun S28 => (some S28))) else (if (Int.tmod a1 9) = 3 then (am_b1 (sf_X5_resume (Int.tdiv a1 9) x5 x8 S7) (fun S30 => (some S30))) else (am_b1 (sf_X1_settlePlace (Int.tdiv a1 9) (am_w32 ((Int.tmod a1 9) - 4)) x5 x8 S7) (fun S11 => (am_b1 (sf_X1_settleIfComplete (Int.tdiv a1 9) S11) (fun S13 => (some S13)))))))))))))))
set_option maxHeartbeats 4000000 in
set_option maxRecDepth 100000 in
theorem ct_X9_doJob (l : Launch) (G : am_G) (a1 : Int) (S : am_S) (S2 : am_S) (hs : sf_X9_doJob a1 S = some S2) : am_met l yX9_doJob cX9_doJob 8 none 5 119 G [am_R 0, am_I a1] S none S2 := by
  refine am_enter ym_X9_doJob (Nat.le_of_ble_eq_true rfl) ?_
  intro p e s m args below meth c C hr hlocks
  refine av_eq (lv2 := [(0, am_R 0), (1, am_I a1)]) rfl rfl rfl rfl ?_
  unfold sf_X9_doJob at hs
  refine av_iload_n (pc := 0) (j := 1) C dX9_doJob_0 rfl rfl ?_
  refine av_bipush (pc := 1) C dX9_doJob_1 rfl ?_
  refine av_idiv (pc := 3) C dX9_doJob_3 (by decide) ?_
  refine av_istore_n (pc := 4) (i := 2) (lv2 := [(2, am_I (Int.tdiv a1 9)), (0, am_R 0), (1, am_I a1)]) C dX9_doJob_4 rfl (by decide) rfl ?_
  refine av_iload_n (pc := 5) (j := 2) C dX9_doJob_5 rfl rfl ?_
  refine av_bipush (pc := 6) C dX9_doJob_6 rfl ?_
  refine av_irem (pc := 8) C dX9_doJob_8 (by decide) ?_
  refine av_istore_n (pc := 9) (i := 3) (lv2 := [(3, am_I (Int.tmod a1 9)), (2, am_I (Int.tdiv a1 9)), (0, am_R 0), (1, am_I a1)]) C dX9_doJob_9 rfl (by decide) rfl ?_
  refine av_aload_n (pc := 10) (j := 2) C dX9_doJob_10 rfl rfl ?_
  refine av_getR (pc := 11) (k := 0) (r := 1) C fl_X9_12 sk_0 rfl dX9_doJob_11 ?_
  refine av_iload_n (pc := 14) (j := 3) C dX9_doJob_14 rfl rfl ?_
  obtain ⟨x2, S1, hc3, hs⟩ := am_b2_of hs
  refine av_eq (st2 := [am_I a1, am_R 1]) rfl rfl rfl rfl (av_callV (pc := 15) (as := [am_I a1]) (rest := []) C (ct_X3_sourceOf l G a1 S x2 S1 hc3) ym_X3_sourceOf si_X9_230 im_X3_sourceOf se_X3_sourceOf sk_1 rfl ⟨Nat.le_of_ble_eq_true rfl, Nat.le_of_ble_eq_true rfl⟩ rfl rfl (Nat.le_of_ble_eq_true rfl) dX9_doJob_15 ⟨Nat.le_refl _, Nat.le_refl _⟩ (fun hrv => av_eq (st2 := [am_I x2]) rfl rfl rfl rfl ?_))
  refine av_istore (pc := 18) (i := 4) (lv2 := [(4, am_I x2), (3, am_I (Int.tmod a1 9)), (2, am_I (Int.tdiv a1 9)), (0, am_R 0), (1, am_I a1)]) C dX9_doJob_18 (by decide) rfl ?_
  refine av_aload_n (pc := 20) (j := 3) C dX9_doJob_20 rfl rfl ?_
  refine av_getR (pc := 21) (k := 0) (r := 1) C fl_X9_12 sk_0 rfl dX9_doJob_21 ?_
  refine av_iload (pc := 24) (j := 0) C dX9_doJob_24 rfl ?_
  obtain ⟨x5, S4, hc6, hs⟩ := am_b2_of hs
  refine av_eq (st2 := [am_I x2, am_R 1]) rfl rfl rfl rfl (av_callV (pc := 26) (as := [am_I x2]) (rest := []) C (ct_X3_statusOf l G x2 S1 x5 S4 hc6) ym_X3_statusOf si_X9_178 im_X3_statusOf se_X3_statusOf sk_1 rfl ⟨Nat.le_of_ble_eq_true rfl, Nat.le_of_ble_eq_true rfl⟩ rfl rfl (Nat.le_of_ble_eq_true rfl) dX9_doJob_26 ⟨Nat.le_refl _, Nat.le_refl _⟩ (fun hrv => av_eq (st2 := [am_I x5]) rfl rfl rfl rfl ?_))
  refine av_istore (pc := 29) (i := 5) (lv2 := [(5, am_I x5), (4, am_I x2), (3, am_I (Int.tmod a1 9)), (2, am_I (Int.tdiv a1 9)), (0, am_R 0), (1, am_I a1)]) C dX9_doJob_29 (by decide) rfl ?_
  refine av_aload_n (pc := 31) (j := 4) C dX9_doJob_31 rfl rfl ?_
  refine av_getR (pc := 32) (k := 0) (r := 1) C fl_X9_12 sk_0 rfl dX9_doJob_32 ?_
  refine av_iload (pc := 35) (j := 1) C dX9_doJob_35 rfl ?_
  obtain ⟨x8, S7, hc9, hs⟩ := am_b2_of hs
  refine av_eq (st2 := [am_I x2, am_R 1]) rfl rfl rfl rfl (av_callV (pc := 37) (as := [am_I x2]) (rest := []) C (ct_X3_valueOf l G x2 S4 x8 S7 hc9) ym_X3_valueOf si_X9_181 im_X3_valueOf se_X3_valueOf sk_1 rfl ⟨Nat.le_of_ble_eq_true rfl, Nat.le_of_ble_eq_true rfl⟩ rfl rfl (Nat.le_of_ble_eq_true rfl) dX9_doJob_37 ⟨Nat.le_refl _, Nat.le_refl _⟩ (fun hrv => av_eq (st2 := [am_J x8]) rfl rfl rfl rfl ?_))
  refine av_lstore (pc := 40) (i := 6) (lv2 := [(6, am_J x8), (5, am_I x5), (4, am_I x2), (3, am_I (Int.tmod a1 9)), (2, am_I (Int.tdiv a1 9)), (0, am_R 0), (1, am_I a1)]) C dX9_doJob_40 (by decide) rfl ?_
  refine av_iload_n (pc := 42) (j := 3) C dX9_doJob_42 rfl rfl ?_
  have hdef10 : (hs : (am_b1 (sf_X1_settlePlace (Int.tdiv a1 9) (am_w32 ((Int.tmod a1 9) - 4)) x5 x8 S7) (fun S11 => (am_b1 (sf_X1_settleIfComplete (Int.tdiv a1 9) S11) (fun S13 => (some S13))))) = some S2) → am_V p l e (am_rm 5 119) s m args below meth c (MQ below (am_Q G none S2) args s 0 0 (am_A G)) G (am_A G) s.heap 8 0 0 149 [(6, am_J x8), (5, am_I x5), (4, am_I x2), (3, am_I (Int.tmod a1 9)), (2, am_I (Int.tdiv a1 9)), (0, am_R 0), (1, am_I a1)] [] S7 := by
    intro hs
    refine av_aload_n (pc := 149) (j := 5) C dX9_doJob_149 rfl rfl ?_
    refine av_getR (pc := 150) (k := 5) (r := 6) C fl_X9_49 sk_0 rfl dX9_doJob_150 ?_
    refine av_iload_n (pc := 153) (j := 4) C dX9_doJob_153 rfl rfl ?_
    refine av_iload_n (pc := 154) (j := 3) C dX9_doJob_154 rfl rfl ?_
    refine av_iconst (pc := 155) C dX9_doJob_155 rfl ?_
    refine av_isub (pc := 156) C dX9_doJob_156 ?_
    refine av_iload (pc := 157) (j := 1) C dX9_doJob_157 rfl ?_
    refine av_lload (pc := 159) (j := 0) C dX9_doJob_159 rfl ?_
    obtain ⟨S11, hc12, hs⟩ := am_b1_of hs
    refine av_eq (st2 := [am_J x8, am_I x5, am_I (am_w32 ((Int.tmod a1 9) - 4)), am_I (Int.tdiv a1 9), am_R 6]) rfl rfl rfl rfl (av_callV (pc := 161) (as := [am_I (Int.tdiv a1 9), am_I (am_w32 ((Int.tmod a1 9) - 4)), am_I x5, am_J x8]) (rest := []) C (ct_X1_settlePlace l G (Int.tdiv a1 9) (am_w32 ((Int.tmod a1 9) - 4)) x5 x8 S7 S11 hc12) ym_X1_settlePlace si_X9_250 im_X1_settlePlace se_X1_settlePlace sk_6 rfl ⟨Nat.le_of_ble_eq_true rfl, Nat.le_of_ble_eq_true rfl⟩ rfl rfl (Nat.le_of_ble_eq_true rfl) dX9_doJob_161 ⟨Nat.le_refl _, Nat.le_refl _⟩ (fun hrv => av_eq (st2 := []) rfl rfl rfl rfl ?_))
    refine av_aload_n (pc := 164) (j := 5) C dX9_doJob_164 rfl rfl ?_
    refine av_getR (pc := 165) (k := 5) (r := 6) C fl_X9_49 sk_0 rfl dX9_doJob_165 ?_
    refine av_iload_n (pc := 168) (j := 4) C dX9_doJob_168 rfl rfl ?_
    obtain ⟨S13, hc14, hs⟩ := am_b1_of hs
    refine av_eq (st2 := [am_I (Int.tdiv a1 9), am_R 6]) rfl rfl rfl rfl (av_callV (pc := 169) (as := [am_I (Int.tdiv a1 9)]) (rest := []) C (ct_X1_settleIfComplete l G (Int.tdiv a1 9) S11 S13 hc14) ym_X1_settleIfComplete si_X9_254 im_X1_settleIfComplete se_X1_settleIfComplete sk_6 rfl ⟨Nat.le_of_ble_eq_true rfl, Nat.le_of_ble_eq_true rfl⟩ rfl rfl (Nat.le_of_ble_eq_true rfl) dX9_doJob_169 ⟨Nat.le_refl _, Nat.le_refl _⟩ (fun hrv => av_eq (st2 := []) rfl rfl rfl rfl ?_))
    obtain rfl := am_inj1 hs
    exact av_vret C hr hlocks dX9_doJob_172
  by_cases hk0 : (Int.tmod a1 9) = 0
  · rw [if_pos hk0] at hs
    refine av_swi (pc := 43) (k := 0) (tgt := 72) C dX9_doJob_43 (by rw [hk0]; rfl) (by decide) rfl (by decide) ?_
    refine av_aload_n (pc := 72) (j := 5) C dX9_doJob_72 rfl rfl ?_
    refine av_iload_n (pc := 73) (j := 4) C dX9_doJob_73 rfl rfl ?_
    refine av_aload_n (pc := 74) (j := 5) C dX9_doJob_74 rfl rfl ?_
    refine av_getR (pc := 75) (k := 0) (r := 1) C fl_X9_12 sk_0 rfl dX9_doJob_75 ?_
    refine av_iload_n (pc := 78) (j := 4) C dX9_doJob_78 rfl rfl ?_
    obtain ⟨x16, S15, hc17, hs⟩ := am_b2_of hs
    refine av_eq (st2 := [am_I (Int.tdiv a1 9), am_R 1, am_I (Int.tdiv a1 9), am_R 0]) rfl rfl rfl rfl (av_callV (pc := 79) (as := [am_I (Int.tdiv a1 9)]) (rest := [am_I (Int.tdiv a1 9), am_R 0]) C (ct_X3_toAdopt l G (Int.tdiv a1 9) S7 x16 S15 hc17) ym_X3_toAdopt si_X9_233 im_X3_toAdopt se_X3_toAdopt sk_1 rfl ⟨Nat.le_of_ble_eq_true rfl, Nat.le_of_ble_eq_true rfl⟩ rfl rfl (Nat.le_of_ble_eq_true rfl) dX9_doJob_79 ⟨Nat.le_refl _, Nat.le_refl _⟩ (fun hrv => av_eq (st2 := [am_J x16, am_I (Int.tdiv a1 9), am_R 0]) rfl rfl rfl rfl ?_))
    refine av_aload_n (pc := 82) (j := 5) C dX9_doJob_82 rfl rfl ?_
    refine av_getR (pc := 83) (k := 0) (r := 1) C fl_X9_12 sk_0 rfl dX9_doJob_83 ?_
    refine av_iload_n (pc := 86) (j := 4) C dX9_doJob_86 rfl rfl ?_
    obtain ⟨x19, S18, hc20, hs⟩ := am_b2_of hs
    refine av_eq (st2 := [am_I (Int.tdiv a1 9), am_R 1, am_J x16, am_I (Int.tdiv a1 9), am_R 0]) rfl rfl rfl rfl (av_callV (pc := 87) (as := [am_I (Int.tdiv a1 9)]) (rest := [am_J x16, am_I (Int.tdiv a1 9), am_R 0]) C (ct_X3_addKey l G (Int.tdiv a1 9) S15 x19 S18 hc20) ym_X3_addKey si_X9_236 im_X3_addKey se_X3_addKey sk_1 rfl ⟨Nat.le_of_ble_eq_true rfl, Nat.le_of_ble_eq_true rfl⟩ rfl rfl (Nat.le_of_ble_eq_true rfl) dX9_doJob_87 ⟨Nat.le_refl _, Nat.le_refl _⟩ (fun hrv => av_eq (st2 := [am_I x19, am_J x16, am_I (Int.tdiv a1 9), am_R 0]) rfl rfl rfl rfl ?_))
    obtain ⟨S21, hc22, hs⟩ := am_b1_of hs
    refine av_eq (st2 := [am_I x19, am_J x16, am_I (Int.tdiv a1 9), am_R 0]) rfl rfl rfl rfl (av_callV (pc := 90) (as := [am_I (Int.tdiv a1 9), am_J x16, am_I x19]) (rest := []) C (ct_X9_adopt l G (Int.tdiv a1 9) x16 x19 S18 S21 hc22) ym_X9_adopt si_X9_239 im_X9_adopt se_X9_adopt sk_0 rfl ⟨Nat.le_of_ble_eq_true rfl, Nat.le_of_ble_eq_true rfl⟩ rfl rfl (Nat.le_of_ble_eq_true rfl) dX9_doJob_90 ⟨Nat.le_refl _, Nat.le_refl _⟩ (fun hrv => av_eq (st2 := []) rfl rfl rfl rfl ?_))
    refine av_goto (pc := 93) (tgt := 172) C dX9_doJob_93 (by decide) ?_
    obtain rfl := am_inj1 hs
    exact av_vret C hr hlocks dX9_doJob_172
  · rw [if_neg hk0] at hs
    by_cases hk1 : (Int.tmod a1 9) = 1
    · rw [if_pos hk1] at hs
      refine av_swi (pc := 43) (k := 1) (tgt := 96) C dX9_doJob_43 (by rw [hk1]; rfl) (by decide) rfl (by decide) ?_
      refine av_aload_n (pc := 96) (j := 5) C dX9_doJob_96 rfl rfl ?_
      refine av_getR (pc := 97) (k := 0) (r := 1) C fl_X9_12 sk_0 rfl dX9_doJob_97 ?_
      refine av_iload_n (pc := 100) (j := 4) C dX9_doJob_100 rfl rfl ?_
      refine av_iload (pc := 101) (j := 1) C dX9_doJob_101 rfl ?_
      refine av_lload (pc := 103) (j := 0) C dX9_doJob_103 rfl ?_
      refine av_aload_n (pc := 105) (j := 5) C dX9_doJob_105 rfl rfl ?_
      refine av_getR (pc := 106) (k := 0) (r := 1) C fl_X9_12 sk_0 rfl dX9_doJob_106 ?_
      refine av_iload_n (pc := 109) (j := 4) C dX9_doJob_109 rfl rfl ?_
      obtain ⟨x24, S23, hc25, hs⟩ := am_b2_of hs
      refine av_eq (st2 := [am_I (Int.tdiv a1 9), am_R 1, am_J x8, am_I x5, am_I (Int.tdiv a1 9), am_R 1]) rfl rfl rfl rfl (av_callV (pc := 110) (as := [am_I (Int.tdiv a1 9)]) (rest := [am_J x8, am_I x5, am_I (Int.tdiv a1 9), am_R 1]) C (ct_X3_lastKeyOf l G (Int.tdiv a1 9) S7 x24 S23 hc25) ym_X3_lastKeyOf si_X9_197 im_X3_lastKeyOf se_X3_lastKeyOf sk_1 rfl ⟨Nat.le_of_ble_eq_true rfl, Nat.le_of_ble_eq_true rfl⟩ rfl rfl (Nat.le_of_ble_eq_true rfl) dX9_doJob_110 ⟨Nat.le_refl _, Nat.le_refl _⟩ (fun hrv => av_eq (st2 := [am_I x24, am_J x8, am_I x5, am_I (Int.tdiv a1 9), am_R 1]) rfl rfl rfl rfl ?_))
      obtain ⟨S26, hc27, hs⟩ := am_b1_of hs
      refine av_eq (st2 := [am_I x24, am_J x8, am_I x5, am_I (Int.tdiv a1 9), am_R 1]) rfl rfl rfl rfl (av_callV (pc := 113) (as := [am_I (Int.tdiv a1 9), am_I x5, am_J x8, am_I x24]) (rest := []) C (ct_X3_settleBy l G (Int.tdiv a1 9) x5 x8 x24 S23 S26 hc27) ym_X3_settleBy si_X9_88 im_X3_settleBy se_X3_settleBy sk_1 rfl ⟨Nat.le_of_ble_eq_true rfl, Nat.le_of_ble_eq_true rfl⟩ rfl rfl (Nat.le_of_ble_eq_true rfl) dX9_doJob_113 ⟨Nat.le_refl _, Nat.le_refl _⟩ (fun hrv => av_eq (st2 := []) rfl rfl rfl rfl ?_))
      refine av_goto (pc := 116) (tgt := 172) C dX9_doJob_116 (by decide) ?_
      obtain rfl := am_inj1 hs
      exact av_vret C hr hlocks dX9_doJob_172
    · rw [if_neg hk1] at hs
      by_cases hk2 : (Int.tmod a1 9) = 2
      · rw [if_pos hk2] at hs
        refine av_swi (pc := 43) (k := 2) (tgt := 119) C dX9_doJob_43 (by rw [hk2]; rfl) (by decide) rfl (by decide) ?_
        refine av_aload_n (pc := 119) (j := 5) C dX9_doJob_119 rfl rfl ?_
        refine av_getR (pc := 120) (k := 6) (r := 7) C fl_X9_58 sk_0 rfl dX9_doJob_120 ?_
        refine av_iload_n (pc := 123) (j := 4) C dX9_doJob_123 rfl rfl ?_
        refine av_iload (pc := 124) (j := 1) C dX9_doJob_124 rfl ?_
        refine av_lload (pc := 126) (j := 0) C dX9_doJob_126 rfl ?_
        obtain ⟨S28, hc29, hs⟩ := am_b1_of hs
        refine av_eq (st2 := [am_J x8, am_I x5, am_I (Int.tdiv a1 9), am_R 7]) rfl rfl rfl rfl (av_callV (pc := 128) (as := [am_I (Int.tdiv a1 9), am_I x5, am_J x8]) (rest := []) C (ct_X5_handle l G (Int.tdiv a1 9) x5 x8 S7 S28 hc29) ym_X5_handle si_X9_243 im_X5_handle se_X5_handle sk_7 rfl ⟨Nat.le_of_ble_eq_true rfl, Nat.le_of_ble_eq_true rfl⟩ rfl rfl (Nat.le_of_ble_eq_true rfl) dX9_doJob_128 ⟨Nat.le_refl _, Nat.le_refl _⟩ (fun hrv => av_eq (st2 := []) rfl rfl rfl rfl ?_))
        refine av_goto (pc := 131) (tgt := 172) C dX9_doJob_131 (by decide) ?_
        obtain rfl := am_inj1 hs
        exact av_vret C hr hlocks dX9_doJob_172
      · rw [if_neg hk2] at hs
        by_cases hk3 : (Int.tmod a1 9) = 3
        · rw [if_pos hk3] at hs
          refine av_swi (pc := 43) (k := 3) (tgt := 134) C dX9_doJob_43 (by rw [hk3]; rfl) (by decide) rfl (by decide) ?_
          refine av_aload_n (pc := 134) (j := 5) C dX9_doJob_134 rfl rfl ?_
          refine av_getR (pc := 135) (k := 6) (r := 7) C fl_X9_58 sk_0 rfl dX9_doJob_135 ?_
          refine av_iload_n (pc := 138) (j := 4) C dX9_doJob_138 rfl rfl ?_
          refine av_iload (pc := 139) (j := 1) C dX9_doJob_139 rfl ?_
          refine av_lload (pc := 141) (j := 0) C dX9_doJob_141 rfl ?_
          obtain ⟨S30, hc31, hs⟩ := am_b1_of hs
          refine av_eq (st2 := [am_J x8, am_I x5, am_I (Int.tdiv a1 9), am_R 7]) rfl rfl rfl rfl (av_callV (pc := 143) (as := [am_I (Int.tdiv a1 9), am_I x5, am_J x8]) (rest := []) C (ct_X5_resume l G (Int.tdiv a1 9) x5 x8 S7 S30 hc31) ym_X5_resume si_X9_247 im_X5_resume se_X5_resume sk_7 rfl ⟨Nat.le_of_ble_eq_true rfl, Nat.le_of_ble_eq_true rfl⟩ rfl rfl (Nat.le_of_ble_eq_true rfl) dX9_doJob_143 ⟨Nat.le_refl _, Nat.le_refl _⟩ (fun hrv => av_eq (st2 := []) rfl rfl rfl rfl ?_))
          refine av_goto (pc := 146) (tgt := 172) C dX9_doJob_146 (by decide) ?_
          obtain rfl := am_inj1 hs
          exact av_vret C hr hlocks dX9_doJob_172
        · rw [if_neg hk3] at hs
          refine av_swo (pc := 43) (tgt := 149) C dX9_doJob_43 (by omega) (by decide) ?_
          exact hdef10 hs
def sf_X9_doTask (a1 : Int) (S : am_S) : Option (am_S) := (am_b2 (sf_X6_functionOf a1 S) (fun x2 S1 => (am_b2 (sf_X6_valueOf a1 S1) (fun x5 S4 => (am_b1 (sf_X5_perform x2 x5 (-1) S4) (fun S7 => (am_b1 (sf_X6_finish a1 S7) (fun S9 => (some S9)))))))))
set_option maxHeartbeats 4000000 in
set_option maxRecDepth 100000 in
theorem ct_X9_doTask (l : Launch) (G : am_G) (a1 : Int) (S : am_S) (S2 : am_S) (hs : sf_X9_doTask a1 S = some S2) : am_met l yX9_doTask cX9_doTask 2 none 3 71 G [am_R 0, am_I a1] S none S2 := by
  refine am_enter ym_X9_doTask (Nat.le_of_ble_eq_true rfl) ?_
  intro p e s m args below meth c C hr hlocks
  refine av_eq (lv2 := [(0, am_R 0), (1, am_I a1)]) rfl rfl rfl rfl ?_
  unfold sf_X9_doTask at hs
  refine av_aload_n (pc := 0) (j := 0) C dX9_doTask_0 rfl rfl ?_
  refine av_getR (pc := 1) (k := 6) (r := 7) C fl_X9_58 sk_0 rfl dX9_doTask_1 ?_
  refine av_aload_n (pc := 4) (j := 0) C dX9_doTask_4 rfl rfl ?_
  refine av_getR (pc := 5) (k := 3) (r := 4) C fl_X9_33 sk_0 rfl dX9_doTask_5 ?_
  refine av_iload_n (pc := 8) (j := 1) C dX9_doTask_8 rfl rfl ?_
  obtain ⟨x2, S1, hc3, hs⟩ := am_b2_of hs
  refine av_eq (st2 := [am_I a1, am_R 4, am_R 7]) rfl rfl rfl rfl (av_callV (pc := 9) (as := [am_I a1]) (rest := [am_R 7]) C (ct_X6_functionOf l G a1 S x2 S1 hc3) ym_X6_functionOf si_X9_274 im_X6_functionOf se_X6_functionOf sk_4 rfl ⟨Nat.le_of_ble_eq_true rfl, Nat.le_of_ble_eq_true rfl⟩ rfl rfl (Nat.le_of_ble_eq_true rfl) dX9_doTask_9 ⟨Nat.le_refl _, Nat.le_refl _⟩ (fun hrv => av_eq (st2 := [am_I x2, am_R 7]) rfl rfl rfl rfl ?_))
  refine av_aload_n (pc := 12) (j := 0) C dX9_doTask_12 rfl rfl ?_
  refine av_getR (pc := 13) (k := 3) (r := 4) C fl_X9_33 sk_0 rfl dX9_doTask_13 ?_
  refine av_iload_n (pc := 16) (j := 1) C dX9_doTask_16 rfl rfl ?_
  obtain ⟨x5, S4, hc6, hs⟩ := am_b2_of hs
  refine av_eq (st2 := [am_I a1, am_R 4, am_I x2, am_R 7]) rfl rfl rfl rfl (av_callV (pc := 17) (as := [am_I a1]) (rest := [am_I x2, am_R 7]) C (ct_X6_valueOf l G a1 S1 x5 S4 hc6) ym_X6_valueOf si_X9_277 im_X6_valueOf se_X6_valueOf sk_4 rfl ⟨Nat.le_of_ble_eq_true rfl, Nat.le_of_ble_eq_true rfl⟩ rfl rfl (Nat.le_of_ble_eq_true rfl) dX9_doTask_17 ⟨Nat.le_refl _, Nat.le_refl _⟩ (fun hrv => av_eq (st2 := [am_J x5, am_I x2, am_R 7]) rfl rfl rfl rfl ?_))
  refine av_iconst (pc := 20) C dX9_doTask_20 rfl ?_
  obtain ⟨S7, hc8, hs⟩ := am_b1_of hs
  refine av_eq (st2 := [am_I (-1), am_J x5, am_I x2, am_R 7]) rfl rfl rfl rfl (av_callV (pc := 21) (as := [am_I x2, am_J x5, am_I (-1)]) (rest := []) C (ct_X5_perform l G x2 x5 (-1) S4 S7 hc8) ym_X5_perform si_X9_278 im_X5_perform se_X5_perform sk_7 rfl ⟨Nat.le_of_ble_eq_true rfl, Nat.le_of_ble_eq_true rfl⟩ rfl rfl (Nat.le_of_ble_eq_true rfl) dX9_doTask_21 ⟨Nat.le_refl _, Nat.le_refl _⟩ (fun hrv => av_eq (st2 := []) rfl rfl rfl rfl ?_))
  refine av_aload_n (pc := 24) (j := 0) C dX9_doTask_24 rfl rfl ?_
  refine av_getR (pc := 25) (k := 3) (r := 4) C fl_X9_33 sk_0 rfl dX9_doTask_25 ?_
  refine av_iload_n (pc := 28) (j := 1) C dX9_doTask_28 rfl rfl ?_
  obtain ⟨S9, hc10, hs⟩ := am_b1_of hs
  refine av_eq (st2 := [am_I a1, am_R 4]) rfl rfl rfl rfl (av_callV (pc := 29) (as := [am_I a1]) (rest := []) C (ct_X6_finish l G a1 S7 S9 hc10) ym_X6_finish si_X9_281 im_X6_finish se_X6_finish sk_4 rfl ⟨Nat.le_of_ble_eq_true rfl, Nat.le_of_ble_eq_true rfl⟩ rfl rfl (Nat.le_of_ble_eq_true rfl) dX9_doTask_29 ⟨Nat.le_refl _, Nat.le_refl _⟩ (fun hrv => av_eq (st2 := []) rfl rfl rfl rfl ?_))
  obtain rfl := am_inj1 hs
  exact av_vret C hr hlocks dX9_doTask_32
def sf_X9_run_13 : Nat → (b1 : Int) → (b2 : Int) → (S : am_S) → Option (Int × am_S)
  | 0, _, _, _ => none
  | fu + 1, b1, b2, S => (if b1 ≤ b2 then (some (b2, S)) else (am_b2 (sf_X3_jobs  S) (fun x5 S4 => (if 0 < x5 then (am_b1 (sf_X2_beginTurn  S4) (fun S7 => (am_b2 (sf_X3_jobs  S7) (fun x10 S9 => (if x10 ≤ 0 then (am_b2 (sf_X6_dueFirst  S9) (fun x13 S12 => (am_b1 (sf_X9_doTask x13 S12) (fun S15 => (am_b1 (sf_X5_goOn  S15) (fun S17 => (sf_X9_run_13 fu b1 (am_w32 (b2 + 1)) S17))))))) else (am_b2 (sf_X3_takeJob  S9) (fun x20 S19 => (am_b1 (sf_X9_doJob x20 S19) (fun S22 => (am_b1 (sf_X5_goOn  S22) (fun S24 => (sf_X9_run_13 fu b1 (am_w32 (b2 + 1)) S24)))))))))))) else (am_b2 (sf_X6_size  S4) (fun x27 S26 => (if x27 ≤ 0 then (some (b2, S26)) else (am_b1 (sf_X2_beginTurn  S26) (fun S29 => (am_b2 (sf_X3_jobs  S29) (fun x32 S31 => (if x32 ≤ 0 then (am_b2 (sf_X6_dueFirst  S31) (fun x35 S34 => (am_b1 (sf_X9_doTask x35 S34) (fun S37 => (am_b1 (sf_X5_goOn  S37) (fun S39 => (sf_X9_run_13 fu b1 (am_w32 (b2 + 1)) S39))))))) else (am_b2 (sf_X3_takeJob  S31) (fun x42 S41 => (am_b1 (sf_X9_doJob x42 S41) (fun S44 => (am_b1 (sf_X5_goOn  S44) (fun S46 => (sf_X9_run_13 fu b1 (am_w32 (b2 + 1)) S46)))))))))))))))))))
set_option maxHeartbeats 4000000 in
set_option maxRecDepth 100000 in
theorem wk_X9_run_13 {p : Program} {l : Launch} {e : Env} {s : State} {m : MethodId} {args : Array Value} {below : List Frame} {meth : Method} {c : Code} {G : am_G} (C : am_C p s m args c cX9_run 3 RX9 G) (hr : meth.sig.returnType = (some .int)) (hlocks : meth.locks = false) : ∀ (fu : Nat) (b1 : Int) (b2 : Int) (S : am_S) (x : Int) (S2 : am_S), sf_X9_run_13 fu b1 b2 S = some (x, S2) → am_V p l e (am_rm 6 146) s m args below meth c (MQ below (am_Q G (some (am_I x)) S2) args s 0 0 (am_A G)) G (am_A G) s.heap 3 0 0 13 [(0, am_R 0), (1, am_I b1), (2, am_I b2)] [] S := by
  intro fu
  induction fu with
  | zero => intro b1 b2 S x S2 hs; cases hs
  | succ fu ih =>
    intro b1 b2 S x S2 hs
    unfold sf_X9_run_13 at hs
    refine av_iload_n (pc := 13) (j := 2) C dX9_run_13 rfl rfl ?_
    refine av_iload_n (pc := 14) (j := 1) C dX9_run_14 rfl rfl ?_
    refine av_icmp_ge (pc := 15) (tgt := 93) C dX9_run_15 (by decide) (fun hc => ?_) (fun hc => ?_)
    · rw [if_pos hc] at hs
      refine av_iload_n (pc := 93) (j := 2) C dX9_run_93 rfl rfl ?_
      obtain ⟨rfl, rfl⟩ := am_inj2 hs
      exact av_iret C hr hlocks dX9_run_94
    · rw [if_neg hc] at hs
      refine av_aload_n (pc := 18) (j := 0) C dX9_run_18 rfl rfl ?_
      refine av_getR (pc := 19) (k := 0) (r := 1) C fl_X9_12 sk_0 rfl dX9_run_19 ?_
      obtain ⟨x5, S4, hc6, hs⟩ := am_b2_of hs
      refine av_eq (st2 := [am_R 1]) rfl rfl rfl rfl (av_callV (pc := 22) (as := []) (rest := []) C (ct_X3_jobs l G  S x5 S4 hc6) ym_X3_jobs si_X9_145 im_X3_jobs se_X3_jobs sk_1 rfl ⟨Nat.le_of_ble_eq_true rfl, Nat.le_of_ble_eq_true rfl⟩ rfl rfl (Nat.le_of_ble_eq_true rfl) dX9_run_22 ⟨Nat.le_refl _, Nat.le_refl _⟩ (fun hrv => av_eq (st2 := [am_I x5]) rfl rfl rfl rfl ?_))
      refine av_if_gt (pc := 25) (tgt := 38) C dX9_run_25 (by decide) (fun hc => ?_) (fun hc => ?_)
      · rw [if_pos hc] at hs
        refine av_aload_n (pc := 38) (j := 0) C dX9_run_38 rfl rfl ?_
        refine av_getR (pc := 39) (k := 4) (r := 5) C fl_X9_40 sk_0 rfl dX9_run_39 ?_
        obtain ⟨S7, hc8, hs⟩ := am_b1_of hs
        refine av_eq (st2 := [am_R 5]) rfl rfl rfl rfl (av_callV (pc := 42) (as := []) (rest := []) C (ct_X2_beginTurn l G  S4 S7 hc8) ym_X2_beginTurn si_X9_151 im_X2_beginTurn se_X2_beginTurn sk_5 rfl ⟨Nat.le_of_ble_eq_true rfl, Nat.le_of_ble_eq_true rfl⟩ rfl rfl (Nat.le_of_ble_eq_true rfl) dX9_run_42 ⟨Nat.le_refl _, Nat.le_refl _⟩ (fun hrv => av_eq (st2 := []) rfl rfl rfl rfl ?_))
        refine av_aload_n (pc := 45) (j := 0) C dX9_run_45 rfl rfl ?_
        refine av_getR (pc := 46) (k := 0) (r := 1) C fl_X9_12 sk_0 rfl dX9_run_46 ?_
        obtain ⟨x10, S9, hc11, hs⟩ := am_b2_of hs
        refine av_eq (st2 := [am_R 1]) rfl rfl rfl rfl (av_callV (pc := 49) (as := []) (rest := []) C (ct_X3_jobs l G  S7 x10 S9 hc11) ym_X3_jobs si_X9_145 im_X3_jobs se_X3_jobs sk_1 rfl ⟨Nat.le_of_ble_eq_true rfl, Nat.le_of_ble_eq_true rfl⟩ rfl rfl (Nat.le_of_ble_eq_true rfl) dX9_run_49 ⟨Nat.le_refl _, Nat.le_refl _⟩ (fun hrv => av_eq (st2 := [am_I x10]) rfl rfl rfl rfl ?_))
        refine av_if_le (pc := 52) (tgt := 69) C dX9_run_52 (by decide) (fun hc => ?_) (fun hc => ?_)
        · rw [if_pos hc] at hs
          refine av_aload_n (pc := 69) (j := 0) C dX9_run_69 rfl rfl ?_
          refine av_aload_n (pc := 70) (j := 0) C dX9_run_70 rfl rfl ?_
          refine av_getR (pc := 71) (k := 3) (r := 4) C fl_X9_33 sk_0 rfl dX9_run_71 ?_
          obtain ⟨x13, S12, hc14, hs⟩ := am_b2_of hs
          refine av_eq (st2 := [am_R 4, am_R 0]) rfl rfl rfl rfl (av_callV (pc := 74) (as := []) (rest := [am_R 0]) C (ct_X6_dueFirst l G  S9 x13 S12 hc14) ym_X6_dueFirst si_X9_161 im_X6_dueFirst se_X6_dueFirst sk_4 rfl ⟨Nat.le_of_ble_eq_true rfl, Nat.le_of_ble_eq_true rfl⟩ rfl rfl (Nat.le_of_ble_eq_true rfl) dX9_run_74 ⟨Nat.le_refl _, Nat.le_refl _⟩ (fun hrv => av_eq (st2 := [am_I x13, am_R 0]) rfl rfl rfl rfl ?_))
          obtain ⟨S15, hc16, hs⟩ := am_b1_of hs
          refine av_eq (st2 := [am_I x13, am_R 0]) rfl rfl rfl rfl (av_callV (pc := 77) (as := [am_I x13]) (rest := []) C (ct_X9_doTask l G x13 S12 S15 hc16) ym_X9_doTask si_X9_164 im_X9_doTask se_X9_doTask sk_0 rfl ⟨Nat.le_of_ble_eq_true rfl, Nat.le_of_ble_eq_true rfl⟩ rfl rfl (Nat.le_of_ble_eq_true rfl) dX9_run_77 ⟨Nat.le_refl _, Nat.le_refl _⟩ (fun hrv => av_eq (st2 := []) rfl rfl rfl rfl ?_))
          refine av_aload_n (pc := 80) (j := 0) C dX9_run_80 rfl rfl ?_
          refine av_getR (pc := 81) (k := 6) (r := 7) C fl_X9_58 sk_0 rfl dX9_run_81 ?_
          obtain ⟨S17, hc18, hs⟩ := am_b1_of hs
          refine av_eq (st2 := [am_R 7]) rfl rfl rfl rfl (av_callV (pc := 84) (as := []) (rest := []) C (ct_X5_goOn l G  S15 S17 hc18) ym_X5_goOn si_X9_127 im_X5_goOn se_X5_goOn sk_7 rfl ⟨Nat.le_of_ble_eq_true rfl, Nat.le_of_ble_eq_true rfl⟩ rfl rfl (Nat.le_of_ble_eq_true rfl) dX9_run_84 ⟨Nat.le_refl _, Nat.le_refl _⟩ (fun hrv => av_eq (st2 := []) rfl rfl rfl rfl ?_))
          refine av_iinc (pc := 87) (j := 2) (lv2 := [(2, am_I (am_w32 (b2 + 1))), (0, am_R 0), (1, am_I b1)]) C dX9_run_87 rfl (by decide) rfl ?_
          refine av_goto (pc := 90) (tgt := 13) C dX9_run_90 (by decide) ?_
          refine av_lvsub (lv2 := [(0, am_R 0), (1, am_I b1), (2, am_I (am_w32 (b2 + 1)))]) [1, 2, 0] rfl ?_
          exact ih b1 (am_w32 (b2 + 1)) S17 x S2 hs
        · rw [if_neg hc] at hs
          refine av_aload_n (pc := 55) (j := 0) C dX9_run_55 rfl rfl ?_
          refine av_aload_n (pc := 56) (j := 0) C dX9_run_56 rfl rfl ?_
          refine av_getR (pc := 57) (k := 0) (r := 1) C fl_X9_12 sk_0 rfl dX9_run_57 ?_
          obtain ⟨x20, S19, hc21, hs⟩ := am_b2_of hs
          refine av_eq (st2 := [am_R 1, am_R 0]) rfl rfl rfl rfl (av_callV (pc := 60) (as := []) (rest := [am_R 0]) C (ct_X3_takeJob l G  S9 x20 S19 hc21) ym_X3_takeJob si_X9_154 im_X3_takeJob se_X3_takeJob sk_1 rfl ⟨Nat.le_of_ble_eq_true rfl, Nat.le_of_ble_eq_true rfl⟩ rfl rfl (Nat.le_of_ble_eq_true rfl) dX9_run_60 ⟨Nat.le_refl _, Nat.le_refl _⟩ (fun hrv => av_eq (st2 := [am_I x20, am_R 0]) rfl rfl rfl rfl ?_))
          obtain ⟨S22, hc23, hs⟩ := am_b1_of hs
          refine av_eq (st2 := [am_I x20, am_R 0]) rfl rfl rfl rfl (av_callV (pc := 63) (as := [am_I x20]) (rest := []) C (ct_X9_doJob l G x20 S19 S22 hc23) ym_X9_doJob si_X9_157 im_X9_doJob se_X9_doJob sk_0 rfl ⟨Nat.le_of_ble_eq_true rfl, Nat.le_of_ble_eq_true rfl⟩ rfl rfl (Nat.le_of_ble_eq_true rfl) dX9_run_63 ⟨Nat.le_refl _, Nat.le_refl _⟩ (fun hrv => av_eq (st2 := []) rfl rfl rfl rfl ?_))
          refine av_goto (pc := 66) (tgt := 80) C dX9_run_66 (by decide) ?_
          refine av_aload_n (pc := 80) (j := 0) C dX9_run_80 rfl rfl ?_
          refine av_getR (pc := 81) (k := 6) (r := 7) C fl_X9_58 sk_0 rfl dX9_run_81 ?_
          obtain ⟨S24, hc25, hs⟩ := am_b1_of hs
          refine av_eq (st2 := [am_R 7]) rfl rfl rfl rfl (av_callV (pc := 84) (as := []) (rest := []) C (ct_X5_goOn l G  S22 S24 hc25) ym_X5_goOn si_X9_127 im_X5_goOn se_X5_goOn sk_7 rfl ⟨Nat.le_of_ble_eq_true rfl, Nat.le_of_ble_eq_true rfl⟩ rfl rfl (Nat.le_of_ble_eq_true rfl) dX9_run_84 ⟨Nat.le_refl _, Nat.le_refl _⟩ (fun hrv => av_eq (st2 := []) rfl rfl rfl rfl ?_))
          refine av_iinc (pc := 87) (j := 2) (lv2 := [(2, am_I (am_w32 (b2 + 1))), (0, am_R 0), (1, am_I b1)]) C dX9_run_87 rfl (by decide) rfl ?_
          refine av_goto (pc := 90) (tgt := 13) C dX9_run_90 (by decide) ?_
          refine av_lvsub (lv2 := [(0, am_R 0), (1, am_I b1), (2, am_I (am_w32 (b2 + 1)))]) [1, 2, 0] rfl ?_
          exact ih b1 (am_w32 (b2 + 1)) S24 x S2 hs
      · rw [if_neg hc] at hs
        refine av_aload_n (pc := 28) (j := 0) C dX9_run_28 rfl rfl ?_
        refine av_getR (pc := 29) (k := 3) (r := 4) C fl_X9_33 sk_0 rfl dX9_run_29 ?_
        obtain ⟨x27, S26, hc28, hs⟩ := am_b2_of hs
        refine av_eq (st2 := [am_R 4]) rfl rfl rfl rfl (av_callV (pc := 32) (as := []) (rest := []) C (ct_X6_size l G  S4 x27 S26 hc28) ym_X6_size si_X9_148 im_X6_size se_X6_size sk_4 rfl ⟨Nat.le_of_ble_eq_true rfl, Nat.le_of_ble_eq_true rfl⟩ rfl rfl (Nat.le_of_ble_eq_true rfl) dX9_run_32 ⟨Nat.le_refl _, Nat.le_refl _⟩ (fun hrv => av_eq (st2 := [am_I x27]) rfl rfl rfl rfl ?_))
        refine av_if_le (pc := 35) (tgt := 93) C dX9_run_35 (by decide) (fun hc => ?_) (fun hc => ?_)
        · rw [if_pos hc] at hs
          refine av_iload_n (pc := 93) (j := 2) C dX9_run_93 rfl rfl ?_
          obtain ⟨rfl, rfl⟩ := am_inj2 hs
          exact av_iret C hr hlocks dX9_run_94
        · rw [if_neg hc] at hs
          refine av_aload_n (pc := 38) (j := 0) C dX9_run_38 rfl rfl ?_
          refine av_getR (pc := 39) (k := 4) (r := 5) C fl_X9_40 sk_0 rfl dX9_run_39 ?_
          obtain ⟨S29, hc30, hs⟩ := am_b1_of hs
          refine av_eq (st2 := [am_R 5]) rfl rfl rfl rfl (av_callV (pc := 42) (as := []) (rest := []) C (ct_X2_beginTurn l G  S26 S29 hc30) ym_X2_beginTurn si_X9_151 im_X2_beginTurn se_X2_beginTurn sk_5 rfl ⟨Nat.le_of_ble_eq_true rfl, Nat.le_of_ble_eq_true rfl⟩ rfl rfl (Nat.le_of_ble_eq_true rfl) dX9_run_42 ⟨Nat.le_refl _, Nat.le_refl _⟩ (fun hrv => av_eq (st2 := []) rfl rfl rfl rfl ?_))
          refine av_aload_n (pc := 45) (j := 0) C dX9_run_45 rfl rfl ?_
          refine av_getR (pc := 46) (k := 0) (r := 1) C fl_X9_12 sk_0 rfl dX9_run_46 ?_
          obtain ⟨x32, S31, hc33, hs⟩ := am_b2_of hs
          refine av_eq (st2 := [am_R 1]) rfl rfl rfl rfl (av_callV (pc := 49) (as := []) (rest := []) C (ct_X3_jobs l G  S29 x32 S31 hc33) ym_X3_jobs si_X9_145 im_X3_jobs se_X3_jobs sk_1 rfl ⟨Nat.le_of_ble_eq_true rfl, Nat.le_of_ble_eq_true rfl⟩ rfl rfl (Nat.le_of_ble_eq_true rfl) dX9_run_49 ⟨Nat.le_refl _, Nat.le_refl _⟩ (fun hrv => av_eq (st2 := [am_I x32]) rfl rfl rfl rfl ?_))
          refine av_if_le (pc := 52) (tgt := 69) C dX9_run_52 (by decide) (fun hc => ?_) (fun hc => ?_)
          · rw [if_pos hc] at hs
            refine av_aload_n (pc := 69) (j := 0) C dX9_run_69 rfl rfl ?_
            refine av_aload_n (pc := 70) (j := 0) C dX9_run_70 rfl rfl ?_
            refine av_getR (pc := 71) (k := 3) (r := 4) C fl_X9_33 sk_0 rfl dX9_run_71 ?_
            obtain ⟨x35, S34, hc36, hs⟩ := am_b2_of hs
            refine av_eq (st2 := [am_R 4, am_R 0]) rfl rfl rfl rfl (av_callV (pc := 74) (as := []) (rest := [am_R 0]) C (ct_X6_dueFirst l G  S31 x35 S34 hc36) ym_X6_dueFirst si_X9_161 im_X6_dueFirst se_X6_dueFirst sk_4 rfl ⟨Nat.le_of_ble_eq_true rfl, Nat.le_of_ble_eq_true rfl⟩ rfl rfl (Nat.le_of_ble_eq_true rfl) dX9_run_74 ⟨Nat.le_refl _, Nat.le_refl _⟩ (fun hrv => av_eq (st2 := [am_I x35, am_R 0]) rfl rfl rfl rfl ?_))
            obtain ⟨S37, hc38, hs⟩ := am_b1_of hs
            refine av_eq (st2 := [am_I x35, am_R 0]) rfl rfl rfl rfl (av_callV (pc := 77) (as := [am_I x35]) (rest := []) C (ct_X9_doTask l G x35 S34 S37 hc38) ym_X9_doTask si_X9_164 im_X9_doTask se_X9_doTask sk_0 rfl ⟨Nat.le_of_ble_eq_true rfl, Nat.le_of_ble_eq_true rfl⟩ rfl rfl (Nat.le_of_ble_eq_true rfl) dX9_run_77 ⟨Nat.le_refl _, Nat.le_refl _⟩ (fun hrv => av_eq (st2 := []) rfl rfl rfl rfl ?_))
            refine av_aload_n (pc := 80) (j := 0) C dX9_run_80 rfl rfl ?_
            refine av_getR (pc := 81) (k := 6) (r := 7) C fl_X9_58 sk_0 rfl dX9_run_81 ?_
            obtain ⟨S39, hc40, hs⟩ := am_b1_of hs
            refine av_eq (st2 := [am_R 7]) rfl rfl rfl rfl (av_callV (pc := 84) (as := []) (rest := []) C (ct_X5_goOn l G  S37 S39 hc40) ym_X5_goOn si_X9_127 im_X5_goOn se_X5_goOn sk_7 rfl ⟨Nat.le_of_ble_eq_true rfl, Nat.le_of_ble_eq_true rfl⟩ rfl rfl (Nat.le_of_ble_eq_true rfl) dX9_run_84 ⟨Nat.le_refl _, Nat.le_refl _⟩ (fun hrv => av_eq (st2 := []) rfl rfl rfl rfl ?_))
            refine av_iinc (pc := 87) (j := 2) (lv2 := [(2, am_I (am_w32 (b2 + 1))), (0, am_R 0), (1, am_I b1)]) C dX9_run_87 rfl (by decide) rfl ?_
            refine av_goto (pc := 90) (tgt := 13) C dX9_run_90 (by decide) ?_
            refine av_lvsub (lv2 := [(0, am_R 0), (1, am_I b1), (2, am_I (am_w32 (b2 + 1)))]) [1, 2, 0] rfl ?_
            exact ih b1 (am_w32 (b2 + 1)) S39 x S2 hs
          · rw [if_neg hc] at hs
            refine av_aload_n (pc := 55) (j := 0) C dX9_run_55 rfl rfl ?_
            refine av_aload_n (pc := 56) (j := 0) C dX9_run_56 rfl rfl ?_
            refine av_getR (pc := 57) (k := 0) (r := 1) C fl_X9_12 sk_0 rfl dX9_run_57 ?_
            obtain ⟨x42, S41, hc43, hs⟩ := am_b2_of hs
            refine av_eq (st2 := [am_R 1, am_R 0]) rfl rfl rfl rfl (av_callV (pc := 60) (as := []) (rest := [am_R 0]) C (ct_X3_takeJob l G  S31 x42 S41 hc43) ym_X3_takeJob si_X9_154 im_X3_takeJob se_X3_takeJob sk_1 rfl ⟨Nat.le_of_ble_eq_true rfl, Nat.le_of_ble_eq_true rfl⟩ rfl rfl (Nat.le_of_ble_eq_true rfl) dX9_run_60 ⟨Nat.le_refl _, Nat.le_refl _⟩ (fun hrv => av_eq (st2 := [am_I x42, am_R 0]) rfl rfl rfl rfl ?_))
            obtain ⟨S44, hc45, hs⟩ := am_b1_of hs
            refine av_eq (st2 := [am_I x42, am_R 0]) rfl rfl rfl rfl (av_callV (pc := 63) (as := [am_I x42]) (rest := []) C (ct_X9_doJob l G x42 S41 S44 hc45) ym_X9_doJob si_X9_157 im_X9_doJob se_X9_doJob sk_0 rfl ⟨Nat.le_of_ble_eq_true rfl, Nat.le_of_ble_eq_true rfl⟩ rfl rfl (Nat.le_of_ble_eq_true rfl) dX9_run_63 ⟨Nat.le_refl _, Nat.le_refl _⟩ (fun hrv => av_eq (st2 := []) rfl rfl rfl rfl ?_))
            refine av_goto (pc := 66) (tgt := 80) C dX9_run_66 (by decide) ?_
            refine av_aload_n (pc := 80) (j := 0) C dX9_run_80 rfl rfl ?_
            refine av_getR (pc := 81) (k := 6) (r := 7) C fl_X9_58 sk_0 rfl dX9_run_81 ?_
            obtain ⟨S46, hc47, hs⟩ := am_b1_of hs
            refine av_eq (st2 := [am_R 7]) rfl rfl rfl rfl (av_callV (pc := 84) (as := []) (rest := []) C (ct_X5_goOn l G  S44 S46 hc47) ym_X5_goOn si_X9_127 im_X5_goOn se_X5_goOn sk_7 rfl ⟨Nat.le_of_ble_eq_true rfl, Nat.le_of_ble_eq_true rfl⟩ rfl rfl (Nat.le_of_ble_eq_true rfl) dX9_run_84 ⟨Nat.le_refl _, Nat.le_refl _⟩ (fun hrv => av_eq (st2 := []) rfl rfl rfl rfl ?_))
            refine av_iinc (pc := 87) (j := 2) (lv2 := [(2, am_I (am_w32 (b2 + 1))), (0, am_R 0), (1, am_I b1)]) C dX9_run_87 rfl (by decide) rfl ?_
            refine av_goto (pc := 90) (tgt := 13) C dX9_run_90 (by decide) ?_
            refine av_lvsub (lv2 := [(0, am_R 0), (1, am_I b1), (2, am_I (am_w32 (b2 + 1)))]) [1, 2, 0] rfl ?_
            exact ih b1 (am_w32 (b2 + 1)) S46 x S2 hs
def sf_X9_run (a1 : Int) (S : am_S) : Option (Int × am_S) := (am_b2 (sf_X9_isWithin a1 61 S) (fun x2 S1 => (if x2 = 0 then (some ((-1), S1)) else (sf_X9_run_13 1000 a1 0 S1))))
set_option maxHeartbeats 4000000 in
set_option maxRecDepth 100000 in
theorem ct_X9_run (l : Launch) (G : am_G) (a1 : Int) (S : am_S) (x : Int) (S2 : am_S) (hs : sf_X9_run a1 S = some (x, S2)) : am_met l yX9_run cX9_run 3 (some .int) 6 146 G [am_R 0, am_I a1] S (some (am_I x)) S2 := by
  refine am_enter ym_X9_run (Nat.le_of_ble_eq_true rfl) ?_
  intro p e s m args below meth c C hr hlocks
  refine av_eq (lv2 := [(0, am_R 0), (1, am_I a1)]) rfl rfl rfl rfl ?_
  unfold sf_X9_run at hs
  refine av_iload_n (pc := 0) (j := 1) C dX9_run_0 rfl rfl ?_
  refine av_bipush (pc := 1) C dX9_run_1 rfl ?_
  obtain ⟨x2, S1, hc3, hs⟩ := am_b2_of hs
  refine av_eq (st2 := [am_I 61, am_I a1]) rfl rfl rfl rfl (av_callS (pc := 3) (as := [am_I a1, am_I 61]) (rest := []) C (ct_X9_isWithin l G a1 61 S x2 S1 hc3) ym_X9_isWithin si_X9_99 st_X9_isWithin ⟨Nat.le_of_ble_eq_true rfl, Nat.le_of_ble_eq_true rfl⟩ rfl rfl (Nat.le_of_ble_eq_true rfl) dX9_run_3 ⟨Nat.le_refl _, Nat.le_refl _⟩ (fun hrv => av_eq (st2 := [am_I x2]) rfl rfl rfl rfl ?_))
  refine av_if_ne (pc := 6) (tgt := 11) C dX9_run_6 (by decide) (fun hc => ?_) (fun hc => ?_)
  · rw [if_neg hc] at hs
    refine av_iconst (pc := 11) C dX9_run_11 rfl ?_
    refine av_istore_n (pc := 12) (i := 2) (lv2 := [(2, am_I 0), (0, am_R 0), (1, am_I a1)]) C dX9_run_12 rfl (by decide) rfl ?_
    refine av_lvsub (lv2 := [(0, am_R 0), (1, am_I a1), (2, am_I 0)]) [1, 2, 0] rfl ?_
    exact wk_X9_run_13 C hr hlocks 1000 a1 0 S1 x S2 hs
  · rw [if_pos (Decidable.not_not.mp hc)] at hs
    refine av_iconst (pc := 9) C dX9_run_9 rfl ?_
    obtain ⟨rfl, rfl⟩ := am_inj2 hs
    exact av_iret C hr hlocks dX9_run_10
def sf_X9_forget (S : am_S) : Option (Int × am_S) := (am_b2 (sf_X3_made  S) (fun x2 S1 => (am_b1 (sf_X3_clear  S1) (fun S4 => (am_b1 (sf_X7_clear  S4) (fun S6 => (am_b1 (sf_X6_clear  S6) (fun S8 => (am_b1 (sf_X2_clear  S8) (fun S10 => (am_b1 (sf_X1_clear  S10) (fun S12 => (am_b1 (sf_X5_clear  S12) (fun S14 => (some (x2, S14))))))))))))))))
set_option maxHeartbeats 4000000 in
set_option maxRecDepth 100000 in
theorem ct_X9_forget (l : Launch) (G : am_G) (S : am_S) (x : Int) (S2 : am_S) (hs : sf_X9_forget  S = some (x, S2)) : am_met l yX9_forget cX9_forget 2 (some .int) 2 43 G [am_R 0] S (some (am_I x)) S2 := by
  refine am_enter ym_X9_forget (Nat.le_of_ble_eq_true rfl) ?_
  intro p e s m args below meth c C hr hlocks
  refine av_eq (lv2 := [(0, am_R 0)]) rfl rfl rfl rfl ?_
  unfold sf_X9_forget at hs
  refine av_aload_n (pc := 0) (j := 0) C dX9_forget_0 rfl rfl ?_
  refine av_getR (pc := 1) (k := 0) (r := 1) C fl_X9_12 sk_0 rfl dX9_forget_1 ?_
  obtain ⟨x2, S1, hc3, hs⟩ := am_b2_of hs
  refine av_eq (st2 := [am_R 1]) rfl rfl rfl rfl (av_callV (pc := 4) (as := []) (rest := []) C (ct_X3_made l G  S x2 S1 hc3) ym_X3_made si_X9_167 im_X3_made se_X3_made sk_1 rfl ⟨Nat.le_of_ble_eq_true rfl, Nat.le_of_ble_eq_true rfl⟩ rfl rfl (Nat.le_of_ble_eq_true rfl) dX9_forget_4 ⟨Nat.le_refl _, Nat.le_refl _⟩ (fun hrv => av_eq (st2 := [am_I x2]) rfl rfl rfl rfl ?_))
  refine av_istore_n (pc := 7) (i := 1) (lv2 := [(1, am_I x2), (0, am_R 0)]) C dX9_forget_7 rfl (by decide) rfl ?_
  refine av_aload_n (pc := 8) (j := 1) C dX9_forget_8 rfl rfl ?_
  refine av_getR (pc := 9) (k := 0) (r := 1) C fl_X9_12 sk_0 rfl dX9_forget_9 ?_
  obtain ⟨S4, hc5, hs⟩ := am_b1_of hs
  refine av_eq (st2 := [am_R 1]) rfl rfl rfl rfl (av_callV (pc := 12) (as := []) (rest := []) C (ct_X3_clear l G  S1 S4 hc5) ym_X3_clear si_X9_170 im_X3_clear se_X3_clear sk_1 rfl ⟨Nat.le_of_ble_eq_true rfl, Nat.le_of_ble_eq_true rfl⟩ rfl rfl (Nat.le_of_ble_eq_true rfl) dX9_forget_12 ⟨Nat.le_refl _, Nat.le_refl _⟩ (fun hrv => av_eq (st2 := []) rfl rfl rfl rfl ?_))
  refine av_aload_n (pc := 15) (j := 1) C dX9_forget_15 rfl rfl ?_
  refine av_getR (pc := 16) (k := 1) (r := 2) C fl_X9_19 sk_0 rfl dX9_forget_16 ?_
  obtain ⟨S6, hc7, hs⟩ := am_b1_of hs
  refine av_eq (st2 := [am_R 2]) rfl rfl rfl rfl (av_callV (pc := 19) (as := []) (rest := []) C (ct_X7_clear l G  S4 S6 hc7) ym_X7_clear si_X9_173 im_X7_clear se_X7_clear sk_2 rfl ⟨Nat.le_of_ble_eq_true rfl, Nat.le_of_ble_eq_true rfl⟩ rfl rfl (Nat.le_of_ble_eq_true rfl) dX9_forget_19 ⟨Nat.le_refl _, Nat.le_refl _⟩ (fun hrv => av_eq (st2 := []) rfl rfl rfl rfl ?_))
  refine av_aload_n (pc := 22) (j := 1) C dX9_forget_22 rfl rfl ?_
  refine av_getR (pc := 23) (k := 3) (r := 4) C fl_X9_33 sk_0 rfl dX9_forget_23 ?_
  obtain ⟨S8, hc9, hs⟩ := am_b1_of hs
  refine av_eq (st2 := [am_R 4]) rfl rfl rfl rfl (av_callV (pc := 26) (as := []) (rest := []) C (ct_X6_clear l G  S6 S8 hc9) ym_X6_clear si_X9_174 im_X6_clear se_X6_clear sk_4 rfl ⟨Nat.le_of_ble_eq_true rfl, Nat.le_of_ble_eq_true rfl⟩ rfl rfl (Nat.le_of_ble_eq_true rfl) dX9_forget_26 ⟨Nat.le_refl _, Nat.le_refl _⟩ (fun hrv => av_eq (st2 := []) rfl rfl rfl rfl ?_))
  refine av_aload_n (pc := 29) (j := 1) C dX9_forget_29 rfl rfl ?_
  refine av_getR (pc := 30) (k := 4) (r := 5) C fl_X9_40 sk_0 rfl dX9_forget_30 ?_
  obtain ⟨S10, hc11, hs⟩ := am_b1_of hs
  refine av_eq (st2 := [am_R 5]) rfl rfl rfl rfl (av_callV (pc := 33) (as := []) (rest := []) C (ct_X2_clear l G  S8 S10 hc11) ym_X2_clear si_X9_175 im_X2_clear se_X2_clear sk_5 rfl ⟨Nat.le_of_ble_eq_true rfl, Nat.le_of_ble_eq_true rfl⟩ rfl rfl (Nat.le_of_ble_eq_true rfl) dX9_forget_33 ⟨Nat.le_refl _, Nat.le_refl _⟩ (fun hrv => av_eq (st2 := []) rfl rfl rfl rfl ?_))
  refine av_aload_n (pc := 36) (j := 1) C dX9_forget_36 rfl rfl ?_
  refine av_getR (pc := 37) (k := 5) (r := 6) C fl_X9_49 sk_0 rfl dX9_forget_37 ?_
  obtain ⟨S12, hc13, hs⟩ := am_b1_of hs
  refine av_eq (st2 := [am_R 6]) rfl rfl rfl rfl (av_callV (pc := 40) (as := []) (rest := []) C (ct_X1_clear l G  S10 S12 hc13) ym_X1_clear si_X9_176 im_X1_clear se_X1_clear sk_6 rfl ⟨Nat.le_of_ble_eq_true rfl, Nat.le_of_ble_eq_true rfl⟩ rfl rfl (Nat.le_of_ble_eq_true rfl) dX9_forget_40 ⟨Nat.le_refl _, Nat.le_refl _⟩ (fun hrv => av_eq (st2 := []) rfl rfl rfl rfl ?_))
  refine av_aload_n (pc := 43) (j := 1) C dX9_forget_43 rfl rfl ?_
  refine av_getR (pc := 44) (k := 6) (r := 7) C fl_X9_58 sk_0 rfl dX9_forget_44 ?_
  obtain ⟨S14, hc15, hs⟩ := am_b1_of hs
  refine av_eq (st2 := [am_R 7]) rfl rfl rfl rfl (av_callV (pc := 47) (as := []) (rest := []) C (ct_X5_clear l G  S12 S14 hc15) ym_X5_clear si_X9_177 im_X5_clear se_X5_clear sk_7 rfl ⟨Nat.le_of_ble_eq_true rfl, Nat.le_of_ble_eq_true rfl⟩ rfl rfl (Nat.le_of_ble_eq_true rfl) dX9_forget_47 ⟨Nat.le_refl _, Nat.le_refl _⟩ (fun hrv => av_eq (st2 := []) rfl rfl rfl rfl ?_))
  refine av_iload_n (pc := 50) (j := 0) C dX9_forget_50 rfl rfl ?_
  obtain ⟨rfl, rfl⟩ := am_inj2 hs
  exact av_iret C hr hlocks dX9_forget_51
def sf_X9_state_29 (b1 : Int) (b2 : Int) (t0 : Int) (S : am_S) : Option (Int × am_S) := (if b2 = 0 then (am_b2 (sf_X3_statusOf b1 S) (fun x9 S8 => (some (x9, S8)))) else (if b2 = 1 then (if t0 = 0 then (am_b2 (sf_X3_valueOf b1 S) (fun x12 S11 => (am_b2 (sf_X8_sortOf x12 S11) (fun x15 S14 => (some (x15, S14)))))) else (some ((-1), S))) else (if b2 = 2 then (if t0 = 0 then (am_b2 (sf_X3_valueOf b1 S) (fun x18 S17 => (am_b2 (sf_X8_numberOf x18 S17) (fun x21 S20 => (some (x21, S20)))))) else (some ((-1), S))) else (if b2 = 3 then (am_b2 (sf_X3_isLoose b1 S) (fun x24 S23 => (if x24 = 0 then (some (0, S23)) else (some (1, S23))))) else (if b2 = 4 then (am_b2 (sf_X3_reactionsOf b1 S) (fun x27 S26 => (some (x27, S26)))) else (if b2 = 5 then (am_b2 (sf_X3_lastKeyOf b1 S) (fun x30 S29 => (some (x30, S29)))) else (if b2 = 6 then (am_b2 (sf_X3_isKeyUsed b1 S) (fun x33 S32 => (if x33 = 0 then (some (0, S32)) else (some (1, S32))))) else (if b2 = 7 then (am_b2 (sf_X5_isStopped b1 S) (fun x36 S35 => (if x36 = 0 then (some (0, S35)) else (some (1, S35))))) else (some ((-1), S))))))))))
set_option maxHeartbeats 4000000 in
set_option maxRecDepth 100000 in
theorem wk_X9_state_29 {p : Program} {l : Launch} {e : Env} {s : State} {m : MethodId} {args : Array Value} {below : List Frame} {meth : Method} {c : Code} {G : am_G} (C : am_C p s m args c cX9_state 4 RX9 G) (hr : meth.sig.returnType = (some .int)) (hlocks : meth.locks = false) (b1 : Int) (b2 : Int) (t0 : Int) (S : am_S) (x : Int) (S2 : am_S) (hs : sf_X9_state_29 b1 b2 t0 S = some (x, S2)) : am_V p l e (am_rm 2 42) s m args below meth c (MQ below (am_Q G (some (am_I x)) S2) args s 0 0 (am_A G)) G (am_A G) s.heap 4 0 0 29 [(0, am_R 0), (1, am_I b1), (2, am_I b2)] [am_I t0] S := by
  unfold sf_X9_state_29 at hs
  refine av_istore_n (pc := 29) (i := 3) (lv2 := [(3, am_I t0), (0, am_R 0), (1, am_I b1), (2, am_I b2)]) C dX9_state_29 rfl (by decide) rfl ?_
  refine av_iload_n (pc := 30) (j := 3) C dX9_state_30 rfl rfl ?_
  have hdef7 : (hs : (some ((-1), S)) = some (x, S2)) → am_V p l e (am_rm 2 42) s m args below meth c (MQ below (am_Q G (some (am_I x)) S2) args s 0 0 (am_A G)) G (am_A G) s.heap 4 0 0 194 [(3, am_I t0), (0, am_R 0), (1, am_I b1), (2, am_I b2)] [] S := by
    intro hs
    refine av_iconst (pc := 194) C dX9_state_194 rfl ?_
    obtain ⟨rfl, rfl⟩ := am_inj2 hs
    exact av_iret C hr hlocks dX9_state_195
  by_cases hk0 : b2 = 0
  · rw [if_pos hk0] at hs
    refine av_swi (pc := 31) (k := 0) (tgt := 76) C dX9_state_31 (by rw [hk0]; rfl) (by decide) rfl (by decide) ?_
    refine av_aload_n (pc := 76) (j := 1) C dX9_state_76 rfl rfl ?_
    refine av_getR (pc := 77) (k := 0) (r := 1) C fl_X9_12 sk_0 rfl dX9_state_77 ?_
    refine av_iload_n (pc := 80) (j := 2) C dX9_state_80 rfl rfl ?_
    obtain ⟨x9, S8, hc10, hs⟩ := am_b2_of hs
    refine av_eq (st2 := [am_I b1, am_R 1]) rfl rfl rfl rfl (av_callV (pc := 81) (as := [am_I b1]) (rest := []) C (ct_X3_statusOf l G b1 S x9 S8 hc10) ym_X3_statusOf si_X9_178 im_X3_statusOf se_X3_statusOf sk_1 rfl ⟨Nat.le_of_ble_eq_true rfl, Nat.le_of_ble_eq_true rfl⟩ rfl rfl (Nat.le_of_ble_eq_true rfl) dX9_state_81 ⟨Nat.le_refl _, Nat.le_refl _⟩ (fun hrv => av_eq (st2 := [am_I x9]) rfl rfl rfl rfl ?_))
    obtain ⟨rfl, rfl⟩ := am_inj2 hs
    exact av_iret C hr hlocks dX9_state_84
  · rw [if_neg hk0] at hs
    by_cases hk1 : b2 = 1
    · rw [if_pos hk1] at hs
      refine av_swi (pc := 31) (k := 1) (tgt := 85) C dX9_state_31 (by rw [hk1]; rfl) (by decide) rfl (by decide) ?_
      refine av_iload_n (pc := 85) (j := 0) C dX9_state_85 rfl rfl ?_
      refine av_if_eq (pc := 86) (tgt := 93) C dX9_state_86 (by decide) (fun hc => ?_) (fun hc => ?_)
      · rw [if_pos hc] at hs
        refine av_aload_n (pc := 93) (j := 1) C dX9_state_93 rfl rfl ?_
        refine av_getR (pc := 94) (k := 0) (r := 1) C fl_X9_12 sk_0 rfl dX9_state_94 ?_
        refine av_iload_n (pc := 97) (j := 2) C dX9_state_97 rfl rfl ?_
        obtain ⟨x12, S11, hc13, hs⟩ := am_b2_of hs
        refine av_eq (st2 := [am_I b1, am_R 1]) rfl rfl rfl rfl (av_callV (pc := 98) (as := [am_I b1]) (rest := []) C (ct_X3_valueOf l G b1 S x12 S11 hc13) ym_X3_valueOf si_X9_181 im_X3_valueOf se_X3_valueOf sk_1 rfl ⟨Nat.le_of_ble_eq_true rfl, Nat.le_of_ble_eq_true rfl⟩ rfl rfl (Nat.le_of_ble_eq_true rfl) dX9_state_98 ⟨Nat.le_refl _, Nat.le_refl _⟩ (fun hrv => av_eq (st2 := [am_J x12]) rfl rfl rfl rfl ?_))
        obtain ⟨x15, S14, hc16, hs⟩ := am_b2_of hs
        refine av_eq (st2 := [am_J x12]) rfl rfl rfl rfl (av_callS (pc := 101) (as := [am_J x12]) (rest := []) C (ct_X8_sortOf l G x12 S11 x15 S14 hc16) ym_X8_sortOf si_X9_185 st_X8_sortOf ⟨Nat.le_of_ble_eq_true rfl, Nat.le_of_ble_eq_true rfl⟩ rfl rfl (Nat.le_of_ble_eq_true rfl) dX9_state_101 ⟨Nat.le_refl _, Nat.le_refl _⟩ (fun hrv => av_eq (st2 := [am_I x15]) rfl rfl rfl rfl ?_))
        obtain ⟨rfl, rfl⟩ := am_inj2 hs
        exact av_iret C hr hlocks dX9_state_104
      · rw [if_neg hc] at hs
        refine av_iconst (pc := 89) C dX9_state_89 rfl ?_
        refine av_goto (pc := 90) (tgt := 104) C dX9_state_90 (by decide) ?_
        obtain ⟨rfl, rfl⟩ := am_inj2 hs
        exact av_iret C hr hlocks dX9_state_104
    · rw [if_neg hk1] at hs
      by_cases hk2 : b2 = 2
      · rw [if_pos hk2] at hs
        refine av_swi (pc := 31) (k := 2) (tgt := 105) C dX9_state_31 (by rw [hk2]; rfl) (by decide) rfl (by decide) ?_
        refine av_iload_n (pc := 105) (j := 0) C dX9_state_105 rfl rfl ?_
        refine av_if_eq (pc := 106) (tgt := 113) C dX9_state_106 (by decide) (fun hc => ?_) (fun hc => ?_)
        · rw [if_pos hc] at hs
          refine av_aload_n (pc := 113) (j := 1) C dX9_state_113 rfl rfl ?_
          refine av_getR (pc := 114) (k := 0) (r := 1) C fl_X9_12 sk_0 rfl dX9_state_114 ?_
          refine av_iload_n (pc := 117) (j := 2) C dX9_state_117 rfl rfl ?_
          obtain ⟨x18, S17, hc19, hs⟩ := am_b2_of hs
          refine av_eq (st2 := [am_I b1, am_R 1]) rfl rfl rfl rfl (av_callV (pc := 118) (as := [am_I b1]) (rest := []) C (ct_X3_valueOf l G b1 S x18 S17 hc19) ym_X3_valueOf si_X9_181 im_X3_valueOf se_X3_valueOf sk_1 rfl ⟨Nat.le_of_ble_eq_true rfl, Nat.le_of_ble_eq_true rfl⟩ rfl rfl (Nat.le_of_ble_eq_true rfl) dX9_state_118 ⟨Nat.le_refl _, Nat.le_refl _⟩ (fun hrv => av_eq (st2 := [am_J x18]) rfl rfl rfl rfl ?_))
          obtain ⟨x21, S20, hc22, hs⟩ := am_b2_of hs
          refine av_eq (st2 := [am_J x18]) rfl rfl rfl rfl (av_callS (pc := 121) (as := [am_J x18]) (rest := []) C (ct_X8_numberOf l G x18 S17 x21 S20 hc22) ym_X8_numberOf si_X9_188 st_X8_numberOf ⟨Nat.le_of_ble_eq_true rfl, Nat.le_of_ble_eq_true rfl⟩ rfl rfl (Nat.le_of_ble_eq_true rfl) dX9_state_121 ⟨Nat.le_refl _, Nat.le_refl _⟩ (fun hrv => av_eq (st2 := [am_I x21]) rfl rfl rfl rfl ?_))
          obtain ⟨rfl, rfl⟩ := am_inj2 hs
          exact av_iret C hr hlocks dX9_state_124
        · rw [if_neg hc] at hs
          refine av_iconst (pc := 109) C dX9_state_109 rfl ?_
          refine av_goto (pc := 110) (tgt := 124) C dX9_state_110 (by decide) ?_
          obtain ⟨rfl, rfl⟩ := am_inj2 hs
          exact av_iret C hr hlocks dX9_state_124
      · rw [if_neg hk2] at hs
        by_cases hk3 : b2 = 3
        · rw [if_pos hk3] at hs
          refine av_swi (pc := 31) (k := 3) (tgt := 125) C dX9_state_31 (by rw [hk3]; rfl) (by decide) rfl (by decide) ?_
          refine av_aload_n (pc := 125) (j := 1) C dX9_state_125 rfl rfl ?_
          refine av_getR (pc := 126) (k := 0) (r := 1) C fl_X9_12 sk_0 rfl dX9_state_126 ?_
          refine av_iload_n (pc := 129) (j := 2) C dX9_state_129 rfl rfl ?_
          obtain ⟨x24, S23, hc25, hs⟩ := am_b2_of hs
          refine av_eq (st2 := [am_I b1, am_R 1]) rfl rfl rfl rfl (av_callV (pc := 130) (as := [am_I b1]) (rest := []) C (ct_X3_isLoose l G b1 S x24 S23 hc25) ym_X3_isLoose si_X9_191 im_X3_isLoose se_X3_isLoose sk_1 rfl ⟨Nat.le_of_ble_eq_true rfl, Nat.le_of_ble_eq_true rfl⟩ rfl rfl (Nat.le_of_ble_eq_true rfl) dX9_state_130 ⟨Nat.le_refl _, Nat.le_refl _⟩ (fun hrv => av_eq (st2 := [am_I x24]) rfl rfl rfl rfl ?_))
          refine av_if_eq (pc := 133) (tgt := 140) C dX9_state_133 (by decide) (fun hc => ?_) (fun hc => ?_)
          · rw [if_pos hc] at hs
            refine av_iconst (pc := 140) C dX9_state_140 rfl ?_
            obtain ⟨rfl, rfl⟩ := am_inj2 hs
            exact av_iret C hr hlocks dX9_state_141
          · rw [if_neg hc] at hs
            refine av_iconst (pc := 136) C dX9_state_136 rfl ?_
            refine av_goto (pc := 137) (tgt := 141) C dX9_state_137 (by decide) ?_
            obtain ⟨rfl, rfl⟩ := am_inj2 hs
            exact av_iret C hr hlocks dX9_state_141
        · rw [if_neg hk3] at hs
          by_cases hk4 : b2 = 4
          · rw [if_pos hk4] at hs
            refine av_swi (pc := 31) (k := 4) (tgt := 142) C dX9_state_31 (by rw [hk4]; rfl) (by decide) rfl (by decide) ?_
            refine av_aload_n (pc := 142) (j := 1) C dX9_state_142 rfl rfl ?_
            refine av_getR (pc := 143) (k := 0) (r := 1) C fl_X9_12 sk_0 rfl dX9_state_143 ?_
            refine av_iload_n (pc := 146) (j := 2) C dX9_state_146 rfl rfl ?_
            obtain ⟨x27, S26, hc28, hs⟩ := am_b2_of hs
            refine av_eq (st2 := [am_I b1, am_R 1]) rfl rfl rfl rfl (av_callV (pc := 147) (as := [am_I b1]) (rest := []) C (ct_X3_reactionsOf l G b1 S x27 S26 hc28) ym_X3_reactionsOf si_X9_194 im_X3_reactionsOf se_X3_reactionsOf sk_1 rfl ⟨Nat.le_of_ble_eq_true rfl, Nat.le_of_ble_eq_true rfl⟩ rfl rfl (Nat.le_of_ble_eq_true rfl) dX9_state_147 ⟨Nat.le_refl _, Nat.le_refl _⟩ (fun hrv => av_eq (st2 := [am_I x27]) rfl rfl rfl rfl ?_))
            obtain ⟨rfl, rfl⟩ := am_inj2 hs
            exact av_iret C hr hlocks dX9_state_150
          · rw [if_neg hk4] at hs
            by_cases hk5 : b2 = 5
            · rw [if_pos hk5] at hs
              refine av_swi (pc := 31) (k := 5) (tgt := 151) C dX9_state_31 (by rw [hk5]; rfl) (by decide) rfl (by decide) ?_
              refine av_aload_n (pc := 151) (j := 1) C dX9_state_151 rfl rfl ?_
              refine av_getR (pc := 152) (k := 0) (r := 1) C fl_X9_12 sk_0 rfl dX9_state_152 ?_
              refine av_iload_n (pc := 155) (j := 2) C dX9_state_155 rfl rfl ?_
              obtain ⟨x30, S29, hc31, hs⟩ := am_b2_of hs
              refine av_eq (st2 := [am_I b1, am_R 1]) rfl rfl rfl rfl (av_callV (pc := 156) (as := [am_I b1]) (rest := []) C (ct_X3_lastKeyOf l G b1 S x30 S29 hc31) ym_X3_lastKeyOf si_X9_197 im_X3_lastKeyOf se_X3_lastKeyOf sk_1 rfl ⟨Nat.le_of_ble_eq_true rfl, Nat.le_of_ble_eq_true rfl⟩ rfl rfl (Nat.le_of_ble_eq_true rfl) dX9_state_156 ⟨Nat.le_refl _, Nat.le_refl _⟩ (fun hrv => av_eq (st2 := [am_I x30]) rfl rfl rfl rfl ?_))
              obtain ⟨rfl, rfl⟩ := am_inj2 hs
              exact av_iret C hr hlocks dX9_state_159
            · rw [if_neg hk5] at hs
              by_cases hk6 : b2 = 6
              · rw [if_pos hk6] at hs
                refine av_swi (pc := 31) (k := 6) (tgt := 160) C dX9_state_31 (by rw [hk6]; rfl) (by decide) rfl (by decide) ?_
                refine av_aload_n (pc := 160) (j := 1) C dX9_state_160 rfl rfl ?_
                refine av_getR (pc := 161) (k := 0) (r := 1) C fl_X9_12 sk_0 rfl dX9_state_161 ?_
                refine av_iload_n (pc := 164) (j := 2) C dX9_state_164 rfl rfl ?_
                obtain ⟨x33, S32, hc34, hs⟩ := am_b2_of hs
                refine av_eq (st2 := [am_I b1, am_R 1]) rfl rfl rfl rfl (av_callV (pc := 165) (as := [am_I b1]) (rest := []) C (ct_X3_isKeyUsed l G b1 S x33 S32 hc34) ym_X3_isKeyUsed si_X9_200 im_X3_isKeyUsed se_X3_isKeyUsed sk_1 rfl ⟨Nat.le_of_ble_eq_true rfl, Nat.le_of_ble_eq_true rfl⟩ rfl rfl (Nat.le_of_ble_eq_true rfl) dX9_state_165 ⟨Nat.le_refl _, Nat.le_refl _⟩ (fun hrv => av_eq (st2 := [am_I x33]) rfl rfl rfl rfl ?_))
                refine av_if_eq (pc := 168) (tgt := 175) C dX9_state_168 (by decide) (fun hc => ?_) (fun hc => ?_)
                · rw [if_pos hc] at hs
                  refine av_iconst (pc := 175) C dX9_state_175 rfl ?_
                  obtain ⟨rfl, rfl⟩ := am_inj2 hs
                  exact av_iret C hr hlocks dX9_state_176
                · rw [if_neg hc] at hs
                  refine av_iconst (pc := 171) C dX9_state_171 rfl ?_
                  refine av_goto (pc := 172) (tgt := 176) C dX9_state_172 (by decide) ?_
                  obtain ⟨rfl, rfl⟩ := am_inj2 hs
                  exact av_iret C hr hlocks dX9_state_176
              · rw [if_neg hk6] at hs
                by_cases hk7 : b2 = 7
                · rw [if_pos hk7] at hs
                  refine av_swi (pc := 31) (k := 7) (tgt := 177) C dX9_state_31 (by rw [hk7]; rfl) (by decide) rfl (by decide) ?_
                  refine av_aload_n (pc := 177) (j := 1) C dX9_state_177 rfl rfl ?_
                  refine av_getR (pc := 178) (k := 6) (r := 7) C fl_X9_58 sk_0 rfl dX9_state_178 ?_
                  refine av_iload_n (pc := 181) (j := 2) C dX9_state_181 rfl rfl ?_
                  obtain ⟨x36, S35, hc37, hs⟩ := am_b2_of hs
                  refine av_eq (st2 := [am_I b1, am_R 7]) rfl rfl rfl rfl (av_callV (pc := 182) (as := [am_I b1]) (rest := []) C (ct_X5_isStopped l G b1 S x36 S35 hc37) ym_X5_isStopped si_X9_203 im_X5_isStopped se_X5_isStopped sk_7 rfl ⟨Nat.le_of_ble_eq_true rfl, Nat.le_of_ble_eq_true rfl⟩ rfl rfl (Nat.le_of_ble_eq_true rfl) dX9_state_182 ⟨Nat.le_refl _, Nat.le_refl _⟩ (fun hrv => av_eq (st2 := [am_I x36]) rfl rfl rfl rfl ?_))
                  refine av_if_eq (pc := 185) (tgt := 192) C dX9_state_185 (by decide) (fun hc => ?_) (fun hc => ?_)
                  · rw [if_pos hc] at hs
                    refine av_iconst (pc := 192) C dX9_state_192 rfl ?_
                    obtain ⟨rfl, rfl⟩ := am_inj2 hs
                    exact av_iret C hr hlocks dX9_state_193
                  · rw [if_neg hc] at hs
                    refine av_iconst (pc := 188) C dX9_state_188 rfl ?_
                    refine av_goto (pc := 189) (tgt := 193) C dX9_state_189 (by decide) ?_
                    obtain ⟨rfl, rfl⟩ := am_inj2 hs
                    exact av_iret C hr hlocks dX9_state_193
                · rw [if_neg hk7] at hs
                  refine av_swo (pc := 31) (tgt := 194) C dX9_state_31 (by omega) (by decide) ?_
                  exact hdef7 hs
def sf_X9_state (a1 : Int) (a2 : Int) (S : am_S) : Option (Int × am_S) := (am_b2 (sf_X3_has a1 S) (fun x2 S1 => (if x2 = 0 then (some ((-1), S1)) else (am_b2 (sf_X3_statusOf a1 S1) (fun x5 S4 => (if x5 = 0 then (sf_X9_state_29 a1 a2 1 S4) else (sf_X9_state_29 a1 a2 0 S4)))))))
set_option maxHeartbeats 4000000 in
set_option maxRecDepth 100000 in
theorem ct_X9_state (l : Launch) (G : am_G) (a1 : Int) (a2 : Int) (S : am_S) (x : Int) (S2 : am_S) (hs : sf_X9_state a1 a2 S = some (x, S2)) : am_met l yX9_state cX9_state 4 (some .int) 2 42 G [am_R 0, am_I a1, am_I a2] S (some (am_I x)) S2 := by
  refine am_enter ym_X9_state (Nat.le_of_ble_eq_true rfl) ?_
  intro p e s m args below meth c C hr hlocks
  refine av_eq (lv2 := [(0, am_R 0), (1, am_I a1), (2, am_I a2)]) rfl rfl rfl rfl ?_
  unfold sf_X9_state at hs
  refine av_aload_n (pc := 0) (j := 0) C dX9_state_0 rfl rfl ?_
  refine av_getR (pc := 1) (k := 0) (r := 1) C fl_X9_12 sk_0 rfl dX9_state_1 ?_
  refine av_iload_n (pc := 4) (j := 1) C dX9_state_4 rfl rfl ?_
  obtain ⟨x2, S1, hc3, hs⟩ := am_b2_of hs
  refine av_eq (st2 := [am_I a1, am_R 1]) rfl rfl rfl rfl (av_callV (pc := 5) (as := [am_I a1]) (rest := []) C (ct_X3_has l G a1 S x2 S1 hc3) ym_X3_has si_X9_74 im_X3_has se_X3_has sk_1 rfl ⟨Nat.le_of_ble_eq_true rfl, Nat.le_of_ble_eq_true rfl⟩ rfl rfl (Nat.le_of_ble_eq_true rfl) dX9_state_5 ⟨Nat.le_refl _, Nat.le_refl _⟩ (fun hrv => av_eq (st2 := [am_I x2]) rfl rfl rfl rfl ?_))
  refine av_if_ne (pc := 8) (tgt := 13) C dX9_state_8 (by decide) (fun hc => ?_) (fun hc => ?_)
  · rw [if_neg hc] at hs
    refine av_aload_n (pc := 13) (j := 0) C dX9_state_13 rfl rfl ?_
    refine av_getR (pc := 14) (k := 0) (r := 1) C fl_X9_12 sk_0 rfl dX9_state_14 ?_
    refine av_iload_n (pc := 17) (j := 1) C dX9_state_17 rfl rfl ?_
    obtain ⟨x5, S4, hc6, hs⟩ := am_b2_of hs
    refine av_eq (st2 := [am_I a1, am_R 1]) rfl rfl rfl rfl (av_callV (pc := 18) (as := [am_I a1]) (rest := []) C (ct_X3_statusOf l G a1 S1 x5 S4 hc6) ym_X3_statusOf si_X9_178 im_X3_statusOf se_X3_statusOf sk_1 rfl ⟨Nat.le_of_ble_eq_true rfl, Nat.le_of_ble_eq_true rfl⟩ rfl rfl (Nat.le_of_ble_eq_true rfl) dX9_state_18 ⟨Nat.le_refl _, Nat.le_refl _⟩ (fun hrv => av_eq (st2 := [am_I x5]) rfl rfl rfl rfl ?_))
    refine av_if_ne (pc := 21) (tgt := 28) C dX9_state_21 (by decide) (fun hc => ?_) (fun hc => ?_)
    · rw [if_neg hc] at hs
      refine av_iconst (pc := 28) C dX9_state_28 rfl ?_
      exact wk_X9_state_29 C hr hlocks a1 a2 0 S4 x S2 hs
    · rw [if_pos (Decidable.not_not.mp hc)] at hs
      refine av_iconst (pc := 24) C dX9_state_24 rfl ?_
      refine av_goto (pc := 25) (tgt := 29) C dX9_state_25 (by decide) ?_
      exact wk_X9_state_29 C hr hlocks a1 a2 1 S4 x S2 hs
  · rw [if_pos (Decidable.not_not.mp hc)] at hs
    refine av_iconst (pc := 11) C dX9_state_11 rfl ?_
    obtain ⟨rfl, rfl⟩ := am_inj2 hs
    exact av_iret C hr hlocks dX9_state_12
def sf_X9_noted (a1 : Int) (a2 : Int) (S : am_S) : Option (Int × am_S) := (am_b2 (sf_X2_kept  S) (fun x2 S1 => (am_b2 (sf_X9_isWithin a1 x2 S1) (fun x5 S4 => (if x5 = 0 then (some (1099511627776, S4)) else (if a2 = 0 then (am_b2 (sf_X2_valueOf a1 S4) (fun x9 S8 => (am_b2 (sf_X8_numberOf x9 S8) (fun x12 S11 => (some (x12, S11)))))) else (if a2 = 1 then (am_b2 (sf_X2_valueOf a1 S4) (fun x15 S14 => (am_b2 (sf_X8_sortOf x15 S14) (fun x18 S17 => (some (x18, S17)))))) else (if a2 = 2 then (am_b2 (sf_X2_turnOf a1 S4) (fun x21 S20 => (some (x21, S20)))) else (some (1099511627776, S4))))))))))
set_option maxHeartbeats 4000000 in
set_option maxRecDepth 100000 in
theorem ct_X9_noted (l : Launch) (G : am_G) (a1 : Int) (a2 : Int) (S : am_S) (x : Int) (S2 : am_S) (hs : sf_X9_noted a1 a2 S = some (x, S2)) : am_met l yX9_noted cX9_noted 3 (some .long) 2 42 G [am_R 0, am_I a1, am_I a2] S (some (am_J x)) S2 := by
  refine am_enter ym_X9_noted (Nat.le_of_ble_eq_true rfl) ?_
  intro p e s m args below meth c C hr hlocks
  refine av_eq (lv2 := [(0, am_R 0), (1, am_I a1), (2, am_I a2)]) rfl rfl rfl rfl ?_
  unfold sf_X9_noted at hs
  refine av_iload_n (pc := 0) (j := 1) C dX9_noted_0 rfl rfl ?_
  refine av_aload_n (pc := 1) (j := 0) C dX9_noted_1 rfl rfl ?_
  refine av_getR (pc := 2) (k := 4) (r := 5) C fl_X9_40 sk_0 rfl dX9_noted_2 ?_
  obtain ⟨x2, S1, hc3, hs⟩ := am_b2_of hs
  refine av_eq (st2 := [am_R 5, am_I a1]) rfl rfl rfl rfl (av_callV (pc := 5) (as := []) (rest := [am_I a1]) C (ct_X2_kept l G  S x2 S1 hc3) ym_X2_kept si_X9_206 im_X2_kept se_X2_kept sk_5 rfl ⟨Nat.le_of_ble_eq_true rfl, Nat.le_of_ble_eq_true rfl⟩ rfl rfl (Nat.le_of_ble_eq_true rfl) dX9_noted_5 ⟨Nat.le_refl _, Nat.le_refl _⟩ (fun hrv => av_eq (st2 := [am_I x2, am_I a1]) rfl rfl rfl rfl ?_))
  obtain ⟨x5, S4, hc6, hs⟩ := am_b2_of hs
  refine av_eq (st2 := [am_I x2, am_I a1]) rfl rfl rfl rfl (av_callS (pc := 8) (as := [am_I a1, am_I x2]) (rest := []) C (ct_X9_isWithin l G a1 x2 S1 x5 S4 hc6) ym_X9_isWithin si_X9_99 st_X9_isWithin ⟨Nat.le_of_ble_eq_true rfl, Nat.le_of_ble_eq_true rfl⟩ rfl rfl (Nat.le_of_ble_eq_true rfl) dX9_noted_8 ⟨Nat.le_refl _, Nat.le_refl _⟩ (fun hrv => av_eq (st2 := [am_I x5]) rfl rfl rfl rfl ?_))
  refine av_if_ne (pc := 11) (tgt := 18) C dX9_noted_11 (by decide) (fun hc => ?_) (fun hc => ?_)
  · rw [if_neg hc] at hs
    refine av_iload_n (pc := 18) (j := 2) C dX9_noted_18 rfl rfl ?_
    have hdef7 : (hs : (some (1099511627776, S4)) = some (x, S2)) → am_V p l e (am_rm 2 42) s m args below meth c (MQ below (am_Q G (some (am_J x)) S2) args s 0 0 (am_A G)) G (am_A G) s.heap 3 0 0 80 [(0, am_R 0), (1, am_I a1), (2, am_I a2)] [] S4 := by
      intro hs
      refine av_ldc2 (pc := 80) C co_X9_209 (by unfold am_r64; omega) dX9_noted_80 ?_
      obtain ⟨rfl, rfl⟩ := am_inj2 hs
      exact av_lret C hr hlocks dX9_noted_83
    by_cases hk0 : a2 = 0
    · rw [if_pos hk0] at hs
      refine av_swi (pc := 19) (k := 0) (tgt := 44) C dX9_noted_19 (by rw [hk0]; rfl) (by decide) rfl (by decide) ?_
      refine av_aload_n (pc := 44) (j := 0) C dX9_noted_44 rfl rfl ?_
      refine av_getR (pc := 45) (k := 4) (r := 5) C fl_X9_40 sk_0 rfl dX9_noted_45 ?_
      refine av_iload_n (pc := 48) (j := 1) C dX9_noted_48 rfl rfl ?_
      obtain ⟨x9, S8, hc10, hs⟩ := am_b2_of hs
      refine av_eq (st2 := [am_I a1, am_R 5]) rfl rfl rfl rfl (av_callV (pc := 49) (as := [am_I a1]) (rest := []) C (ct_X2_valueOf l G a1 S4 x9 S8 hc10) ym_X2_valueOf si_X9_211 im_X2_valueOf se_X2_valueOf sk_5 rfl ⟨Nat.le_of_ble_eq_true rfl, Nat.le_of_ble_eq_true rfl⟩ rfl rfl (Nat.le_of_ble_eq_true rfl) dX9_noted_49 ⟨Nat.le_refl _, Nat.le_refl _⟩ (fun hrv => av_eq (st2 := [am_J x9]) rfl rfl rfl rfl ?_))
      obtain ⟨x12, S11, hc13, hs⟩ := am_b2_of hs
      refine av_eq (st2 := [am_J x9]) rfl rfl rfl rfl (av_callS (pc := 52) (as := [am_J x9]) (rest := []) C (ct_X8_numberOf l G x9 S8 x12 S11 hc13) ym_X8_numberOf si_X9_188 st_X8_numberOf ⟨Nat.le_of_ble_eq_true rfl, Nat.le_of_ble_eq_true rfl⟩ rfl rfl (Nat.le_of_ble_eq_true rfl) dX9_noted_52 ⟨Nat.le_refl _, Nat.le_refl _⟩ (fun hrv => av_eq (st2 := [am_I x12]) rfl rfl rfl rfl ?_))
      refine av_i2l (pc := 55) C dX9_noted_55 ?_
      obtain ⟨rfl, rfl⟩ := am_inj2 hs
      exact av_lret C hr hlocks dX9_noted_56
    · rw [if_neg hk0] at hs
      by_cases hk1 : a2 = 1
      · rw [if_pos hk1] at hs
        refine av_swi (pc := 19) (k := 1) (tgt := 57) C dX9_noted_19 (by rw [hk1]; rfl) (by decide) rfl (by decide) ?_
        refine av_aload_n (pc := 57) (j := 0) C dX9_noted_57 rfl rfl ?_
        refine av_getR (pc := 58) (k := 4) (r := 5) C fl_X9_40 sk_0 rfl dX9_noted_58 ?_
        refine av_iload_n (pc := 61) (j := 1) C dX9_noted_61 rfl rfl ?_
        obtain ⟨x15, S14, hc16, hs⟩ := am_b2_of hs
        refine av_eq (st2 := [am_I a1, am_R 5]) rfl rfl rfl rfl (av_callV (pc := 62) (as := [am_I a1]) (rest := []) C (ct_X2_valueOf l G a1 S4 x15 S14 hc16) ym_X2_valueOf si_X9_211 im_X2_valueOf se_X2_valueOf sk_5 rfl ⟨Nat.le_of_ble_eq_true rfl, Nat.le_of_ble_eq_true rfl⟩ rfl rfl (Nat.le_of_ble_eq_true rfl) dX9_noted_62 ⟨Nat.le_refl _, Nat.le_refl _⟩ (fun hrv => av_eq (st2 := [am_J x15]) rfl rfl rfl rfl ?_))
        obtain ⟨x18, S17, hc19, hs⟩ := am_b2_of hs
        refine av_eq (st2 := [am_J x15]) rfl rfl rfl rfl (av_callS (pc := 65) (as := [am_J x15]) (rest := []) C (ct_X8_sortOf l G x15 S14 x18 S17 hc19) ym_X8_sortOf si_X9_185 st_X8_sortOf ⟨Nat.le_of_ble_eq_true rfl, Nat.le_of_ble_eq_true rfl⟩ rfl rfl (Nat.le_of_ble_eq_true rfl) dX9_noted_65 ⟨Nat.le_refl _, Nat.le_refl _⟩ (fun hrv => av_eq (st2 := [am_I x18]) rfl rfl rfl rfl ?_))
        refine av_i2l (pc := 68) C dX9_noted_68 ?_
        obtain ⟨rfl, rfl⟩ := am_inj2 hs
        exact av_lret C hr hlocks dX9_noted_69
      · rw [if_neg hk1] at hs
        by_cases hk2 : a2 = 2
        · rw [if_pos hk2] at hs
          refine av_swi (pc := 19) (k := 2) (tgt := 70) C dX9_noted_19 (by rw [hk2]; rfl) (by decide) rfl (by decide) ?_
          refine av_aload_n (pc := 70) (j := 0) C dX9_noted_70 rfl rfl ?_
          refine av_getR (pc := 71) (k := 4) (r := 5) C fl_X9_40 sk_0 rfl dX9_noted_71 ?_
          refine av_iload_n (pc := 74) (j := 1) C dX9_noted_74 rfl rfl ?_
          obtain ⟨x21, S20, hc22, hs⟩ := am_b2_of hs
          refine av_eq (st2 := [am_I a1, am_R 5]) rfl rfl rfl rfl (av_callV (pc := 75) (as := [am_I a1]) (rest := []) C (ct_X2_turnOf l G a1 S4 x21 S20 hc22) ym_X2_turnOf si_X9_212 im_X2_turnOf se_X2_turnOf sk_5 rfl ⟨Nat.le_of_ble_eq_true rfl, Nat.le_of_ble_eq_true rfl⟩ rfl rfl (Nat.le_of_ble_eq_true rfl) dX9_noted_75 ⟨Nat.le_refl _, Nat.le_refl _⟩ (fun hrv => av_eq (st2 := [am_I x21]) rfl rfl rfl rfl ?_))
          refine av_i2l (pc := 78) C dX9_noted_78 ?_
          obtain ⟨rfl, rfl⟩ := am_inj2 hs
          exact av_lret C hr hlocks dX9_noted_79
        · rw [if_neg hk2] at hs
          refine av_swo (pc := 19) (tgt := 80) C dX9_noted_19 (by omega) (by decide) ?_
          exact hdef7 hs
  · rw [if_pos (Decidable.not_not.mp hc)] at hs
    refine av_ldc2 (pc := 14) C co_X9_209 (by unfold am_r64; omega) dX9_noted_14 ?_
    obtain ⟨rfl, rfl⟩ := am_inj2 hs
    exact av_lret C hr hlocks dX9_noted_17
def sf_X9_count (a1 : Int) (S : am_S) : Option (Int × am_S) := (if a1 = 0 then (am_b2 (sf_X3_made  S) (fun x3 S2 => (some (x3, S2)))) else (if a1 = 1 then (am_b2 (sf_X3_jobs  S) (fun x6 S5 => (some (x6, S5)))) else (if a1 = 2 then (am_b2 (sf_X2_turns  S) (fun x9 S8 => (some (x9, S8)))) else (if a1 = 3 then (am_b2 (sf_X6_size  S) (fun x12 S11 => (some (x12, S11)))) else (if a1 = 4 then (am_b2 (sf_X6_time  S) (fun x15 S14 => (some (x15, S14)))) else (if a1 = 5 then (am_b2 (sf_X2_total  S) (fun x18 S17 => (some (x18, S17)))) else (if a1 = 6 then (am_b2 (sf_X3_loose  S) (fun x21 S20 => (some (x21, S20)))) else (if a1 = 7 then (am_b2 (sf_X1_items  S) (fun x24 S23 => (some (x24, S23)))) else (some ((-1), S))))))))))
set_option maxHeartbeats 4000000 in
set_option maxRecDepth 100000 in
theorem ct_X9_count (l : Launch) (G : am_G) (a1 : Int) (S : am_S) (x : Int) (S2 : am_S) (hs : sf_X9_count a1 S = some (x, S2)) : am_met l yX9_count cX9_count 2 (some .int) 3 64 G [am_R 0, am_I a1] S (some (am_I x)) S2 := by
  refine am_enter ym_X9_count (Nat.le_of_ble_eq_true rfl) ?_
  intro p e s m args below meth c C hr hlocks
  refine av_eq (lv2 := [(0, am_R 0), (1, am_I a1)]) rfl rfl rfl rfl ?_
  unfold sf_X9_count at hs
  refine av_iload_n (pc := 0) (j := 1) C dX9_count_0 rfl rfl ?_
  have hdef1 : (hs : (some ((-1), S)) = some (x, S2)) → am_V p l e (am_rm 3 64) s m args below meth c (MQ below (am_Q G (some (am_I x)) S2) args s 0 0 (am_A G)) G (am_A G) s.heap 2 0 0 112 [(0, am_R 0), (1, am_I a1)] [] S := by
    intro hs
    refine av_iconst (pc := 112) C dX9_count_112 rfl ?_
    obtain ⟨rfl, rfl⟩ := am_inj2 hs
    exact av_iret C hr hlocks dX9_count_113
  by_cases hk0 : a1 = 0
  · rw [if_pos hk0] at hs
    refine av_swi (pc := 1) (k := 0) (tgt := 48) C dX9_count_1 (by rw [hk0]; rfl) (by decide) rfl (by decide) ?_
    refine av_aload_n (pc := 48) (j := 0) C dX9_count_48 rfl rfl ?_
    refine av_getR (pc := 49) (k := 0) (r := 1) C fl_X9_12 sk_0 rfl dX9_count_49 ?_
    obtain ⟨x3, S2, hc4, hs⟩ := am_b2_of hs
    refine av_eq (st2 := [am_R 1]) rfl rfl rfl rfl (av_callV (pc := 52) (as := []) (rest := []) C (ct_X3_made l G  S x3 S2 hc4) ym_X3_made si_X9_167 im_X3_made se_X3_made sk_1 rfl ⟨Nat.le_of_ble_eq_true rfl, Nat.le_of_ble_eq_true rfl⟩ rfl rfl (Nat.le_of_ble_eq_true rfl) dX9_count_52 ⟨Nat.le_refl _, Nat.le_refl _⟩ (fun hrv => av_eq (st2 := [am_I x3]) rfl rfl rfl rfl ?_))
    obtain ⟨rfl, rfl⟩ := am_inj2 hs
    exact av_iret C hr hlocks dX9_count_55
  · rw [if_neg hk0] at hs
    by_cases hk1 : a1 = 1
    · rw [if_pos hk1] at hs
      refine av_swi (pc := 1) (k := 1) (tgt := 56) C dX9_count_1 (by rw [hk1]; rfl) (by decide) rfl (by decide) ?_
      refine av_aload_n (pc := 56) (j := 0) C dX9_count_56 rfl rfl ?_
      refine av_getR (pc := 57) (k := 0) (r := 1) C fl_X9_12 sk_0 rfl dX9_count_57 ?_
      obtain ⟨x6, S5, hc7, hs⟩ := am_b2_of hs
      refine av_eq (st2 := [am_R 1]) rfl rfl rfl rfl (av_callV (pc := 60) (as := []) (rest := []) C (ct_X3_jobs l G  S x6 S5 hc7) ym_X3_jobs si_X9_145 im_X3_jobs se_X3_jobs sk_1 rfl ⟨Nat.le_of_ble_eq_true rfl, Nat.le_of_ble_eq_true rfl⟩ rfl rfl (Nat.le_of_ble_eq_true rfl) dX9_count_60 ⟨Nat.le_refl _, Nat.le_refl _⟩ (fun hrv => av_eq (st2 := [am_I x6]) rfl rfl rfl rfl ?_))
      obtain ⟨rfl, rfl⟩ := am_inj2 hs
      exact av_iret C hr hlocks dX9_count_63
    · rw [if_neg hk1] at hs
      by_cases hk2 : a1 = 2
      · rw [if_pos hk2] at hs
        refine av_swi (pc := 1) (k := 2) (tgt := 64) C dX9_count_1 (by rw [hk2]; rfl) (by decide) rfl (by decide) ?_
        refine av_aload_n (pc := 64) (j := 0) C dX9_count_64 rfl rfl ?_
        refine av_getR (pc := 65) (k := 4) (r := 5) C fl_X9_40 sk_0 rfl dX9_count_65 ?_
        obtain ⟨x9, S8, hc10, hs⟩ := am_b2_of hs
        refine av_eq (st2 := [am_R 5]) rfl rfl rfl rfl (av_callV (pc := 68) (as := []) (rest := []) C (ct_X2_turns l G  S x9 S8 hc10) ym_X2_turns si_X9_215 im_X2_turns se_X2_turns sk_5 rfl ⟨Nat.le_of_ble_eq_true rfl, Nat.le_of_ble_eq_true rfl⟩ rfl rfl (Nat.le_of_ble_eq_true rfl) dX9_count_68 ⟨Nat.le_refl _, Nat.le_refl _⟩ (fun hrv => av_eq (st2 := [am_I x9]) rfl rfl rfl rfl ?_))
        obtain ⟨rfl, rfl⟩ := am_inj2 hs
        exact av_iret C hr hlocks dX9_count_71
      · rw [if_neg hk2] at hs
        by_cases hk3 : a1 = 3
        · rw [if_pos hk3] at hs
          refine av_swi (pc := 1) (k := 3) (tgt := 72) C dX9_count_1 (by rw [hk3]; rfl) (by decide) rfl (by decide) ?_
          refine av_aload_n (pc := 72) (j := 0) C dX9_count_72 rfl rfl ?_
          refine av_getR (pc := 73) (k := 3) (r := 4) C fl_X9_33 sk_0 rfl dX9_count_73 ?_
          obtain ⟨x12, S11, hc13, hs⟩ := am_b2_of hs
          refine av_eq (st2 := [am_R 4]) rfl rfl rfl rfl (av_callV (pc := 76) (as := []) (rest := []) C (ct_X6_size l G  S x12 S11 hc13) ym_X6_size si_X9_148 im_X6_size se_X6_size sk_4 rfl ⟨Nat.le_of_ble_eq_true rfl, Nat.le_of_ble_eq_true rfl⟩ rfl rfl (Nat.le_of_ble_eq_true rfl) dX9_count_76 ⟨Nat.le_refl _, Nat.le_refl _⟩ (fun hrv => av_eq (st2 := [am_I x12]) rfl rfl rfl rfl ?_))
          obtain ⟨rfl, rfl⟩ := am_inj2 hs
          exact av_iret C hr hlocks dX9_count_79
        · rw [if_neg hk3] at hs
          by_cases hk4 : a1 = 4
          · rw [if_pos hk4] at hs
            refine av_swi (pc := 1) (k := 4) (tgt := 80) C dX9_count_1 (by rw [hk4]; rfl) (by decide) rfl (by decide) ?_
            refine av_aload_n (pc := 80) (j := 0) C dX9_count_80 rfl rfl ?_
            refine av_getR (pc := 81) (k := 3) (r := 4) C fl_X9_33 sk_0 rfl dX9_count_81 ?_
            obtain ⟨x15, S14, hc16, hs⟩ := am_b2_of hs
            refine av_eq (st2 := [am_R 4]) rfl rfl rfl rfl (av_callV (pc := 84) (as := []) (rest := []) C (ct_X6_time l G  S x15 S14 hc16) ym_X6_time si_X9_218 im_X6_time se_X6_time sk_4 rfl ⟨Nat.le_of_ble_eq_true rfl, Nat.le_of_ble_eq_true rfl⟩ rfl rfl (Nat.le_of_ble_eq_true rfl) dX9_count_84 ⟨Nat.le_refl _, Nat.le_refl _⟩ (fun hrv => av_eq (st2 := [am_I x15]) rfl rfl rfl rfl ?_))
            obtain ⟨rfl, rfl⟩ := am_inj2 hs
            exact av_iret C hr hlocks dX9_count_87
          · rw [if_neg hk4] at hs
            by_cases hk5 : a1 = 5
            · rw [if_pos hk5] at hs
              refine av_swi (pc := 1) (k := 5) (tgt := 88) C dX9_count_1 (by rw [hk5]; rfl) (by decide) rfl (by decide) ?_
              refine av_aload_n (pc := 88) (j := 0) C dX9_count_88 rfl rfl ?_
              refine av_getR (pc := 89) (k := 4) (r := 5) C fl_X9_40 sk_0 rfl dX9_count_89 ?_
              obtain ⟨x18, S17, hc19, hs⟩ := am_b2_of hs
              refine av_eq (st2 := [am_R 5]) rfl rfl rfl rfl (av_callV (pc := 92) (as := []) (rest := []) C (ct_X2_total l G  S x18 S17 hc19) ym_X2_total si_X9_221 im_X2_total se_X2_total sk_5 rfl ⟨Nat.le_of_ble_eq_true rfl, Nat.le_of_ble_eq_true rfl⟩ rfl rfl (Nat.le_of_ble_eq_true rfl) dX9_count_92 ⟨Nat.le_refl _, Nat.le_refl _⟩ (fun hrv => av_eq (st2 := [am_I x18]) rfl rfl rfl rfl ?_))
              obtain ⟨rfl, rfl⟩ := am_inj2 hs
              exact av_iret C hr hlocks dX9_count_95
            · rw [if_neg hk5] at hs
              by_cases hk6 : a1 = 6
              · rw [if_pos hk6] at hs
                refine av_swi (pc := 1) (k := 6) (tgt := 96) C dX9_count_1 (by rw [hk6]; rfl) (by decide) rfl (by decide) ?_
                refine av_aload_n (pc := 96) (j := 0) C dX9_count_96 rfl rfl ?_
                refine av_getR (pc := 97) (k := 0) (r := 1) C fl_X9_12 sk_0 rfl dX9_count_97 ?_
                obtain ⟨x21, S20, hc22, hs⟩ := am_b2_of hs
                refine av_eq (st2 := [am_R 1]) rfl rfl rfl rfl (av_callV (pc := 100) (as := []) (rest := []) C (ct_X3_loose l G  S x21 S20 hc22) ym_X3_loose si_X9_224 im_X3_loose se_X3_loose sk_1 rfl ⟨Nat.le_of_ble_eq_true rfl, Nat.le_of_ble_eq_true rfl⟩ rfl rfl (Nat.le_of_ble_eq_true rfl) dX9_count_100 ⟨Nat.le_refl _, Nat.le_refl _⟩ (fun hrv => av_eq (st2 := [am_I x21]) rfl rfl rfl rfl ?_))
                obtain ⟨rfl, rfl⟩ := am_inj2 hs
                exact av_iret C hr hlocks dX9_count_103
              · rw [if_neg hk6] at hs
                by_cases hk7 : a1 = 7
                · rw [if_pos hk7] at hs
                  refine av_swi (pc := 1) (k := 7) (tgt := 104) C dX9_count_1 (by rw [hk7]; rfl) (by decide) rfl (by decide) ?_
                  refine av_aload_n (pc := 104) (j := 0) C dX9_count_104 rfl rfl ?_
                  refine av_getR (pc := 105) (k := 5) (r := 6) C fl_X9_49 sk_0 rfl dX9_count_105 ?_
                  obtain ⟨x24, S23, hc25, hs⟩ := am_b2_of hs
                  refine av_eq (st2 := [am_R 6]) rfl rfl rfl rfl (av_callV (pc := 108) (as := []) (rest := []) C (ct_X1_items l G  S x24 S23 hc25) ym_X1_items si_X9_227 im_X1_items se_X1_items sk_6 rfl ⟨Nat.le_of_ble_eq_true rfl, Nat.le_of_ble_eq_true rfl⟩ rfl rfl (Nat.le_of_ble_eq_true rfl) dX9_count_108 ⟨Nat.le_refl _, Nat.le_refl _⟩ (fun hrv => av_eq (st2 := [am_I x24]) rfl rfl rfl rfl ?_))
                  obtain ⟨rfl, rfl⟩ := am_inj2 hs
                  exact av_iret C hr hlocks dX9_count_111
                · rw [if_neg hk7] at hs
                  refine av_swo (pc := 1) (tgt := 112) C dX9_count_1 (by omega) (by decide) ?_
                  exact hdef1 hs
