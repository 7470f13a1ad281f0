set_option maxHeartbeats 20000000 in
set_option maxRecDepth 100000 in
theorem wk_X5_goOn_7 {p : Program} {l : Launch} {e : Env} {s : State} {m : MethodId} {args : Array Value} {below : List Frame} {meth : Method} {c : Code} {G : am_G} (C : am_C p s m args c cX5_goOn 5 RX5 G) (hr : meth.sig.returnType = none) (hlocks : meth.locks = false) : ∀ (fu : Nat) (b1 : Int) (S : am_S) (SZ : am_S), sf_X5_goOn_7 fu b1 S = some SZ → am_V p l e (am_rm 5 122) s m args below meth c (MQ below (am_Q G none SZ) args s 0 0 (am_A G)) G (am_A G) s.heap 5 0 0 7 [(0, am_R 7), (1, am_I b1)] [] S := by
  intro fu
  induction fu with
  | zero => intro b1 S SZ hs; cases hs
  | succ fu ih =>
    intro b1 S SZ hs
    unfold sf_X5_goOn_7 at hs
    refine av_iload_n (pc := 7) (j := 1) C dX5_goOn_7 rfl rfl ?_
    refine av_ldc (pc := 8) C co_X5_111 rfl dX5_goOn_8 ?_
    refine av_icmp_ge (pc := 10) (tgt := 130) C dX5_goOn_10 (by decide) (fun hc => ?_) (fun hc => ?_)
    · rw [if_pos hc] at hs
      obtain rfl := am_inj1 hs
      exact av_vret C hr hlocks dX5_goOn_130
    · rw [if_neg hc] at hs
      refine av_aload_n (pc := 13) (j := 0) C dX5_goOn_13 rfl rfl ?_
      refine av_getI (pc := 14) (k := 11) (n := 459) C fl_X5_38 sk_7 rfl rfl dX5_goOn_14 ?_
      refine av_iconst (pc := 17) C dX5_goOn_17 rfl ?_
      refine av_icmp_eq (pc := 18) (tgt := 130) C dX5_goOn_18 (by decide) (fun hc => ?_) (fun hc => ?_)
      · rw [if_pos hc] at hs
        obtain rfl := am_inj1 hs
        exact av_vret C hr hlocks dX5_goOn_130
      · rw [if_neg hc] at hs
        refine av_aload_n (pc := 21) (j := 0) C dX5_goOn_21 rfl rfl ?_
        refine av_getI (pc := 22) (k := 11) (n := 459) C fl_X5_38 sk_7 rfl rfl dX5_goOn_22 ?_
        refine av_istore_n (pc := 25) (i := 2) (lv2 := [(2, am_I (S.1 459)), (0, am_R 7), (1, am_I b1)]) C dX5_goOn_25 rfl (by decide) rfl ?_
        refine av_aload_n (pc := 26) (j := 1) C dX5_goOn_26 rfl rfl ?_
        refine av_getR (pc := 27) (k := 5) (r := 35) C fl_X5_20 sk_7 rfl dX5_goOn_27 ?_
        refine av_iload_n (pc := 30) (j := 0) C dX5_goOn_30 rfl rfl ?_
        obtain ⟨x3, S2, hc4, hs⟩ := am_b2_of hs
        refine av_eq (st2 := [am_I (S.1 459), am_R 35]) rfl rfl rfl rfl (av_callV (pc := 31) (as := [am_I (S.1 459)]) (rest := []) C (ct_X4_at l G 35 68 101 sk_35 sk_68 rfl (S.1 459) S x3 S2 hc4) ym_X4_at si_X5_68 im_X4_at se_X4_at sk_35 rfl ⟨Nat.le_of_ble_eq_true rfl, Nat.le_of_ble_eq_true rfl⟩ rfl rfl (Nat.le_of_ble_eq_true rfl) dX5_goOn_31 ⟨Nat.le_refl _, Nat.le_refl _⟩ (fun hrv => av_eq (st2 := [am_I x3]) rfl rfl rfl rfl ?_))
        refine av_istore_n (pc := 34) (i := 3) (lv2 := [(3, am_I x3), (2, am_I (S.1 459)), (0, am_R 7), (1, am_I b1)]) C dX5_goOn_34 rfl (by decide) rfl ?_
        refine av_aload_n (pc := 35) (j := 2) C dX5_goOn_35 rfl rfl ?_
        refine av_getR (pc := 36) (k := 5) (r := 35) C fl_X5_20 sk_7 rfl dX5_goOn_36 ?_
        refine av_iload_n (pc := 39) (j := 1) C dX5_goOn_39 rfl rfl ?_
        refine av_iload_n (pc := 40) (j := 0) C dX5_goOn_40 rfl rfl ?_
        refine av_iconst (pc := 41) C dX5_goOn_41 rfl ?_
        refine av_iadd (pc := 42) C dX5_goOn_42 ?_
        refine av_i2l (pc := 43) C dX5_goOn_43 ?_
        obtain ⟨S5, hc6, hs⟩ := am_b1_of hs
        refine av_eq (st2 := [am_J (am_w32 (x3 + 1)), am_I (S.1 459), am_R 35]) rfl rfl rfl rfl (av_callV (pc := 44) (as := [am_I (S.1 459), am_J (am_w32 (x3 + 1))]) (rest := []) C (ct_X4_put l G 35 68 101 sk_35 sk_68 rfl (S.1 459) (am_w32 (x3 + 1)) S2 S5 hc6) ym_X4_put si_X5_78 im_X4_put se_X4_put sk_35 rfl ⟨Nat.le_of_ble_eq_true rfl, Nat.le_of_ble_eq_true rfl⟩ rfl rfl (Nat.le_of_ble_eq_true rfl) dX5_goOn_44 ⟨Nat.le_refl _, Nat.le_refl _⟩ (fun hrv => av_eq (st2 := []) rfl rfl rfl rfl ?_))
        refine av_iload_n (pc := 47) (j := 0) C dX5_goOn_47 rfl rfl ?_
        refine av_aload_n (pc := 48) (j := 2) C dX5_goOn_48 rfl rfl ?_
        refine av_getR (pc := 49) (k := 0) (r := 3) C fl_X5_48 sk_7 rfl dX5_goOn_49 ?_
        refine av_aload_n (pc := 52) (j := 2) C dX5_goOn_52 rfl rfl ?_
        refine av_getR (pc := 53) (k := 4) (r := 34) C fl_X5_14 sk_7 rfl dX5_goOn_53 ?_
        refine av_iload_n (pc := 56) (j := 1) C dX5_goOn_56 rfl rfl ?_
        obtain ⟨x8, S7, hc9, hs⟩ := am_b2_of hs
        refine av_eq (st2 := [am_I (S.1 459), am_R 34, am_R 3, am_I x3]) rfl rfl rfl rfl (av_callV (pc := 57) (as := [am_I (S.1 459)]) (rest := [am_R 3, am_I x3]) C (ct_X4_at l G 34 67 101 sk_34 sk_67 rfl (S.1 459) S5 x8 S7 hc9) ym_X4_at si_X5_68 im_X4_at se_X4_at sk_34 rfl ⟨Nat.le_of_ble_eq_true rfl, Nat.le_of_ble_eq_true rfl⟩ rfl rfl (Nat.le_of_ble_eq_true rfl) dX5_goOn_57 ⟨Nat.le_refl _, Nat.le_refl _⟩ (fun hrv => av_eq (st2 := [am_I x8, am_R 3, am_I x3]) rfl rfl rfl rfl ?_))
        obtain ⟨x11, S10, hc12, hs⟩ := am_b2_of hs
        refine av_eq (st2 := [am_I x8, am_R 3, am_I x3]) rfl rfl rfl rfl (av_callV (pc := 60) (as := [am_I x8]) (rest := [am_I x3]) C (ct_X0_sizeOf l G x8 S7 x11 S10 hc12) ym_X0_sizeOf si_X5_112 im_X0_sizeOf se_X0_sizeOf sk_3 rfl ⟨Nat.le_of_ble_eq_true rfl, Nat.le_of_ble_eq_true rfl⟩ rfl rfl (Nat.le_of_ble_eq_true rfl) dX5_goOn_60 ⟨Nat.le_refl _, Nat.le_refl _⟩ (fun hrv => av_eq (st2 := [am_I x11, am_I x3]) rfl rfl rfl rfl ?_))
        refine av_icmp_ge (pc := 63) (tgt := 75) C dX5_goOn_63 (by decide) (fun hc => ?_) (fun hc => ?_)
        · rw [if_pos hc] at hs
          refine av_aload_n (pc := 75) (j := 2) C dX5_goOn_75 rfl rfl ?_
          refine av_iload_n (pc := 76) (j := 1) C dX5_goOn_76 rfl rfl ?_
          obtain ⟨x14, S13, hc15, hs⟩ := am_b2_of hs
          refine av_eq (st2 := [am_I (S.1 459), am_R 7]) rfl rfl rfl rfl (av_callV (pc := 77) (as := [am_I (S.1 459)]) (rest := []) C (ct_X5_giveZero l G (S.1 459) S10 x14 S13 hc15) ym_X5_giveZero si_X5_120 im_X5_giveZero se_X5_giveZero sk_7 rfl ⟨Nat.le_of_ble_eq_true rfl, Nat.le_of_ble_eq_true rfl⟩ rfl rfl (Nat.le_of_ble_eq_true rfl) dX5_goOn_77 ⟨Nat.le_refl _, Nat.le_refl _⟩ (fun hrv => av_eq (st2 := [am_I x14]) rfl rfl rfl rfl ?_))
          refine av_istore (pc := 80) (i := 4) (lv2 := [(4, am_I x14), (3, am_I x3), (2, am_I (S.1 459)), (0, am_R 7), (1, am_I b1)]) C dX5_goOn_80 (by decide) rfl ?_
          refine av_iload (pc := 82) (j := 0) C dX5_goOn_82 rfl ?_
          refine av_iconst (pc := 84) C dX5_goOn_84 rfl ?_
          refine av_icmp_ne (pc := 85) (tgt := 96) C dX5_goOn_85 (by decide) (fun hc => ?_) (fun hc => ?_)
          · rw [if_neg hc] at hs
            refine av_iload (pc := 96) (j := 0) C dX5_goOn_96 rfl ?_
            refine av_iconst (pc := 98) C dX5_goOn_98 rfl ?_
            refine av_icmp_eq (pc := 99) (tgt := 117) C dX5_goOn_99 (by decide) (fun hc => ?_) (fun hc => ?_)
            · rw [if_pos hc] at hs
              refine av_aload_n (pc := 117) (j := 3) C dX5_goOn_117 rfl rfl ?_
              refine av_iload_n (pc := 118) (j := 2) C dX5_goOn_118 rfl rfl ?_
              refine av_iload (pc := 119) (j := 0) C dX5_goOn_119 rfl ?_
              obtain ⟨S16, hc17, hs⟩ := am_b1_of hs
              refine av_eq (st2 := [am_I x14, am_I (S.1 459), am_R 7]) rfl rfl rfl rfl (av_callV (pc := 121) (as := [am_I (S.1 459), am_I x14]) (rest := []) C (ct_X5_end l G (S.1 459) x14 S13 S16 hc17) ym_X5_end si_X5_108 im_X5_end se_X5_end sk_7 rfl ⟨Nat.le_of_ble_eq_true rfl, Nat.le_of_ble_eq_true rfl⟩ rfl rfl (Nat.le_of_ble_eq_true rfl) dX5_goOn_121 ⟨Nat.le_refl _, Nat.le_refl _⟩ (fun hrv => av_eq (st2 := []) rfl rfl rfl rfl ?_))
              refine av_iinc (pc := 124) (j := 4) (lv2 := [(1, am_I (am_w32 (b1 + 1))), (4, am_I x14), (3, am_I x3), (2, am_I (S.1 459)), (0, am_R 7)]) C dX5_goOn_124 rfl (by decide) rfl ?_
              refine av_goto (pc := 127) (tgt := 7) C dX5_goOn_127 (by decide) ?_
              refine av_lvsub (lv2 := [(0, am_R 7), (1, am_I (am_w32 (b1 + 1)))]) [4, 0] rfl ?_
              exact ih (am_w32 (b1 + 1)) S16 SZ hs
            · rw [if_neg hc] at hs
              refine av_iload (pc := 102) (j := 0) C dX5_goOn_102 rfl ?_
              refine av_iconst (pc := 104) C dX5_goOn_104 rfl ?_
              refine av_icmp_ne (pc := 105) (tgt := 124) C dX5_goOn_105 (by decide) (fun hc => ?_) (fun hc => ?_)
              · rw [if_neg hc] at hs
                refine av_iinc (pc := 124) (j := 4) (lv2 := [(1, am_I (am_w32 (b1 + 1))), (4, am_I x14), (3, am_I x3), (2, am_I (S.1 459)), (0, am_R 7)]) C dX5_goOn_124 rfl (by decide) rfl ?_
                refine av_goto (pc := 127) (tgt := 7) C dX5_goOn_127 (by decide) ?_
                refine av_lvsub (lv2 := [(0, am_R 7), (1, am_I (am_w32 (b1 + 1)))]) [4, 0] rfl ?_
                exact ih (am_w32 (b1 + 1)) S13 SZ hs
              · rw [if_pos (Decidable.not_not.mp hc)] at hs
                refine av_aload_n (pc := 108) (j := 3) C dX5_goOn_108 rfl rfl ?_
                refine av_iload_n (pc := 109) (j := 2) C dX5_goOn_109 rfl rfl ?_
                refine av_iload_n (pc := 110) (j := 1) C dX5_goOn_110 rfl rfl ?_
                obtain ⟨x19, S18, hc20, hs⟩ := am_b2_of hs
                refine av_eq (st2 := [am_I x3, am_I (S.1 459), am_R 7]) rfl rfl rfl rfl (av_callV (pc := 111) (as := [am_I (S.1 459), am_I x3]) (rest := []) C (ct_X5_leaveTry l G (S.1 459) x3 S13 x19 S18 hc20) ym_X5_leaveTry si_X5_104 im_X5_leaveTry se_X5_leaveTry sk_7 rfl ⟨Nat.le_of_ble_eq_true rfl, Nat.le_of_ble_eq_true rfl⟩ rfl rfl (Nat.le_of_ble_eq_true rfl) dX5_goOn_111 ⟨Nat.le_refl _, Nat.le_refl _⟩ (fun hrv => av_eq (st2 := [am_I x19]) rfl rfl rfl rfl ?_))
                refine av_if_ne (pc := 114) (tgt := 124) C dX5_goOn_114 (by decide) (fun hc => ?_) (fun hc => ?_)
                · rw [if_neg hc] at hs
                  refine av_iinc (pc := 124) (j := 4) (lv2 := [(1, am_I (am_w32 (b1 + 1))), (4, am_I x14), (3, am_I x3), (2, am_I (S.1 459)), (0, am_R 7)]) C dX5_goOn_124 rfl (by decide) rfl ?_
                  refine av_goto (pc := 127) (tgt := 7) C dX5_goOn_127 (by decide) ?_
                  refine av_lvsub (lv2 := [(0, am_R 7), (1, am_I (am_w32 (b1 + 1)))]) [4, 0] rfl ?_
                  exact ih (am_w32 (b1 + 1)) S18 SZ hs
                · rw [if_pos (Decidable.not_not.mp hc)] at hs
                  refine av_aload_n (pc := 117) (j := 3) C dX5_goOn_117 rfl rfl ?_
                  refine av_iload_n (pc := 118) (j := 2) C dX5_goOn_118 rfl rfl ?_
                  refine av_iload (pc := 119) (j := 0) C dX5_goOn_119 rfl ?_
                  obtain ⟨S21, hc22, hs⟩ := am_b1_of hs
                  refine av_eq (st2 := [am_I x14, am_I (S.1 459), am_R 7]) rfl rfl rfl rfl (av_callV (pc := 121) (as := [am_I (S.1 459), am_I x14]) (rest := []) C (ct_X5_end l G (S.1 459) x14 S18 S21 hc22) ym_X5_end si_X5_108 im_X5_end se_X5_end sk_7 rfl ⟨Nat.le_of_ble_eq_true rfl, Nat.le_of_ble_eq_true rfl⟩ rfl rfl (Nat.le_of_ble_eq_true rfl) dX5_goOn_121 ⟨Nat.le_refl _, Nat.le_refl _⟩ (fun hrv => av_eq (st2 := []) rfl rfl rfl rfl ?_))
                  refine av_iinc (pc := 124) (j := 4) (lv2 := [(1, am_I (am_w32 (b1 + 1))), (4, am_I x14), (3, am_I x3), (2, am_I (S.1 459)), (0, am_R 7)]) C dX5_goOn_124 rfl (by decide) rfl ?_
                  refine av_goto (pc := 127) (tgt := 7) C dX5_goOn_127 (by decide) ?_
                  refine av_lvsub (lv2 := [(0, am_R 7), (1, am_I (am_w32 (b1 + 1)))]) [4, 0] rfl ?_
                  exact ih (am_w32 (b1 + 1)) S21 SZ hs
          · rw [if_pos (Decidable.not_not.mp hc)] at hs
            refine av_aload_n (pc := 88) (j := 3) C dX5_goOn_88 rfl rfl ?_
            refine av_iload_n (pc := 89) (j := 2) C dX5_goOn_89 rfl rfl ?_
            obtain ⟨S23, hc24, hs⟩ := am_b1_of hs
            refine av_eq (st2 := [am_I (S.1 459), am_R 7]) rfl rfl rfl rfl (av_callV (pc := 90) (as := [am_I (S.1 459)]) (rest := []) C (ct_X5_stop l G (S.1 459) S13 S23 hc24) ym_X5_stop si_X5_123 im_X5_stop se_X5_stop sk_7 rfl ⟨Nat.le_of_ble_eq_true rfl, Nat.le_of_ble_eq_true rfl⟩ rfl rfl (Nat.le_of_ble_eq_true rfl) dX5_goOn_90 ⟨Nat.le_refl _, Nat.le_refl _⟩ (fun hrv => av_eq (st2 := []) rfl rfl rfl rfl ?_))
            refine av_goto (pc := 93) (tgt := 124) C dX5_goOn_93 (by decide) ?_
            refine av_iinc (pc := 124) (j := 4) (lv2 := [(1, am_I (am_w32 (b1 + 1))), (4, am_I x14), (3, am_I x3), (2, am_I (S.1 459)), (0, am_R 7)]) C dX5_goOn_124 rfl (by decide) rfl ?_
            refine av_goto (pc := 127) (tgt := 7) C dX5_goOn_127 (by decide) ?_
            refine av_lvsub (lv2 := [(0, am_R 7), (1, am_I (am_w32 (b1 + 1)))]) [4, 0] rfl ?_
            exact ih (am_w32 (b1 + 1)) S23 SZ hs
        · rw [if_neg hc] at hs
          refine av_aload_n (pc := 66) (j := 2) C dX5_goOn_66 rfl rfl ?_
          refine av_iload_n (pc := 67) (j := 1) C dX5_goOn_67 rfl rfl ?_
          refine av_iload_n (pc := 68) (j := 0) C dX5_goOn_68 rfl rfl ?_
          obtain ⟨x26, S25, hc27, hs⟩ := am_b2_of hs
          refine av_eq (st2 := [am_I x3, am_I (S.1 459), am_R 7]) rfl rfl rfl rfl (av_callV (pc := 69) (as := [am_I (S.1 459), am_I x3]) (rest := []) C (ct_X5_doStep l G (S.1 459) x3 S10 x26 S25 hc27) ym_X5_doStep si_X5_117 im_X5_doStep se_X5_doStep sk_7 rfl ⟨Nat.le_of_ble_eq_true rfl, Nat.le_of_ble_eq_true rfl⟩ rfl rfl (Nat.le_of_ble_eq_true rfl) dX5_goOn_69 ⟨Nat.le_refl _, Nat.le_refl _⟩ (fun hrv => av_eq (st2 := [am_I x26]) rfl rfl rfl rfl ?_))
          refine av_goto (pc := 72) (tgt := 80) C dX5_goOn_72 (by decide) ?_
          refine av_istore (pc := 80) (i := 4) (lv2 := [(4, am_I x26), (3, am_I x3), (2, am_I (S.1 459)), (0, am_R 7), (1, am_I b1)]) C dX5_goOn_80 (by decide) rfl ?_
          refine av_iload (pc := 82) (j := 0) C dX5_goOn_82 rfl ?_
          refine av_iconst (pc := 84) C dX5_goOn_84 rfl ?_
          refine av_icmp_ne (pc := 85) (tgt := 96) C dX5_goOn_85 (by decide) (fun hc => ?_) (fun hc => ?_)
          · rw [if_neg hc] at hs
            refine av_iload (pc := 96) (j := 0) C dX5_goOn_96 rfl ?_
            refine av_iconst (pc := 98) C dX5_goOn_98 rfl ?_
            refine av_icmp_eq (pc := 99) (tgt := 117) C dX5_goOn_99 (by decide) (fun hc => ?_) (fun hc => ?_)
            · rw [if_pos hc] at hs
              refine av_aload_n (pc := 117) (j := 3) C dX5_goOn_117 rfl rfl ?_
              refine av_iload_n (pc := 118) (j := 2) C dX5_goOn_118 rfl rfl ?_
              refine av_iload (pc := 119) (j := 0) C dX5_goOn_119 rfl ?_
              obtain ⟨S28, hc29, hs⟩ := am_b1_of hs
              refine av_eq (st2 := [am_I x26, am_I (S.1 459), am_R 7]) rfl rfl rfl rfl (av_callV (pc := 121) (as := [am_I (S.1 459), am_I x26]) (rest := []) C (ct_X5_end l G (S.1 459) x26 S25 S28 hc29) ym_X5_end si_X5_108 im_X5_end se_X5_end sk_7 rfl ⟨Nat.le_of_ble_eq_true rfl, Nat.le_of_ble_eq_true rfl⟩ rfl rfl (Nat.le_of_ble_eq_true rfl) dX5_goOn_121 ⟨Nat.le_refl _, Nat.le_refl _⟩ (fun hrv => av_eq (st2 := []) rfl rfl rfl rfl ?_))
              refine av_iinc (pc := 124) (j := 4) (lv2 := [(1, am_I (am_w32 (b1 + 1))), (4, am_I x26), (3, am_I x3), (2, am_I (S.1 459)), (0, am_R 7)]) C dX5_goOn_124 rfl (by decide) rfl ?_
              refine av_goto (pc := 127) (tgt := 7) C dX5_goOn_127 (by decide) ?_
              refine av_lvsub (lv2 := [(0, am_R 7), (1, am_I (am_w32 (b1 + 1)))]) [4, 0] rfl ?_
              exact ih (am_w32 (b1 + 1)) S28 SZ hs
            · rw [if_neg hc] at hs
              refine av_iload (pc := 102) (j := 0) C dX5_goOn_102 rfl ?_
              refine av_iconst (pc := 104) C dX5_goOn_104 rfl ?_
              refine av_icmp_ne (pc := 105) (tgt := 124) C dX5_goOn_105 (by decide) (fun hc => ?_) (fun hc => ?_)
              · rw [if_neg hc] at hs
                refine av_iinc (pc := 124) (j := 4) (lv2 := [(1, am_I (am_w32 (b1 + 1))), (4, am_I x26), (3, am_I x3), (2, am_I (S.1 459)), (0, am_R 7)]) C dX5_goOn_124 rfl (by decide) rfl ?_
                refine av_goto (pc := 127) (tgt := 7) C dX5_goOn_127 (by decide) ?_
                refine av_lvsub (lv2 := [(0, am_R 7), (1, am_I (am_w32 (b1 + 1)))]) [4, 0] rfl ?_
                exact ih (am_w32 (b1 + 1)) S25 SZ hs
              · rw [if_pos (Decidable.not_not.mp hc)] at hs
                refine av_aload_n (pc := 108) (j := 3) C dX5_goOn_108 rfl rfl ?_
                refine av_iload_n (pc := 109) (j := 2) C dX5_goOn_109 rfl rfl ?_
                refine av_iload_n (pc := 110) (j := 1) C dX5_goOn_110 rfl rfl ?_
                obtain ⟨x31, S30, hc32, hs⟩ := am_b2_of hs
                refine av_eq (st2 := [am_I x3, am_I (S.1 459), am_R 7]) rfl rfl rfl rfl (av_callV (pc := 111) (as := [am_I (S.1 459), am_I x3]) (rest := []) C (ct_X5_leaveTry l G (S.1 459) x3 S25 x31 S30 hc32) ym_X5_leaveTry si_X5_104 im_X5_leaveTry se_X5_leaveTry sk_7 rfl ⟨Nat.le_of_ble_eq_true rfl, Nat.le_of_ble_eq_true rfl⟩ rfl rfl (Nat.le_of_ble_eq_true rfl) dX5_goOn_111 ⟨Nat.le_refl _, Nat.le_refl _⟩ (fun hrv => av_eq (st2 := [am_I x31]) rfl rfl rfl rfl ?_))
                refine av_if_ne (pc := 114) (tgt := 124) C dX5_goOn_114 (by decide) (fun hc => ?_) (fun hc => ?_)
                · rw [if_neg hc] at hs
                  refine av_iinc (pc := 124) (j := 4) (lv2 := [(1, am_I (am_w32 (b1 + 1))), (4, am_I x26), (3, am_I x3), (2, am_I (S.1 459)), (0, am_R 7)]) C dX5_goOn_124 rfl (by decide) rfl ?_
                  refine av_goto (pc := 127) (tgt := 7) C dX5_goOn_127 (by decide) ?_
                  refine av_lvsub (lv2 := [(0, am_R 7), (1, am_I (am_w32 (b1 + 1)))]) [4, 0] rfl ?_
                  exact ih (am_w32 (b1 + 1)) S30 SZ hs
                · rw [if_pos (Decidable.not_not.mp hc)] at hs
                  refine av_aload_n (pc := 117) (j := 3) C dX5_goOn_117 rfl rfl ?_
                  refine av_iload_n (pc := 118) (j := 2) C dX5_goOn_118 rfl rfl ?_
                  refine av_iload (pc := 119) (j := 0) C dX5_goOn_119 rfl ?_
                  obtain ⟨S33, hc34, hs⟩ := am_b1_of hs
                  refine av_eq (st2 := [am_I x26, am_I (S.1 459), am_R 7]) rfl rfl rfl rfl (av_callV (pc := 121) (as := [am_I (S.1 459), am_I x26]) (rest := []) C (ct_X5_end l G (S.1 459) x26 S30 S33 hc34) ym_X5_end si_X5_108 im_X5_end se_X5_end sk_7 rfl ⟨Nat.le_of_ble_eq_true rfl, Nat.le_of_ble_eq_true rfl⟩ rfl rfl (Nat.le_of_ble_eq_true rfl) dX5_goOn_121 ⟨Nat.le_refl _, Nat.le_refl _⟩ (fun hrv => av_eq (st2 := []) rfl rfl rfl rfl ?_))
                  refine av_iinc (pc := 124) (j := 4) (lv2 := [(1, am_I (am_w32 (b1 + 1))), (4, am_I x26), (3, am_I x3), (2, am_I (S.1 459)), (0, am_R 7)]) C dX5_goOn_124 rfl (by decide) rfl ?_
                  refine av_goto (pc := 127) (tgt := 7) C dX5_goOn_127 (by decide) ?_
                  refine av_lvsub (lv2 := [(0, am_R 7), (1, am_I (am_w32 (b1 + 1)))]) [4, 0] rfl ?_
                  exact ih (am_w32 (b1 + 1)) S33 SZ hs
          · rw [if_pos (Decidable.not_not.mp hc)] at hs
            refine av_aload_n (pc := 88) (j := 3) C dX5_goOn_88 rfl rfl ?_
            refine av_iload_n (pc := 89) (j := 2) C dX5_goOn_89 rfl rfl ?_
            obtain ⟨S35, hc36, hs⟩ := am_b1_of hs
            refine av_eq (st2 := [am_I (S.1 459), am_R 7]) rfl rfl rfl rfl (av_callV (pc := 90) (as := [am_I (S.1 459)]) (rest := []) C (ct_X5_stop l G (S.1 459) S25 S35 hc36) ym_X5_stop si_X5_123 im_X5_stop se_X5_stop sk_7 rfl ⟨Nat.le_of_ble_eq_true rfl, Nat.le_of_ble_eq_true rfl⟩ rfl rfl (Nat.le_of_ble_eq_true rfl) dX5_goOn_90 ⟨Nat.le_refl _, Nat.le_refl _⟩ (fun hrv => av_eq (st2 := []) rfl rfl rfl rfl ?_))
            refine av_goto (pc := 93) (tgt := 124) C dX5_goOn_93 (by decide) ?_
            refine av_iinc (pc := 124) (j := 4) (lv2 := [(1, am_I (am_w32 (b1 + 1))), (4, am_I x26), (3, am_I x3), (2, am_I (S.1 459)), (0, am_R 7)]) C dX5_goOn_124 rfl (by decide) rfl ?_
            refine av_goto (pc := 127) (tgt := 7) C dX5_goOn_127 (by decide) ?_
            refine av_lvsub (lv2 := [(0, am_R 7), (1, am_I (am_w32 (b1 + 1)))]) [4, 0] rfl ?_
            exact ih (am_w32 (b1 + 1)) S35 SZ hs
set_option maxHeartbeats 20000000 in
set_option maxRecDepth 100000 in
theorem ct_X5_goOn (l : Launch) (G : am_G) (S : am_S) (SZ : am_S) (hs : sf_X5_goOn  S = some SZ) : am_met l yX5_goOn cX5_goOn 5 none 5 122 G [am_R 7] S none SZ := by
  refine am_enter ym_X5_goOn (Nat.le_of_ble_eq_true rfl) ?_
  intro p e s m args below meth c C hr hlocks
  refine av_eq (lv2 := [(0, am_R 7)]) rfl rfl rfl rfl ?_
  unfold sf_X5_goOn at hs
  refine av_aload_n (pc := 0) (j := 0) C dX5_goOn_0 rfl rfl ?_
  refine av_iconst (pc := 1) C dX5_goOn_1 rfl ?_
  obtain ⟨S1, eS1, hs⟩ := am_let_of hs
  refine av_putI (pc := 2) (k := 13) (n := 461) C fp_X5_45 sk_7 rfl rfl dX5_goOn_2 ?_
  refine av_eq rfl rfl rfl eS1 ?_
  refine av_iconst (pc := 5) C dX5_goOn_5 rfl ?_
  refine av_istore_n (pc := 6) (i := 1) (lv2 := [(1, am_I 0), (0, am_R 7)]) C dX5_goOn_6 rfl (by decide) rfl ?_
  refine av_lvsub (lv2 := [(0, am_R 7), (1, am_I 0)]) [1, 0] rfl ?_
  exact wk_X5_goOn_7 C hr hlocks 1000002 0 S1 SZ hs
set_option maxHeartbeats 4000000 in
set_option maxRecDepth 100000 in
theorem ct_X6_clear (l : Launch) (G : am_G) (S : am_S) (SZ : am_S) (hs : sf_X6_clear  S = some SZ) : am_met l yX6_clear cX6_clear 1 none 0 0 G [am_R 4] S none SZ := by
  refine am_enter ym_X6_clear (Nat.le_of_ble_eq_true rfl) ?_
  intro p e s m args below meth c C hr hlocks
  refine av_eq (lv2 := [(0, am_R 4)]) rfl rfl rfl rfl ?_
  unfold sf_X6_clear at hs
  refine av_aload_n (pc := 0) (j := 0) C dX6_clear_0 rfl rfl ?_
  refine av_iconst (pc := 1) C dX6_clear_1 rfl ?_
  obtain ⟨S1, eS1, hs⟩ := am_let_of hs
  refine av_putI (pc := 2) (k := 3) (n := 259) C fp_X6_26 sk_4 rfl rfl dX6_clear_2 ?_
  refine av_eq rfl rfl rfl eS1 ?_
  refine av_aload_n (pc := 5) (j := 0) C dX6_clear_5 rfl rfl ?_
  refine av_iconst (pc := 6) C dX6_clear_6 rfl ?_
  obtain ⟨S2, eS2, hs⟩ := am_let_of hs
  refine av_putI (pc := 7) (k := 4) (n := 260) C fp_X6_30 sk_4 rfl rfl dX6_clear_7 ?_
  refine av_eq rfl rfl rfl eS2 ?_
  obtain rfl := am_inj1 hs
  exact av_vret C hr hlocks dX6_clear_10
set_option maxHeartbeats 4000000 in
set_option maxRecDepth 100000 in
theorem ct_X6_size (l : Launch) (G : am_G) (S : am_S) (x : Int) (SZ : am_S) (hs : sf_X6_size  S = some (x, SZ)) : am_met l yX6_size cX6_size 1 (some .int) 0 0 G [am_R 4] S (some (am_I x)) SZ := by
  refine am_enter ym_X6_size (Nat.le_of_ble_eq_true rfl) ?_
  intro p e s m args below meth c C hr hlocks
  refine av_eq (lv2 := [(0, am_R 4)]) rfl rfl rfl rfl ?_
  unfold sf_X6_size at hs
  refine av_aload_n (pc := 0) (j := 0) C dX6_size_0 rfl rfl ?_
  refine av_getI (pc := 1) (k := 3) (n := 259) C fl_X6_26 sk_4 rfl rfl dX6_size_1 ?_
  obtain ⟨rfl, rfl⟩ := am_inj2 hs
  exact av_iret C hr hlocks dX6_size_4
set_option maxHeartbeats 4000000 in
set_option maxRecDepth 100000 in
theorem ct_X6_time (l : Launch) (G : am_G) (S : am_S) (x : Int) (SZ : am_S) (hs : sf_X6_time  S = some (x, SZ)) : am_met l yX6_time cX6_time 1 (some .int) 0 0 G [am_R 4] S (some (am_I x)) SZ := by
  refine am_enter ym_X6_time (Nat.le_of_ble_eq_true rfl) ?_
  intro p e s m args below meth c C hr hlocks
  refine av_eq (lv2 := [(0, am_R 4)]) rfl rfl rfl rfl ?_
  unfold sf_X6_time at hs
  refine av_aload_n (pc := 0) (j := 0) C dX6_time_0 rfl rfl ?_
  refine av_getI (pc := 1) (k := 4) (n := 260) C fl_X6_30 sk_4 rfl rfl dX6_time_1 ?_
  obtain ⟨rfl, rfl⟩ := am_inj2 hs
  exact av_iret C hr hlocks dX6_time_4
set_option maxHeartbeats 4000000 in
set_option maxRecDepth 100000 in
theorem wk_X6_dueFirst_4 {p : Program} {l : Launch} {e : Env} {s : State} {m : MethodId} {args : Array Value} {below : List Frame} {meth : Method} {c : Code} {G : am_G} (C : am_C p s m args c cX6_dueFirst 3 RX6 G) (hr : meth.sig.returnType = (some .int)) (hlocks : meth.locks = false) : ∀ (fu : Nat) (b1 : Int) (b2 : Int) (S : am_S) (x : Int) (SZ : am_S), sf_X6_dueFirst_4 fu b1 b2 S = some (x, SZ) → am_V p l e (am_rm 1 21) s m args below meth c (MQ below (am_Q G (some (am_I x)) SZ) args s 0 0 (am_A G)) G (am_A G) s.heap 3 0 0 4 [(0, am_R 4), (1, am_I b1), (2, am_I b2)] [] S := by
  intro fu
  induction fu with
  | zero => intro b1 b2 S x SZ hs; cases hs
  | succ fu ih =>
    intro b1 b2 S x SZ hs
    unfold sf_X6_dueFirst_4 at hs
    refine av_iload_n (pc := 4) (j := 2) C dX6_dueFirst_4 rfl rfl ?_
    refine av_aload_n (pc := 5) (j := 0) C dX6_dueFirst_5 rfl rfl ?_
    refine av_getI (pc := 6) (k := 3) (n := 259) C fl_X6_26 sk_4 rfl rfl dX6_dueFirst_6 ?_
    refine av_icmp_ge (pc := 9) (tgt := 39) C dX6_dueFirst_9 (by decide) (fun hc => ?_) (fun hc => ?_)
    · rw [if_pos hc] at hs
      refine av_iload_n (pc := 39) (j := 1) C dX6_dueFirst_39 rfl rfl ?_
      obtain ⟨rfl, rfl⟩ := am_inj2 hs
      exact av_iret C hr hlocks dX6_dueFirst_40
    · rw [if_neg hc] at hs
      refine av_aload_n (pc := 12) (j := 0) C dX6_dueFirst_12 rfl rfl ?_
      refine av_getR (pc := 13) (k := 2) (r := 27) C fl_X6_23 sk_4 rfl dX6_dueFirst_13 ?_
      refine av_iload_n (pc := 16) (j := 2) C dX6_dueFirst_16 rfl rfl ?_
      obtain ⟨x2, S1, hc3, hs⟩ := am_b2_of hs
      refine av_eq (st2 := [am_I b2, am_R 27]) rfl rfl rfl rfl (av_callV (pc := 17) (as := [am_I b2]) (rest := []) C (ct_X4_at l G 27 60 32 sk_27 sk_60 rfl b2 S x2 S1 hc3) ym_X4_at si_X6_37 im_X4_at se_X4_at sk_27 rfl ⟨Nat.le_of_ble_eq_true rfl, Nat.le_of_ble_eq_true rfl⟩ rfl rfl (Nat.le_of_ble_eq_true rfl) dX6_dueFirst_17 ⟨Nat.le_refl _, Nat.le_refl _⟩ (fun hrv => av_eq (st2 := [am_I x2]) rfl rfl rfl rfl ?_))
      refine av_aload_n (pc := 20) (j := 0) C dX6_dueFirst_20 rfl rfl ?_
      refine av_getR (pc := 21) (k := 2) (r := 27) C fl_X6_23 sk_4 rfl dX6_dueFirst_21 ?_
      refine av_iload_n (pc := 24) (j := 1) C dX6_dueFirst_24 rfl rfl ?_
      obtain ⟨x5, S4, hc6, hs⟩ := am_b2_of hs
      refine av_eq (st2 := [am_I b1, am_R 27, am_I x2]) rfl rfl rfl rfl (av_callV (pc := 25) (as := [am_I b1]) (rest := [am_I x2]) C (ct_X4_at l G 27 60 32 sk_27 sk_60 rfl b1 S1 x5 S4 hc6) ym_X4_at si_X6_37 im_X4_at se_X4_at sk_27 rfl ⟨Nat.le_of_ble_eq_true rfl, Nat.le_of_ble_eq_true rfl⟩ rfl rfl (Nat.le_of_ble_eq_true rfl) dX6_dueFirst_25 ⟨Nat.le_refl _, Nat.le_refl _⟩ (fun hrv => av_eq (st2 := [am_I x5, am_I x2]) rfl rfl rfl rfl ?_))
      refine av_icmp_ge (pc := 28) (tgt := 33) C dX6_dueFirst_28 (by decide) (fun hc => ?_) (fun hc => ?_)
      · rw [if_pos hc] at hs
        refine av_iinc (pc := 33) (j := 2) (lv2 := [(2, am_I (am_w32 (b2 + 1))), (0, am_R 4), (1, am_I b1)]) C dX6_dueFirst_33 rfl (by decide) rfl ?_
        refine av_goto (pc := 36) (tgt := 4) C dX6_dueFirst_36 (by decide) ?_
        refine av_lvsub (lv2 := [(0, am_R 4), (1, am_I b1), (2, am_I (am_w32 (b2 + 1)))]) [1, 2, 0] rfl ?_
        exact ih b1 (am_w32 (b2 + 1)) S4 x SZ hs
      · rw [if_neg hc] at hs
        refine av_iload_n (pc := 31) (j := 2) C dX6_dueFirst_31 rfl rfl ?_
        refine av_istore_n (pc := 32) (i := 1) (lv2 := [(1, am_I b2), (0, am_R 4), (2, am_I b2)]) C dX6_dueFirst_32 rfl (by decide) rfl ?_
        refine av_iinc (pc := 33) (j := 2) (lv2 := [(2, am_I (am_w32 (b2 + 1))), (1, am_I b2), (0, am_R 4)]) C dX6_dueFirst_33 rfl (by decide) rfl ?_
        refine av_goto (pc := 36) (tgt := 4) C dX6_dueFirst_36 (by decide) ?_
        refine av_lvsub (lv2 := [(0, am_R 4), (1, am_I b2), (2, am_I (am_w32 (b2 + 1)))]) [2, 1, 0] rfl ?_
        exact ih b2 (am_w32 (b2 + 1)) S4 x SZ hs
set_option maxHeartbeats 4000000 in
set_option maxRecDepth 100000 in
theorem ct_X6_dueFirst (l : Launch) (G : am_G) (S : am_S) (x : Int) (SZ : am_S) (hs : sf_X6_dueFirst  S = some (x, SZ)) : am_met l yX6_dueFirst cX6_dueFirst 3 (some .int) 1 21 G [am_R 4] S (some (am_I x)) SZ := by
  refine am_enter ym_X6_dueFirst (Nat.le_of_ble_eq_true rfl) ?_
  intro p e s m args below meth c C hr hlocks
  refine av_eq (lv2 := [(0, am_R 4)]) rfl rfl rfl rfl ?_
  unfold sf_X6_dueFirst at hs
  refine av_iconst (pc := 0) C dX6_dueFirst_0 rfl ?_
  refine av_istore_n (pc := 1) (i := 1) (lv2 := [(1, am_I 0), (0, am_R 4)]) C dX6_dueFirst_1 rfl (by decide) rfl ?_
  refine av_iconst (pc := 2) C dX6_dueFirst_2 rfl ?_
  refine av_istore_n (pc := 3) (i := 2) (lv2 := [(2, am_I 1), (1, am_I 0), (0, am_R 4)]) C dX6_dueFirst_3 rfl (by decide) rfl ?_
  refine av_lvsub (lv2 := [(0, am_R 4), (1, am_I 0), (2, am_I 1)]) [2, 1, 0] rfl ?_
  exact wk_X6_dueFirst_4 C hr hlocks 1000 0 1 S x SZ hs
set_option maxHeartbeats 4000000 in
set_option maxRecDepth 100000 in
theorem ct_X6_functionOf (l : Launch) (G : am_G) (a1 : Int) (S : am_S) (x : Int) (SZ : am_S) (hs : sf_X6_functionOf a1 S = some (x, SZ)) : am_met l yX6_functionOf cX6_functionOf 2 (some .int) 1 21 G [am_R 4, am_I a1] S (some (am_I x)) SZ := by
  refine am_enter ym_X6_functionOf (Nat.le_of_ble_eq_true rfl) ?_
  intro p e s m args below meth c C hr hlocks
  refine av_eq (lv2 := [(0, am_R 4), (1, am_I a1)]) rfl rfl rfl rfl ?_
  unfold sf_X6_functionOf at hs
  refine av_aload_n (pc := 0) (j := 0) C dX6_functionOf_0 rfl rfl ?_
  refine av_getR (pc := 1) (k := 0) (r := 25) C fl_X6_14 sk_4 rfl dX6_functionOf_1 ?_
  refine av_iload_n (pc := 4) (j := 1) C dX6_functionOf_4 rfl rfl ?_
  obtain ⟨x2, S1, hc3, hs⟩ := am_b2_of hs
  refine av_eq (st2 := [am_I a1, am_R 25]) rfl rfl rfl rfl (av_callV (pc := 5) (as := [am_I a1]) (rest := []) C (ct_X4_at l G 25 58 32 sk_25 sk_58 rfl a1 S x2 S1 hc3) ym_X4_at si_X6_37 im_X4_at se_X4_at sk_25 rfl ⟨Nat.le_of_ble_eq_true rfl, Nat.le_of_ble_eq_true rfl⟩ rfl rfl (Nat.le_of_ble_eq_true rfl) dX6_functionOf_5 ⟨Nat.le_refl _, Nat.le_refl _⟩ (fun hrv => av_eq (st2 := [am_I x2]) rfl rfl rfl rfl ?_))
  obtain ⟨rfl, rfl⟩ := am_inj2 hs
  exact av_iret C hr hlocks dX6_functionOf_8
set_option maxHeartbeats 4000000 in
set_option maxRecDepth 100000 in
theorem ct_X6_valueOf (l : Launch) (G : am_G) (a1 : Int) (S : am_S) (x : Int) (SZ : am_S) (hs : sf_X6_valueOf a1 S = some (x, SZ)) : am_met l yX6_valueOf cX6_valueOf 2 (some .long) 1 21 G [am_R 4, am_I a1] S (some (am_J x)) SZ := by
  refine am_enter ym_X6_valueOf (Nat.le_of_ble_eq_true rfl) ?_
  intro p e s m args below meth c C hr hlocks
  refine av_eq (lv2 := [(0, am_R 4), (1, am_I a1)]) rfl rfl rfl rfl ?_
  unfold sf_X6_valueOf at hs
  refine av_aload_n (pc := 0) (j := 0) C dX6_valueOf_0 rfl rfl ?_
  refine av_getR (pc := 1) (k := 1) (r := 26) C fl_X6_20 sk_4 rfl dX6_valueOf_1 ?_
  refine av_iload_n (pc := 4) (j := 1) C dX6_valueOf_4 rfl rfl ?_
  obtain ⟨x2, S1, hc3, hs⟩ := am_b2_of hs
  refine av_eq (st2 := [am_I a1, am_R 26]) rfl rfl rfl rfl (av_callV (pc := 5) (as := [am_I a1]) (rest := []) C (ct_X4_valueAt l G 26 59 32 sk_26 sk_59 rfl a1 S x2 S1 hc3) ym_X4_valueAt si_X6_41 im_X4_valueAt se_X4_valueAt sk_26 rfl ⟨Nat.le_of_ble_eq_true rfl, Nat.le_of_ble_eq_true rfl⟩ rfl rfl (Nat.le_of_ble_eq_true rfl) dX6_valueOf_5 ⟨Nat.le_refl _, Nat.le_refl _⟩ (fun hrv => av_eq (st2 := [am_J x2]) rfl rfl rfl rfl ?_))
  obtain ⟨rfl, rfl⟩ := am_inj2 hs
  exact av_lret C hr hlocks dX6_valueOf_8
set_option maxHeartbeats 4000000 in
set_option maxRecDepth 100000 in
theorem wk_X6_finish_31 {p : Program} {l : Launch} {e : Env} {s : State} {m : MethodId} {args : Array Value} {below : List Frame} {meth : Method} {c : Code} {G : am_G} (C : am_C p s m args c cX6_finish 3 RX6 G) (hr : meth.sig.returnType = none) (hlocks : meth.locks = false) : ∀ (fu : Nat) (b2 : Int) (S : am_S) (SZ : am_S), sf_X6_finish_31 fu b2 S = some SZ → am_V p l e (am_rm 1 23) s m args below meth c (MQ below (am_Q G none SZ) args s 0 0 (am_A G)) G (am_A G) s.heap 3 0 0 31 [(0, am_R 4), (2, am_I b2)] [] S := by
  intro fu
  induction fu with
  | zero => intro b2 S SZ hs; cases hs
  | succ fu ih =>
    intro b2 S SZ hs
    unfold sf_X6_finish_31 at hs
    refine av_iload_n (pc := 31) (j := 1) C dX6_finish_31 rfl rfl ?_
    refine av_aload_n (pc := 32) (j := 0) C dX6_finish_32 rfl rfl ?_
    refine av_getI (pc := 33) (k := 3) (n := 259) C fl_X6_26 sk_4 rfl rfl dX6_finish_33 ?_
    refine av_icmp_ge (pc := 36) (tgt := 101) C dX6_finish_36 (by decide) (fun hc => ?_) (fun hc => ?_)
    · rw [if_pos hc] at hs
      obtain rfl := am_inj1 hs
      exact av_vret C hr hlocks dX6_finish_101
    · rw [if_neg hc] at hs
      refine av_aload_n (pc := 39) (j := 0) C dX6_finish_39 rfl rfl ?_
      refine av_getR (pc := 40) (k := 0) (r := 25) C fl_X6_14 sk_4 rfl dX6_finish_40 ?_
      refine av_iload_n (pc := 43) (j := 1) C dX6_finish_43 rfl rfl ?_
      refine av_aload_n (pc := 44) (j := 0) C dX6_finish_44 rfl rfl ?_
      refine av_getR (pc := 45) (k := 0) (r := 25) C fl_X6_14 sk_4 rfl dX6_finish_45 ?_
      refine av_iload_n (pc := 48) (j := 1) C dX6_finish_48 rfl rfl ?_
      refine av_iconst (pc := 49) C dX6_finish_49 rfl ?_
      refine av_iadd (pc := 50) C dX6_finish_50 ?_
      obtain ⟨x7, S6, hc8, hs⟩ := am_b2_of hs
      refine av_eq (st2 := [am_I (am_w32 (b2 + 1)), am_R 25, am_I b2, am_R 25]) rfl rfl rfl rfl (av_callV (pc := 51) (as := [am_I (am_w32 (b2 + 1))]) (rest := [am_I b2, am_R 25]) C (ct_X4_at l G 25 58 32 sk_25 sk_58 rfl (am_w32 (b2 + 1)) S x7 S6 hc8) ym_X4_at si_X6_37 im_X4_at se_X4_at sk_25 rfl ⟨Nat.le_of_ble_eq_true rfl, Nat.le_of_ble_eq_true rfl⟩ rfl rfl (Nat.le_of_ble_eq_true rfl) dX6_finish_51 ⟨Nat.le_refl _, Nat.le_refl _⟩ (fun hrv => av_eq (st2 := [am_I x7, am_I b2, am_R 25]) rfl rfl rfl rfl ?_))
      refine av_i2l (pc := 54) C dX6_finish_54 ?_
      obtain ⟨S9, hc10, hs⟩ := am_b1_of hs
      refine av_eq (st2 := [am_J x7, am_I b2, am_R 25]) rfl rfl rfl rfl (av_callV (pc := 55) (as := [am_I b2, am_J x7]) (rest := []) C (ct_X4_put l G 25 58 32 sk_25 sk_58 rfl b2 x7 S6 S9 hc10) ym_X4_put si_X6_33 im_X4_put se_X4_put sk_25 rfl ⟨Nat.le_of_ble_eq_true rfl, Nat.le_of_ble_eq_true rfl⟩ rfl rfl (Nat.le_of_ble_eq_true rfl) dX6_finish_55 ⟨Nat.le_refl _, Nat.le_refl _⟩ (fun hrv => av_eq (st2 := []) rfl rfl rfl rfl ?_))
      refine av_aload_n (pc := 58) (j := 0) C dX6_finish_58 rfl rfl ?_
      refine av_getR (pc := 59) (k := 1) (r := 26) C fl_X6_20 sk_4 rfl dX6_finish_59 ?_
      refine av_iload_n (pc := 62) (j := 1) C dX6_finish_62 rfl rfl ?_
      refine av_aload_n (pc := 63) (j := 0) C dX6_finish_63 rfl rfl ?_
      refine av_getR (pc := 64) (k := 1) (r := 26) C fl_X6_20 sk_4 rfl dX6_finish_64 ?_
      refine av_iload_n (pc := 67) (j := 1) C dX6_finish_67 rfl rfl ?_
      refine av_iconst (pc := 68) C dX6_finish_68 rfl ?_
      refine av_iadd (pc := 69) C dX6_finish_69 ?_
      obtain ⟨x12, S11, hc13, hs⟩ := am_b2_of hs
      refine av_eq (st2 := [am_I (am_w32 (b2 + 1)), am_R 26, am_I b2, am_R 26]) rfl rfl rfl rfl (av_callV (pc := 70) (as := [am_I (am_w32 (b2 + 1))]) (rest := [am_I b2, am_R 26]) C (ct_X4_valueAt l G 26 59 32 sk_26 sk_59 rfl (am_w32 (b2 + 1)) S9 x12 S11 hc13) ym_X4_valueAt si_X6_41 im_X4_valueAt se_X4_valueAt sk_26 rfl ⟨Nat.le_of_ble_eq_true rfl, Nat.le_of_ble_eq_true rfl⟩ rfl rfl (Nat.le_of_ble_eq_true rfl) dX6_finish_70 ⟨Nat.le_refl _, Nat.le_refl _⟩ (fun hrv => av_eq (st2 := [am_J x12, am_I b2, am_R 26]) rfl rfl rfl rfl ?_))
      obtain ⟨S14, hc15, hs⟩ := am_b1_of hs
      refine av_eq (st2 := [am_J x12, am_I b2, am_R 26]) rfl rfl rfl rfl (av_callV (pc := 73) (as := [am_I b2, am_J x12]) (rest := []) C (ct_X4_put l G 26 59 32 sk_26 sk_59 rfl b2 x12 S11 S14 hc15) ym_X4_put si_X6_33 im_X4_put se_X4_put sk_26 rfl ⟨Nat.le_of_ble_eq_true rfl, Nat.le_of_ble_eq_true rfl⟩ rfl rfl (Nat.le_of_ble_eq_true rfl) dX6_finish_73 ⟨Nat.le_refl _, Nat.le_refl _⟩ (fun hrv => av_eq (st2 := []) rfl rfl rfl rfl ?_))
      refine av_aload_n (pc := 76) (j := 0) C dX6_finish_76 rfl rfl ?_
      refine av_getR (pc := 77) (k := 2) (r := 27) C fl_X6_23 sk_4 rfl dX6_finish_77 ?_
      refine av_iload_n (pc := 80) (j := 1) C dX6_finish_80 rfl rfl ?_
      refine av_aload_n (pc := 81) (j := 0) C dX6_finish_81 rfl rfl ?_
      refine av_getR (pc := 82) (k := 2) (r := 27) C fl_X6_23 sk_4 rfl dX6_finish_82 ?_
      refine av_iload_n (pc := 85) (j := 1) C dX6_finish_85 rfl rfl ?_
      refine av_iconst (pc := 86) C dX6_finish_86 rfl ?_
      refine av_iadd (pc := 87) C dX6_finish_87 ?_
      obtain ⟨x17, S16, hc18, hs⟩ := am_b2_of hs
      refine av_eq (st2 := [am_I (am_w32 (b2 + 1)), am_R 27, am_I b2, am_R 27]) rfl rfl rfl rfl (av_callV (pc := 88) (as := [am_I (am_w32 (b2 + 1))]) (rest := [am_I b2, am_R 27]) C (ct_X4_at l G 27 60 32 sk_27 sk_60 rfl (am_w32 (b2 + 1)) S14 x17 S16 hc18) ym_X4_at si_X6_37 im_X4_at se_X4_at sk_27 rfl ⟨Nat.le_of_ble_eq_true rfl, Nat.le_of_ble_eq_true rfl⟩ rfl rfl (Nat.le_of_ble_eq_true rfl) dX6_finish_88 ⟨Nat.le_refl _, Nat.le_refl _⟩ (fun hrv => av_eq (st2 := [am_I x17, am_I b2, am_R 27]) rfl rfl rfl rfl ?_))
      refine av_i2l (pc := 91) C dX6_finish_91 ?_
      obtain ⟨S19, hc20, hs⟩ := am_b1_of hs
      refine av_eq (st2 := [am_J x17, am_I b2, am_R 27]) rfl rfl rfl rfl (av_callV (pc := 92) (as := [am_I b2, am_J x17]) (rest := []) C (ct_X4_put l G 27 60 32 sk_27 sk_60 rfl b2 x17 S16 S19 hc20) ym_X4_put si_X6_33 im_X4_put se_X4_put sk_27 rfl ⟨Nat.le_of_ble_eq_true rfl, Nat.le_of_ble_eq_true rfl⟩ rfl rfl (Nat.le_of_ble_eq_true rfl) dX6_finish_92 ⟨Nat.le_refl _, Nat.le_refl _⟩ (fun hrv => av_eq (st2 := []) rfl rfl rfl rfl ?_))
      refine av_iinc (pc := 95) (j := 1) (lv2 := [(2, am_I (am_w32 (b2 + 1))), (0, am_R 4)]) C dX6_finish_95 rfl (by decide) rfl ?_
      refine av_goto (pc := 98) (tgt := 31) C dX6_finish_98 (by decide) ?_
      refine av_lvsub (lv2 := [(0, am_R 4), (2, am_I (am_w32 (b2 + 1)))]) [1, 0] rfl ?_
      exact ih (am_w32 (b2 + 1)) S19 SZ hs
set_option maxHeartbeats 4000000 in
set_option maxRecDepth 100000 in
theorem ct_X6_finish (l : Launch) (G : am_G) (a1 : Int) (S : am_S) (SZ : am_S) (hs : sf_X6_finish a1 S = some SZ) : am_met l yX6_finish cX6_finish 3 none 1 23 G [am_R 4, am_I a1] S none SZ := by
  refine am_enter ym_X6_finish (Nat.le_of_ble_eq_true rfl) ?_
  intro p e s m args below meth c C hr hlocks
  refine av_eq (lv2 := [(0, am_R 4), (1, am_I a1)]) rfl rfl rfl rfl ?_
  unfold sf_X6_finish at hs
  refine av_aload_n (pc := 0) (j := 0) C dX6_finish_0 rfl rfl ?_
  refine av_aload_n (pc := 1) (j := 0) C dX6_finish_1 rfl rfl ?_
  refine av_getI (pc := 2) (k := 4) (n := 260) C fl_X6_30 sk_4 rfl rfl dX6_finish_2 ?_
  refine av_aload_n (pc := 5) (j := 0) C dX6_finish_5 rfl rfl ?_
  refine av_getR (pc := 6) (k := 2) (r := 27) C fl_X6_23 sk_4 rfl dX6_finish_6 ?_
  refine av_iload_n (pc := 9) (j := 1) C dX6_finish_9 rfl rfl ?_
  obtain ⟨x2, S1, hc3, hs⟩ := am_b2_of hs
  refine av_eq (st2 := [am_I a1, am_R 27, am_I (S.1 260), am_R 4]) rfl rfl rfl rfl (av_callV (pc := 10) (as := [am_I a1]) (rest := [am_I (S.1 260), am_R 4]) C (ct_X4_at l G 27 60 32 sk_27 sk_60 rfl a1 S x2 S1 hc3) ym_X4_at si_X6_37 im_X4_at se_X4_at sk_27 rfl ⟨Nat.le_of_ble_eq_true rfl, Nat.le_of_ble_eq_true rfl⟩ rfl rfl (Nat.le_of_ble_eq_true rfl) dX6_finish_10 ⟨Nat.le_refl _, Nat.le_refl _⟩ (fun hrv => av_eq (st2 := [am_I x2, am_I (S.1 260), am_R 4]) rfl rfl rfl rfl ?_))
  refine av_mmax (pc := 13) C si_X6_45 st_M_max ini_M cod_M_max ⟨Nat.le_of_ble_eq_true rfl, Nat.le_of_ble_eq_true rfl⟩ (Nat.le_of_ble_eq_true rfl) dX6_finish_13 ⟨Nat.le_refl _, Nat.le_refl _⟩ ?_
  obtain ⟨S4, eS4, hs⟩ := am_let_of hs
  refine av_putI (pc := 16) (k := 4) (n := 260) C fp_X6_30 sk_4 rfl rfl dX6_finish_16 ?_
  refine av_eq rfl rfl rfl eS4 ?_
  refine av_aload_n (pc := 19) (j := 0) C dX6_finish_19 rfl rfl ?_
  refine av_dup (pc := 20) C dX6_finish_20 rfl ?_
  refine av_getI (pc := 21) (k := 3) (n := 259) C fl_X6_26 sk_4 rfl rfl dX6_finish_21 ?_
  refine av_iconst (pc := 24) C dX6_finish_24 rfl ?_
  refine av_isub (pc := 25) C dX6_finish_25 ?_
  obtain ⟨S5, eS5, hs⟩ := am_let_of hs
  refine av_putI (pc := 26) (k := 3) (n := 259) C fp_X6_26 sk_4 rfl rfl dX6_finish_26 ?_
  refine av_eq rfl rfl rfl eS5 ?_
  refine av_iload_n (pc := 29) (j := 1) C dX6_finish_29 rfl rfl ?_
  refine av_istore_n (pc := 30) (i := 2) (lv2 := [(2, am_I a1), (0, am_R 4), (1, am_I a1)]) C dX6_finish_30 rfl (by decide) rfl ?_
  refine av_lvsub (lv2 := [(0, am_R 4), (2, am_I a1)]) [1, 0] rfl ?_
  exact wk_X6_finish_31 C hr hlocks 1000 a1 S5 SZ hs
set_option maxHeartbeats 4000000 in
set_option maxRecDepth 100000 in
theorem ct_X7_clear (l : Launch) (G : am_G) (S : am_S) (SZ : am_S) (hs : sf_X7_clear  S = some SZ) : am_met l yX7_clear cX7_clear 1 none 1 23 G [am_R 2] S none SZ := by
  refine am_enter ym_X7_clear (Nat.le_of_ble_eq_true rfl) ?_
  intro p e s m args below meth c C hr hlocks
  refine av_eq (lv2 := [(0, am_R 2)]) rfl rfl rfl rfl ?_
  unfold sf_X7_clear at hs
  refine av_aload_n (pc := 0) (j := 0) C dX7_clear_0 rfl rfl ?_
  refine av_getR (pc := 1) (k := 0) (r := 19) C fl_X7_14 sk_2 rfl dX7_clear_1 ?_
  refine av_ldc2 (pc := 4) C co_X7_29 (by unfold am_r64; omega) dX7_clear_4 ?_
  obtain ⟨S1, hc2, hs⟩ := am_b1_of hs
  refine av_eq (st2 := [am_J 3, am_R 19]) rfl rfl rfl rfl (av_callV (pc := 7) (as := [am_J 3]) (rest := []) C (ct_X4_fill l G 19 52 4 sk_19 sk_52 rfl 3 S S1 hc2) ym_X4_fill si_X7_31 im_X4_fill se_X4_fill sk_19 rfl ⟨Nat.le_of_ble_eq_true rfl, Nat.le_of_ble_eq_true rfl⟩ rfl rfl (Nat.le_of_ble_eq_true rfl) dX7_clear_7 ⟨Nat.le_refl _, Nat.le_refl _⟩ (fun hrv => av_eq (st2 := []) rfl rfl rfl rfl ?_))
  obtain rfl := am_inj1 hs
  exact av_vret C hr hlocks dX7_clear_10
set_option maxHeartbeats 4000000 in
set_option maxRecDepth 100000 in
theorem ct_X7_change (l : Launch) (G : am_G) (a1 : Int) (a2 : Int) (a3 : Int) (a4 : Int) (S : am_S) (SZ : am_S) (hs : sf_X7_change a1 a2 a3 a4 S = some SZ) : am_met l yX7_change cX7_change 7 none 1 23 G [am_R 2, am_I a1, am_I a2, am_J a3, am_J a4] S none SZ := by
  refine am_enter ym_X7_change (Nat.le_of_ble_eq_true rfl) ?_
  intro p e s m args below meth c C hr hlocks
  refine av_eq (lv2 := [(0, am_R 2), (1, am_I a1), (2, am_I a2), (3, am_J a3), (5, am_J a4)]) rfl rfl rfl rfl ?_
  unfold sf_X7_change at hs
  refine av_aload_n (pc := 0) (j := 0) C dX7_change_0 rfl rfl ?_
  refine av_getR (pc := 1) (k := 0) (r := 19) C fl_X7_14 sk_2 rfl dX7_change_1 ?_
  refine av_iload_n (pc := 4) (j := 1) C dX7_change_4 rfl rfl ?_
  refine av_iload_n (pc := 5) (j := 2) C dX7_change_5 rfl rfl ?_
  refine av_i2l (pc := 6) C dX7_change_6 ?_
  obtain ⟨S1, hc2, hs⟩ := am_b1_of hs
  refine av_eq (st2 := [am_J a2, am_I a1, am_R 19]) rfl rfl rfl rfl (av_callV (pc := 7) (as := [am_I a1, am_J a2]) (rest := []) C (ct_X4_put l G 19 52 4 sk_19 sk_52 rfl a1 a2 S S1 hc2) ym_X4_put si_X7_35 im_X4_put se_X4_put sk_19 rfl ⟨Nat.le_of_ble_eq_true rfl, Nat.le_of_ble_eq_true rfl⟩ rfl rfl (Nat.le_of_ble_eq_true rfl) dX7_change_7 ⟨Nat.le_refl _, Nat.le_refl _⟩ (fun hrv => av_eq (st2 := []) rfl rfl rfl rfl ?_))
  refine av_aload_n (pc := 10) (j := 0) C dX7_change_10 rfl rfl ?_
  refine av_getR (pc := 11) (k := 1) (r := 20) C fl_X7_20 sk_2 rfl dX7_change_11 ?_
  refine av_iload_n (pc := 14) (j := 1) C dX7_change_14 rfl rfl ?_
  refine av_lload_n (pc := 15) (j := 3) C dX7_change_15 rfl rfl ?_
  obtain ⟨S3, hc4, hs⟩ := am_b1_of hs
  refine av_eq (st2 := [am_J a3, am_I a1, am_R 20]) rfl rfl rfl rfl (av_callV (pc := 16) (as := [am_I a1, am_J a3]) (rest := []) C (ct_X4_put l G 20 53 4 sk_20 sk_53 rfl a1 a3 S1 S3 hc4) ym_X4_put si_X7_35 im_X4_put se_X4_put sk_20 rfl ⟨Nat.le_of_ble_eq_true rfl, Nat.le_of_ble_eq_true rfl⟩ rfl rfl (Nat.le_of_ble_eq_true rfl) dX7_change_16 ⟨Nat.le_refl _, Nat.le_refl _⟩ (fun hrv => av_eq (st2 := []) rfl rfl rfl rfl ?_))
  refine av_aload_n (pc := 19) (j := 0) C dX7_change_19 rfl rfl ?_
  refine av_getR (pc := 20) (k := 2) (r := 21) C fl_X7_23 sk_2 rfl dX7_change_20 ?_
  refine av_iload_n (pc := 23) (j := 1) C dX7_change_23 rfl rfl ?_
  refine av_lload (pc := 24) (j := 4) C dX7_change_24 rfl ?_
  obtain ⟨S5, hc6, hs⟩ := am_b1_of hs
  refine av_eq (st2 := [am_J a4, am_I a1, am_R 21]) rfl rfl rfl rfl (av_callV (pc := 26) (as := [am_I a1, am_J a4]) (rest := []) C (ct_X4_put l G 21 54 4 sk_21 sk_54 rfl a1 a4 S3 S5 hc6) ym_X4_put si_X7_35 im_X4_put se_X4_put sk_21 rfl ⟨Nat.le_of_ble_eq_true rfl, Nat.le_of_ble_eq_true rfl⟩ rfl rfl (Nat.le_of_ble_eq_true rfl) dX7_change_26 ⟨Nat.le_refl _, Nat.le_refl _⟩ (fun hrv => av_eq (st2 := []) rfl rfl rfl rfl ?_))
  obtain rfl := am_inj1 hs
  exact av_vret C hr hlocks dX7_change_29
set_option maxHeartbeats 4000000 in
set_option maxRecDepth 100000 in
theorem ct_X7_kindOf (l : Launch) (G : am_G) (a1 : Int) (S : am_S) (x : Int) (SZ : am_S) (hs : sf_X7_kindOf a1 S = some (x, SZ)) : am_met l yX7_kindOf cX7_kindOf 2 (some .int) 1 21 G [am_R 2, am_I a1] S (some (am_I x)) SZ := by
  refine am_enter ym_X7_kindOf (Nat.le_of_ble_eq_true rfl) ?_
  intro p e s m args below meth c C hr hlocks
  refine av_eq (lv2 := [(0, am_R 2), (1, am_I a1)]) rfl rfl rfl rfl ?_
  unfold sf_X7_kindOf at hs
  refine av_aload_n (pc := 0) (j := 0) C dX7_kindOf_0 rfl rfl ?_
  refine av_getR (pc := 1) (k := 0) (r := 19) C fl_X7_14 sk_2 rfl dX7_kindOf_1 ?_
  refine av_iload_n (pc := 4) (j := 1) C dX7_kindOf_4 rfl rfl ?_
  obtain ⟨x2, S1, hc3, hs⟩ := am_b2_of hs
  refine av_eq (st2 := [am_I a1, am_R 19]) rfl rfl rfl rfl (av_callV (pc := 5) (as := [am_I a1]) (rest := []) C (ct_X4_at l G 19 52 4 sk_19 sk_52 rfl a1 S x2 S1 hc3) ym_X4_at si_X7_39 im_X4_at se_X4_at sk_19 rfl ⟨Nat.le_of_ble_eq_true rfl, Nat.le_of_ble_eq_true rfl⟩ rfl rfl (Nat.le_of_ble_eq_true rfl) dX7_kindOf_5 ⟨Nat.le_refl _, Nat.le_refl _⟩ (fun hrv => av_eq (st2 := [am_I x2]) rfl rfl rfl rfl ?_))
  obtain ⟨rfl, rfl⟩ := am_inj2 hs
  exact av_iret C hr hlocks dX7_kindOf_8
set_option maxHeartbeats 4000000 in
set_option maxRecDepth 100000 in
theorem ct_X7_uOf (l : Launch) (G : am_G) (a1 : Int) (S : am_S) (x : Int) (SZ : am_S) (hs : sf_X7_uOf a1 S = some (x, SZ)) : am_met l yX7_uOf cX7_uOf 2 (some .long) 1 21 G [am_R 2, am_I a1] S (some (am_J x)) SZ := by
  refine am_enter ym_X7_uOf (Nat.le_of_ble_eq_true rfl) ?_
  intro p e s m args below meth c C hr hlocks
  refine av_eq (lv2 := [(0, am_R 2), (1, am_I a1)]) rfl rfl rfl rfl ?_
  unfold sf_X7_uOf at hs
  refine av_aload_n (pc := 0) (j := 0) C dX7_uOf_0 rfl rfl ?_
  refine av_getR (pc := 1) (k := 1) (r := 20) C fl_X7_20 sk_2 rfl dX7_uOf_1 ?_
  refine av_iload_n (pc := 4) (j := 1) C dX7_uOf_4 rfl rfl ?_
  obtain ⟨x2, S1, hc3, hs⟩ := am_b2_of hs
  refine av_eq (st2 := [am_I a1, am_R 20]) rfl rfl rfl rfl (av_callV (pc := 5) (as := [am_I a1]) (rest := []) C (ct_X4_valueAt l G 20 53 4 sk_20 sk_53 rfl a1 S x2 S1 hc3) ym_X4_valueAt si_X7_43 im_X4_valueAt se_X4_valueAt sk_20 rfl ⟨Nat.le_of_ble_eq_true rfl, Nat.le_of_ble_eq_true rfl⟩ rfl rfl (Nat.le_of_ble_eq_true rfl) dX7_uOf_5 ⟨Nat.le_refl _, Nat.le_refl _⟩ (fun hrv => av_eq (st2 := [am_J x2]) rfl rfl rfl rfl ?_))
  obtain ⟨rfl, rfl⟩ := am_inj2 hs
  exact av_lret C hr hlocks dX7_uOf_8
set_option maxHeartbeats 4000000 in
set_option maxRecDepth 100000 in
theorem ct_X7_wOf (l : Launch) (G : am_G) (a1 : Int) (S : am_S) (x : Int) (SZ : am_S) (hs : sf_X7_wOf a1 S = some (x, SZ)) : am_met l yX7_wOf cX7_wOf 2 (some .long) 1 21 G [am_R 2, am_I a1] S (some (am_J x)) SZ := by
  refine am_enter ym_X7_wOf (Nat.le_of_ble_eq_true rfl) ?_
  intro p e s m args below meth c C hr hlocks
  refine av_eq (lv2 := [(0, am_R 2), (1, am_I a1)]) rfl rfl rfl rfl ?_
  unfold sf_X7_wOf at hs
  refine av_aload_n (pc := 0) (j := 0) C dX7_wOf_0 rfl rfl ?_
  refine av_getR (pc := 1) (k := 2) (r := 21) C fl_X7_23 sk_2 rfl dX7_wOf_1 ?_
  refine av_iload_n (pc := 4) (j := 1) C dX7_wOf_4 rfl rfl ?_
  obtain ⟨x2, S1, hc3, hs⟩ := am_b2_of hs
  refine av_eq (st2 := [am_I a1, am_R 21]) rfl rfl rfl rfl (av_callV (pc := 5) (as := [am_I a1]) (rest := []) C (ct_X4_valueAt l G 21 54 4 sk_21 sk_54 rfl a1 S x2 S1 hc3) ym_X4_valueAt si_X7_43 im_X4_valueAt se_X4_valueAt sk_21 rfl ⟨Nat.le_of_ble_eq_true rfl, Nat.le_of_ble_eq_true rfl⟩ rfl rfl (Nat.le_of_ble_eq_true rfl) dX7_wOf_5 ⟨Nat.le_refl _, Nat.le_refl _⟩ (fun hrv => av_eq (st2 := [am_J x2]) rfl rfl rfl rfl ?_))
  obtain ⟨rfl, rfl⟩ := am_inj2 hs
  exact av_lret C hr hlocks dX7_wOf_8
set_option maxHeartbeats 4000000 in
set_option maxRecDepth 100000 in
theorem ct_X9_promise (l : Launch) (G : am_G) (S : am_S) (x : Int) (SZ : am_S) (hs : sf_X9_promise  S = some (x, SZ)) : am_met l yX9_promise cX9_promise 1 (some .int) 2 44 G [am_R 0] S (some (am_I x)) SZ := by
  refine am_enter ym_X9_promise (Nat.le_of_ble_eq_true rfl) ?_
  intro p e s m args below meth c C hr hlocks
  refine av_eq (lv2 := [(0, am_R 0)]) rfl rfl rfl rfl ?_
  unfold sf_X9_promise at hs
  refine av_aload_n (pc := 0) (j := 0) C dX9_promise_0 rfl rfl ?_
  refine av_getR (pc := 1) (k := 0) (r := 1) C fl_X9_12 sk_0 rfl dX9_promise_1 ?_
  obtain ⟨x2, S1, hc3, hs⟩ := am_b2_of hs
  refine av_eq (st2 := [am_R 1]) rfl rfl rfl rfl (av_callV (pc := 4) (as := []) (rest := []) C (ct_X3_isFull l G  S x2 S1 hc3) ym_X3_isFull si_X9_62 im_X3_isFull se_X3_isFull sk_1 rfl ⟨Nat.le_of_ble_eq_true rfl, Nat.le_of_ble_eq_true rfl⟩ rfl rfl (Nat.le_of_ble_eq_true rfl) dX9_promise_4 ⟨Nat.le_refl _, Nat.le_refl _⟩ (fun hrv => av_eq (st2 := [am_I x2]) rfl rfl rfl rfl ?_))
  refine av_if_eq (pc := 7) (tgt := 15) C dX9_promise_7 (by decide) (fun hc => ?_) (fun hc => ?_)
  · rw [if_pos hc] at hs
    refine av_aload_n (pc := 15) (j := 0) C dX9_promise_15 rfl rfl ?_
    refine av_getR (pc := 16) (k := 0) (r := 1) C fl_X9_12 sk_0 rfl dX9_promise_16 ?_
    obtain ⟨x5, S4, hc6, hs⟩ := am_b2_of hs
    refine av_eq (st2 := [am_R 1]) rfl rfl rfl rfl (av_callV (pc := 19) (as := []) (rest := []) C (ct_X3_make l G  S1 x5 S4 hc6) ym_X3_make si_X9_66 im_X3_make se_X3_make sk_1 rfl ⟨Nat.le_of_ble_eq_true rfl, Nat.le_of_ble_eq_true rfl⟩ rfl rfl (Nat.le_of_ble_eq_true rfl) dX9_promise_19 ⟨Nat.le_refl _, Nat.le_refl _⟩ (fun hrv => av_eq (st2 := [am_I x5]) rfl rfl rfl rfl ?_))
    obtain ⟨rfl, rfl⟩ := am_inj2 hs
    exact av_iret C hr hlocks dX9_promise_22
  · rw [if_neg hc] at hs
    refine av_bipush (pc := 10) C dX9_promise_10 rfl ?_
    refine av_goto (pc := 12) (tgt := 22) C dX9_promise_12 (by decide) ?_
    obtain ⟨rfl, rfl⟩ := am_inj2 hs
    exact av_iret C hr hlocks dX9_promise_22
set_option maxHeartbeats 4000000 in
set_option maxRecDepth 100000 in
theorem ct_X9_isValue (l : Launch) (G : am_G) (a1 : Int) (a2 : Int) (S : am_S) (x : Int) (SZ : am_S) (hs : sf_X9_isValue a1 a2 S = some (x, SZ)) : am_met l yX9_isValue cX9_isValue 3 (some .boolean) 2 43 G [am_R 0, am_I a1, am_I a2] S (some (am_I x)) SZ := by
  refine am_enter ym_X9_isValue (Nat.le_of_ble_eq_true rfl) ?_
  intro p e s m args below meth c C hr hlocks
  refine av_eq (lv2 := [(0, am_R 0), (1, am_I a1), (2, am_I a2)]) rfl rfl rfl rfl ?_
  unfold sf_X9_isValue at hs
  refine av_iload_n (pc := 0) (j := 1) C dX9_isValue_0 rfl rfl ?_
  refine av_iload_n (pc := 1) (j := 2) C dX9_isValue_1 rfl rfl ?_
  refine av_aload_n (pc := 2) (j := 0) C dX9_isValue_2 rfl rfl ?_
  refine av_getR (pc := 3) (k := 0) (r := 1) C fl_X9_12 sk_0 rfl dX9_isValue_3 ?_
  obtain ⟨x2, S1, hc3, hs⟩ := am_b2_of hs
  refine av_eq (st2 := [am_R 1, am_I a2, am_I a1]) rfl rfl rfl rfl (av_callV (pc := 6) (as := []) (rest := [am_I a2, am_I a1]) C (ct_X3_made l G  S x2 S1 hc3) ym_X3_made si_X9_167 im_X3_made se_X3_made sk_1 rfl ⟨Nat.le_of_ble_eq_true rfl, Nat.le_of_ble_eq_true rfl⟩ rfl rfl (Nat.le_of_ble_eq_true rfl) dX9_isValue_6 ⟨Nat.le_refl _, Nat.le_refl _⟩ (fun hrv => av_eq (st2 := [am_I x2, am_I a2, am_I a1]) rfl rfl rfl rfl ?_))
  obtain ⟨x5, S4, hc6, hs⟩ := am_b2_of hs
  refine av_eq (st2 := [am_I x2, am_I a2, am_I a1]) rfl rfl rfl rfl (av_callS (pc := 9) (as := [am_I a1, am_I a2, am_I x2]) (rest := []) C (ct_X8_exists l G a1 a2 x2 S1 x5 S4 hc6) ym_X8_exists si_X9_284 st_X8_exists ⟨Nat.le_of_ble_eq_true rfl, Nat.le_of_ble_eq_true rfl⟩ rfl rfl (Nat.le_of_ble_eq_true rfl) dX9_isValue_9 ⟨Nat.le_refl _, Nat.le_refl _⟩ (fun hrv => av_eq (st2 := [am_I x5]) rfl rfl rfl rfl ?_))
  obtain ⟨hz, hs⟩ := am_gz_of hs
  obtain ⟨rfl, rfl⟩ := am_inj2 hs
  exact av_zret C hz hr hlocks dX9_isValue_12
set_option maxHeartbeats 4000000 in
set_option maxRecDepth 100000 in
theorem ct_X9_settleFromOutside (l : Launch) (G : am_G) (a1 : Int) (a2 : Int) (a3 : Int) (a4 : Int) (S : am_S) (x : Int) (SZ : am_S) (hs : sf_X9_settleFromOutside a1 a2 a3 a4 S = some (x, SZ)) : am_met l yX9_settleFromOutside cX9_settleFromOutside 5 (some .boolean) 3 73 G [am_R 0, am_I a1, am_I a2, am_I a3, am_I a4] S (some (am_I x)) SZ := by
  refine am_enter ym_X9_settleFromOutside (Nat.le_of_ble_eq_true rfl) ?_
  intro p e s m args below meth c C hr hlocks
  refine av_eq (lv2 := [(0, am_R 0), (1, am_I a1), (2, am_I a2), (3, am_I a3), (4, am_I a4)]) rfl rfl rfl rfl ?_
  unfold sf_X9_settleFromOutside at hs
  refine av_aload_n (pc := 0) (j := 0) C dX9_settleFromOutside_0 rfl rfl ?_
  refine av_getR (pc := 1) (k := 0) (r := 1) C fl_X9_12 sk_0 rfl dX9_settleFromOutside_1 ?_
  refine av_iload_n (pc := 4) (j := 1) C dX9_settleFromOutside_4 rfl rfl ?_
  obtain ⟨x2, S1, hc3, hs⟩ := am_b2_of hs
  refine av_eq (st2 := [am_I a1, am_R 1]) rfl rfl rfl rfl (av_callV (pc := 5) (as := [am_I a1]) (rest := []) C (ct_X3_has l G a1 S x2 S1 hc3) ym_X3_has si_X9_74 im_X3_has se_X3_has sk_1 rfl ⟨Nat.le_of_ble_eq_true rfl, Nat.le_of_ble_eq_true rfl⟩ rfl rfl (Nat.le_of_ble_eq_true rfl) dX9_settleFromOutside_5 ⟨Nat.le_refl _, Nat.le_refl _⟩ (fun hrv => av_eq (st2 := [am_I x2]) rfl rfl rfl rfl ?_))
  refine av_if_eq (pc := 8) (tgt := 21) C dX9_settleFromOutside_8 (by decide) (fun hc => ?_) (fun hc => ?_)
  · rw [if_pos hc] at hs
    refine av_iconst (pc := 21) C dX9_settleFromOutside_21 rfl ?_
    obtain ⟨rfl, rfl⟩ := am_inj2 hs
    exact av_zret C (by decide) hr hlocks dX9_settleFromOutside_22
  · rw [if_neg hc] at hs
    refine av_aload_n (pc := 11) (j := 0) C dX9_settleFromOutside_11 rfl rfl ?_
    refine av_iload_n (pc := 12) (j := 3) C dX9_settleFromOutside_12 rfl rfl ?_
    refine av_iload (pc := 13) (j := 4) C dX9_settleFromOutside_13 rfl ?_
    obtain ⟨x5, S4, hc6, hs⟩ := am_b2_of hs
    refine av_eq (st2 := [am_I a4, am_I a3, am_R 0]) rfl rfl rfl rfl (av_callV (pc := 15) (as := [am_I a3, am_I a4]) (rest := []) C (ct_X9_isValue l G a3 a4 S1 x5 S4 hc6) ym_X9_isValue si_X9_78 im_X9_isValue se_X9_isValue sk_0 rfl ⟨Nat.le_of_ble_eq_true rfl, Nat.le_of_ble_eq_true rfl⟩ rfl rfl (Nat.le_of_ble_eq_true rfl) dX9_settleFromOutside_15 ⟨Nat.le_refl _, Nat.le_refl _⟩ (fun hrv => av_eq (st2 := [am_I x5]) rfl rfl rfl rfl ?_))
    refine av_if_ne (pc := 18) (tgt := 23) C dX9_settleFromOutside_18 (by decide) (fun hc => ?_) (fun hc => ?_)
    · rw [if_neg hc] at hs
      refine av_aload_n (pc := 23) (j := 0) C dX9_settleFromOutside_23 rfl rfl ?_
      refine av_getR (pc := 24) (k := 0) (r := 1) C fl_X9_12 sk_0 rfl dX9_settleFromOutside_24 ?_
      refine av_iload_n (pc := 27) (j := 1) C dX9_settleFromOutside_27 rfl rfl ?_
      refine av_iload_n (pc := 28) (j := 2) C dX9_settleFromOutside_28 rfl rfl ?_
      refine av_iload_n (pc := 29) (j := 3) C dX9_settleFromOutside_29 rfl rfl ?_
      refine av_iload (pc := 30) (j := 4) C dX9_settleFromOutside_30 rfl ?_
      obtain ⟨x8, S7, hc9, hs⟩ := am_b2_of hs
      refine av_eq (st2 := [am_I a4, am_I a3, am_I a2, am_I a1, am_R 1]) rfl rfl rfl rfl (av_callS (pc := 32) (as := [am_I a3, am_I a4]) (rest := [am_I a2, am_I a1, am_R 1]) C (ct_X8_of l G a3 a4 S4 x8 S7 hc9) ym_X8_of si_X9_82 st_X8_of ⟨Nat.le_of_ble_eq_true rfl, Nat.le_of_ble_eq_true rfl⟩ rfl rfl (Nat.le_of_ble_eq_true rfl) dX9_settleFromOutside_32 ⟨Nat.le_refl _, Nat.le_refl _⟩ (fun hrv => av_eq (st2 := [am_J x8, am_I a2, am_I a1, am_R 1]) rfl rfl rfl rfl ?_))
      refine av_iconst (pc := 35) C dX9_settleFromOutside_35 rfl ?_
      obtain ⟨S10, hc11, hs⟩ := am_b1_of hs
      refine av_eq (st2 := [am_I 0, am_J x8, am_I a2, am_I a1, am_R 1]) rfl rfl rfl rfl (av_callV (pc := 36) (as := [am_I a1, am_I a2, am_J x8, am_I 0]) (rest := []) C (ct_X3_settleBy l G a1 a2 x8 0 S7 S10 hc11) ym_X3_settleBy si_X9_88 im_X3_settleBy se_X3_settleBy sk_1 rfl ⟨Nat.le_of_ble_eq_true rfl, Nat.le_of_ble_eq_true rfl⟩ rfl rfl (Nat.le_of_ble_eq_true rfl) dX9_settleFromOutside_36 ⟨Nat.le_refl _, Nat.le_refl _⟩ (fun hrv => av_eq (st2 := []) rfl rfl rfl rfl ?_))
      refine av_iconst (pc := 39) C dX9_settleFromOutside_39 rfl ?_
      obtain ⟨rfl, rfl⟩ := am_inj2 hs
      exact av_zret C (by decide) hr hlocks dX9_settleFromOutside_40
    · rw [if_pos (Decidable.not_not.mp hc)] at hs
      refine av_iconst (pc := 21) C dX9_settleFromOutside_21 rfl ?_
      obtain ⟨rfl, rfl⟩ := am_inj2 hs
      exact av_zret C (by decide) hr hlocks dX9_settleFromOutside_22
set_option maxHeartbeats 4000000 in
set_option maxRecDepth 100000 in
theorem ct_X9_resolve (l : Launch) (G : am_G) (a1 : Int) (a2 : Int) (a3 : Int) (S : am_S) (x : Int) (SZ : am_S) (hs : sf_X9_resolve a1 a2 a3 S = some (x, SZ)) : am_met l yX9_resolve cX9_resolve 4 (some .boolean) 4 97 G [am_R 0, am_I a1, am_I a2, am_I a3] S (some (am_I x)) SZ := by
  refine am_enter ym_X9_resolve (Nat.le_of_ble_eq_true rfl) ?_
  intro p e s m args below meth c C hr hlocks
  refine av_eq (lv2 := [(0, am_R 0), (1, am_I a1), (2, am_I a2), (3, am_I a3)]) rfl rfl rfl rfl ?_
  unfold sf_X9_resolve at hs
  refine av_aload_n (pc := 0) (j := 0) C dX9_resolve_0 rfl rfl ?_
  refine av_iload_n (pc := 1) (j := 1) C dX9_resolve_1 rfl rfl ?_
  refine av_iconst (pc := 2) C dX9_resolve_2 rfl ?_
  refine av_iload_n (pc := 3) (j := 2) C dX9_resolve_3 rfl rfl ?_
  refine av_iload_n (pc := 4) (j := 3) C dX9_resolve_4 rfl rfl ?_
  obtain ⟨x2, S1, hc3, hs⟩ := am_b2_of hs
  refine av_eq (st2 := [am_I a3, am_I a2, am_I 1, am_I a1, am_R 0]) rfl rfl rfl rfl (av_callV (pc := 5) (as := [am_I a1, am_I 1, am_I a2, am_I a3]) (rest := []) C (ct_X9_settleFromOutside l G a1 1 a2 a3 S x2 S1 hc3) ym_X9_settleFromOutside si_X9_70 im_X9_settleFromOutside se_X9_settleFromOutside sk_0 rfl ⟨Nat.le_of_ble_eq_true rfl, Nat.le_of_ble_eq_true rfl⟩ rfl rfl (Nat.le_of_ble_eq_true rfl) dX9_resolve_5 ⟨Nat.le_refl _, Nat.le_refl _⟩ (fun hrv => av_eq (st2 := [am_I x2]) rfl rfl rfl rfl ?_))
  obtain ⟨hz, hs⟩ := am_gz_of hs
  obtain ⟨rfl, rfl⟩ := am_inj2 hs
  exact av_zret C hz hr hlocks dX9_resolve_8
set_option maxHeartbeats 4000000 in
set_option maxRecDepth 100000 in
theorem ct_X9_reject (l : Launch) (G : am_G) (a1 : Int) (a2 : Int) (a3 : Int) (S : am_S) (x : Int) (SZ : am_S) (hs : sf_X9_reject a1 a2 a3 S = some (x, SZ)) : am_met l yX9_reject cX9_reject 4 (some .boolean) 4 97 G [am_R 0, am_I a1, am_I a2, am_I a3] S (some (am_I x)) SZ := by
  refine am_enter ym_X9_reject (Nat.le_of_ble_eq_true rfl) ?_
  intro p e s m args below meth c C hr hlocks
  refine av_eq (lv2 := [(0, am_R 0), (1, am_I a1), (2, am_I a2), (3, am_I a3)]) rfl rfl rfl rfl ?_
  unfold sf_X9_reject at hs
  refine av_aload_n (pc := 0) (j := 0) C dX9_reject_0 rfl rfl ?_
  refine av_iload_n (pc := 1) (j := 1) C dX9_reject_1 rfl rfl ?_
  refine av_iconst (pc := 2) C dX9_reject_2 rfl ?_
  refine av_iload_n (pc := 3) (j := 2) C dX9_reject_3 rfl rfl ?_
  refine av_iload_n (pc := 4) (j := 3) C dX9_reject_4 rfl rfl ?_
  obtain ⟨x2, S1, hc3, hs⟩ := am_b2_of hs
  refine av_eq (st2 := [am_I a3, am_I a2, am_I 2, am_I a1, am_R 0]) rfl rfl rfl rfl (av_callV (pc := 5) (as := [am_I a1, am_I 2, am_I a2, am_I a3]) (rest := []) C (ct_X9_settleFromOutside l G a1 2 a2 a3 S x2 S1 hc3) ym_X9_settleFromOutside si_X9_70 im_X9_settleFromOutside se_X9_settleFromOutside sk_0 rfl ⟨Nat.le_of_ble_eq_true rfl, Nat.le_of_ble_eq_true rfl⟩ rfl rfl (Nat.le_of_ble_eq_true rfl) dX9_reject_5 ⟨Nat.le_refl _, Nat.le_refl _⟩ (fun hrv => av_eq (st2 := [am_I x2]) rfl rfl rfl rfl ?_))
  obtain ⟨hz, hs⟩ := am_gz_of hs
  obtain ⟨rfl, rfl⟩ := am_inj2 hs
  exact av_zret C hz hr hlocks dX9_reject_8
set_option maxHeartbeats 4000000 in
set_option maxRecDepth 100000 in
theorem ct_X9_isHandler (l : Launch) (G : am_G) (a1 : Int) (S : am_S) (x : Int) (SZ : am_S) (hs : sf_X9_isHandler a1 S = some (x, SZ)) : am_met l yX9_isHandler cX9_isHandler 1 (some .boolean) 2 41 G [am_I a1] S (some (am_I x)) SZ := by
  refine am_enter ym_X9_isHandler (Nat.le_of_ble_eq_true rfl) ?_
  intro p e s m args below meth c C hr hlocks
  refine av_eq (lv2 := [(0, am_I a1)]) rfl rfl rfl rfl ?_
  unfold sf_X9_isHandler at hs
  refine av_iload_n (pc := 0) (j := 0) C dX9_isHandler_0 rfl rfl ?_
  refine av_iconst (pc := 1) C dX9_isHandler_1 rfl ?_
  refine av_icmp_eq (pc := 2) (tgt := 12) C dX9_isHandler_2 (by decide) (fun hc => ?_) (fun hc => ?_)
  · rw [if_pos hc] at hs
    refine av_iconst (pc := 12) C dX9_isHandler_12 rfl ?_
    refine av_goto (pc := 13) (tgt := 17) C dX9_isHandler_13 (by decide) ?_
    obtain ⟨rfl, rfl⟩ := am_inj2 hs
    exact av_zret C (by decide) hr hlocks dX9_isHandler_17
  · rw [if_neg hc] at hs
    refine av_iload_n (pc := 5) (j := 0) C dX9_isHandler_5 rfl rfl ?_
    obtain ⟨x2, S1, hc3, hs⟩ := am_b2_of hs
    refine av_eq (st2 := [am_I a1]) rfl rfl rfl rfl (av_callS (pc := 6) (as := [am_I a1]) (rest := []) C (ct_X9_isFunction l G a1 S x2 S1 hc3) ym_X9_isFunction si_X9_106 st_X9_isFunction ⟨Nat.le_of_ble_eq_true rfl, Nat.le_of_ble_eq_true rfl⟩ rfl rfl (Nat.le_of_ble_eq_true rfl) dX9_isHandler_6 ⟨Nat.le_refl _, Nat.le_refl _⟩ (fun hrv => av_eq (st2 := [am_I x2]) rfl rfl rfl rfl ?_))
    refine av_if_eq (pc := 9) (tgt := 16) C dX9_isHandler_9 (by decide) (fun hc => ?_) (fun hc => ?_)
    · rw [if_pos hc] at hs
      refine av_iconst (pc := 16) C dX9_isHandler_16 rfl ?_
      obtain ⟨rfl, rfl⟩ := am_inj2 hs
      exact av_zret C (by decide) hr hlocks dX9_isHandler_17
    · rw [if_neg hc] at hs
      refine av_iconst (pc := 12) C dX9_isHandler_12 rfl ?_
      refine av_goto (pc := 13) (tgt := 17) C dX9_isHandler_13 (by decide) ?_
      obtain ⟨rfl, rfl⟩ := am_inj2 hs
      exact av_zret C (by decide) hr hlocks dX9_isHandler_17
set_option maxHeartbeats 4000000 in
set_option maxRecDepth 100000 in
theorem ct_X9_then (l : Launch) (G : am_G) (a1 : Int) (a2 : Int) (a3 : Int) (S : am_S) (x : Int) (SZ : am_S) (hs : sf_X9_then a1 a2 a3 S = some (x, SZ)) : am_met l yX9_then cX9_then 4 (some .int) 4 93 G [am_R 0, am_I a1, am_I a2, am_I a3] S (some (am_I x)) SZ := by
  refine am_enter ym_X9_then (Nat.le_of_ble_eq_true rfl) ?_
  intro p e s m args below meth c C hr hlocks
  refine av_eq (lv2 := [(0, am_R 0), (1, am_I a1), (2, am_I a2), (3, am_I a3)]) rfl rfl rfl rfl ?_
  unfold sf_X9_then at hs
  refine av_aload_n (pc := 0) (j := 0) C dX9_then_0 rfl rfl ?_
  refine av_getR (pc := 1) (k := 0) (r := 1) C fl_X9_12 sk_0 rfl dX9_then_1 ?_
  refine av_iload_n (pc := 4) (j := 1) C dX9_then_4 rfl rfl ?_
  obtain ⟨x2, S1, hc3, hs⟩ := am_b2_of hs
  refine av_eq (st2 := [am_I a1, am_R 1]) rfl rfl rfl rfl (av_callV (pc := 5) (as := [am_I a1]) (rest := []) C (ct_X3_has l G a1 S x2 S1 hc3) ym_X3_has si_X9_74 im_X3_has se_X3_has sk_1 rfl ⟨Nat.le_of_ble_eq_true rfl, Nat.le_of_ble_eq_true rfl⟩ rfl rfl (Nat.le_of_ble_eq_true rfl) dX9_then_5 ⟨Nat.le_refl _, Nat.le_refl _⟩ (fun hrv => av_eq (st2 := [am_I x2]) rfl rfl rfl rfl ?_))
  refine av_if_eq (pc := 8) (tgt := 25) C dX9_then_8 (by decide) (fun hc => ?_) (fun hc => ?_)
  · rw [if_pos hc] at hs
    refine av_iconst (pc := 25) C dX9_then_25 rfl ?_
    obtain ⟨rfl, rfl⟩ := am_inj2 hs
    exact av_iret C hr hlocks dX9_then_26
  · rw [if_neg hc] at hs
    refine av_iload_n (pc := 11) (j := 2) C dX9_then_11 rfl rfl ?_
    obtain ⟨x5, S4, hc6, hs⟩ := am_b2_of hs
    refine av_eq (st2 := [am_I a2]) rfl rfl rfl rfl (av_callS (pc := 12) (as := [am_I a2]) (rest := []) C (ct_X9_isHandler l G a2 S1 x5 S4 hc6) ym_X9_isHandler si_X9_92 st_X9_isHandler ⟨Nat.le_of_ble_eq_true rfl, Nat.le_of_ble_eq_true rfl⟩ rfl rfl (Nat.le_of_ble_eq_true rfl) dX9_then_12 ⟨Nat.le_refl _, Nat.le_refl _⟩ (fun hrv => av_eq (st2 := [am_I x5]) rfl rfl rfl rfl ?_))
    refine av_if_eq (pc := 15) (tgt := 25) C dX9_then_15 (by decide) (fun hc => ?_) (fun hc => ?_)
    · rw [if_pos hc] at hs
      refine av_iconst (pc := 25) C dX9_then_25 rfl ?_
      obtain ⟨rfl, rfl⟩ := am_inj2 hs
      exact av_iret C hr hlocks dX9_then_26
    · rw [if_neg hc] at hs
      refine av_iload_n (pc := 18) (j := 3) C dX9_then_18 rfl rfl ?_
      obtain ⟨x8, S7, hc9, hs⟩ := am_b2_of hs
      refine av_eq (st2 := [am_I a3]) rfl rfl rfl rfl (av_callS (pc := 19) (as := [am_I a3]) (rest := []) C (ct_X9_isHandler l G a3 S4 x8 S7 hc9) ym_X9_isHandler si_X9_92 st_X9_isHandler ⟨Nat.le_of_ble_eq_true rfl, Nat.le_of_ble_eq_true rfl⟩ rfl rfl (Nat.le_of_ble_eq_true rfl) dX9_then_19 ⟨Nat.le_refl _, Nat.le_refl _⟩ (fun hrv => av_eq (st2 := [am_I x8]) rfl rfl rfl rfl ?_))
      refine av_if_ne (pc := 22) (tgt := 27) C dX9_then_22 (by decide) (fun hc => ?_) (fun hc => ?_)
      · rw [if_neg hc] at hs
        refine av_aload_n (pc := 27) (j := 0) C dX9_then_27 rfl rfl ?_
        refine av_getR (pc := 28) (k := 0) (r := 1) C fl_X9_12 sk_0 rfl dX9_then_28 ?_
        obtain ⟨x11, S10, hc12, hs⟩ := am_b2_of hs
        refine av_eq (st2 := [am_R 1]) rfl rfl rfl rfl (av_callV (pc := 31) (as := []) (rest := []) C (ct_X3_isFull l G  S7 x11 S10 hc12) ym_X3_isFull si_X9_62 im_X3_isFull se_X3_isFull sk_1 rfl ⟨Nat.le_of_ble_eq_true rfl, Nat.le_of_ble_eq_true rfl⟩ rfl rfl (Nat.le_of_ble_eq_true rfl) dX9_then_31 ⟨Nat.le_refl _, Nat.le_refl _⟩ (fun hrv => av_eq (st2 := [am_I x11]) rfl rfl rfl rfl ?_))
        refine av_if_eq (pc := 34) (tgt := 42) C dX9_then_34 (by decide) (fun hc => ?_) (fun hc => ?_)
        · rw [if_pos hc] at hs
          refine av_aload_n (pc := 42) (j := 0) C dX9_then_42 rfl rfl ?_
          refine av_getR (pc := 43) (k := 6) (r := 7) C fl_X9_58 sk_0 rfl dX9_then_43 ?_
          refine av_iload_n (pc := 46) (j := 1) C dX9_then_46 rfl rfl ?_
          refine av_iload_n (pc := 47) (j := 2) C dX9_then_47 rfl rfl ?_
          refine av_iload_n (pc := 48) (j := 3) C dX9_then_48 rfl rfl ?_
          obtain ⟨x14, S13, hc15, hs⟩ := am_b2_of hs
          refine av_eq (st2 := [am_I a3, am_I a2, am_I a1, am_R 7]) rfl rfl rfl rfl (av_callV (pc := 49) (as := [am_I a1, am_I a2, am_I a3]) (rest := []) C (ct_X5_addHandlers l G a1 a2 a3 S10 x14 S13 hc15) ym_X5_addHandlers si_X9_95 im_X5_addHandlers se_X5_addHandlers sk_7 rfl ⟨Nat.le_of_ble_eq_true rfl, Nat.le_of_ble_eq_true rfl⟩ rfl rfl (Nat.le_of_ble_eq_true rfl) dX9_then_49 ⟨Nat.le_refl _, Nat.le_refl _⟩ (fun hrv => av_eq (st2 := [am_I x14]) rfl rfl rfl rfl ?_))
          obtain ⟨rfl, rfl⟩ := am_inj2 hs
          exact av_iret C hr hlocks dX9_then_52
        · rw [if_neg hc] at hs
          refine av_bipush (pc := 37) C dX9_then_37 rfl ?_
          refine av_goto (pc := 39) (tgt := 52) C dX9_then_39 (by decide) ?_
          obtain ⟨rfl, rfl⟩ := am_inj2 hs
          exact av_iret C hr hlocks dX9_then_52
      · rw [if_pos (Decidable.not_not.mp hc)] at hs
        refine av_iconst (pc := 25) C dX9_then_25 rfl ?_
        obtain ⟨rfl, rfl⟩ := am_inj2 hs
        exact av_iret C hr hlocks dX9_then_26
set_option maxHeartbeats 4000000 in
set_option maxRecDepth 100000 in
theorem ct_X9_thenable (l : Launch) (G : am_G) (a1 : Int) (a2 : Int) (a3 : Int) (a4 : Int) (a5 : Int) (a6 : Int) (S : am_S) (x : Int) (SZ : am_S) (hs : sf_X9_thenable a1 a2 a3 a4 a5 a6 S = some (x, SZ)) : am_met l yX9_thenable cX9_thenable 7 (some .boolean) 3 65 G [am_R 0, am_I a1, am_I a2, am_I a3, am_I a4, am_I a5, am_I a6] S (some (am_I x)) SZ := by
  refine am_enter ym_X9_thenable (Nat.le_of_ble_eq_true rfl) ?_
  intro p e s m args below meth c C hr hlocks
  refine av_eq (lv2 := [(0, am_R 0), (1, am_I a1), (2, am_I a2), (3, am_I a3), (4, am_I a4), (5, am_I a5), (6, am_I a6)]) rfl rfl rfl rfl ?_
  unfold sf_X9_thenable at hs
  refine av_iload_n (pc := 0) (j := 1) C dX9_thenable_0 rfl rfl ?_
  refine av_iconst (pc := 1) C dX9_thenable_1 rfl ?_
  obtain ⟨x2, S1, hc3, hs⟩ := am_b2_of hs
  refine av_eq (st2 := [am_I 4, am_I a1]) rfl rfl rfl rfl (av_callS (pc := 2) (as := [am_I a1, am_I 4]) (rest := []) C (ct_X9_isWithin l G a1 4 S x2 S1 hc3) ym_X9_isWithin si_X9_99 st_X9_isWithin ⟨Nat.le_of_ble_eq_true rfl, Nat.le_of_ble_eq_true rfl⟩ rfl rfl (Nat.le_of_ble_eq_true rfl) dX9_thenable_2 ⟨Nat.le_refl _, Nat.le_refl _⟩ (fun hrv => av_eq (st2 := [am_I x2]) rfl rfl rfl rfl ?_))
  refine av_if_eq (pc := 5) (tgt := 16) C dX9_thenable_5 (by decide) (fun hc => ?_) (fun hc => ?_)
  · rw [if_pos hc] at hs
    refine av_iconst (pc := 16) C dX9_thenable_16 rfl ?_
    obtain ⟨rfl, rfl⟩ := am_inj2 hs
    exact av_zret C (by decide) hr hlocks dX9_thenable_17
  · rw [if_neg hc] at hs
    refine av_iload_n (pc := 8) (j := 2) C dX9_thenable_8 rfl rfl ?_
    refine av_iconst (pc := 9) C dX9_thenable_9 rfl ?_
    obtain ⟨x5, S4, hc6, hs⟩ := am_b2_of hs
    refine av_eq (st2 := [am_I 4, am_I a2]) rfl rfl rfl rfl (av_callS (pc := 10) (as := [am_I a2, am_I 4]) (rest := []) C (ct_X9_isWithin l G a2 4 S1 x5 S4 hc6) ym_X9_isWithin si_X9_99 st_X9_isWithin ⟨Nat.le_of_ble_eq_true rfl, Nat.le_of_ble_eq_true rfl⟩ rfl rfl (Nat.le_of_ble_eq_true rfl) dX9_thenable_10 ⟨Nat.le_refl _, Nat.le_refl _⟩ (fun hrv => av_eq (st2 := [am_I x5]) rfl rfl rfl rfl ?_))
    refine av_if_ne (pc := 13) (tgt := 18) C dX9_thenable_13 (by decide) (fun hc => ?_) (fun hc => ?_)
    · rw [if_neg hc] at hs
      refine av_aload_n (pc := 18) (j := 0) C dX9_thenable_18 rfl rfl ?_
      refine av_iload_n (pc := 19) (j := 3) C dX9_thenable_19 rfl rfl ?_
      refine av_iload (pc := 20) (j := 4) C dX9_thenable_20 rfl ?_
      obtain ⟨x8, S7, hc9, hs⟩ := am_b2_of hs
      refine av_eq (st2 := [am_I a4, am_I a3, am_R 0]) rfl rfl rfl rfl (av_callV (pc := 22) (as := [am_I a3, am_I a4]) (rest := []) C (ct_X9_isValue l G a3 a4 S4 x8 S7 hc9) ym_X9_isValue si_X9_78 im_X9_isValue se_X9_isValue sk_0 rfl ⟨Nat.le_of_ble_eq_true rfl, Nat.le_of_ble_eq_true rfl⟩ rfl rfl (Nat.le_of_ble_eq_true rfl) dX9_thenable_22 ⟨Nat.le_refl _, Nat.le_refl _⟩ (fun hrv => av_eq (st2 := [am_I x8]) rfl rfl rfl rfl ?_))
      refine av_if_eq (pc := 25) (tgt := 39) C dX9_thenable_25 (by decide) (fun hc => ?_) (fun hc => ?_)
      · rw [if_pos hc] at hs
        refine av_iconst (pc := 39) C dX9_thenable_39 rfl ?_
        obtain ⟨rfl, rfl⟩ := am_inj2 hs
        exact av_zret C (by decide) hr hlocks dX9_thenable_40
      · rw [if_neg hc] at hs
        refine av_aload_n (pc := 28) (j := 0) C dX9_thenable_28 rfl rfl ?_
        refine av_iload (pc := 29) (j := 5) C dX9_thenable_29 rfl ?_
        refine av_iload (pc := 31) (j := 6) C dX9_thenable_31 rfl ?_
        obtain ⟨x11, S10, hc12, hs⟩ := am_b2_of hs
        refine av_eq (st2 := [am_I a6, am_I a5, am_R 0]) rfl rfl rfl rfl (av_callV (pc := 33) (as := [am_I a5, am_I a6]) (rest := []) C (ct_X9_isValue l G a5 a6 S7 x11 S10 hc12) ym_X9_isValue si_X9_78 im_X9_isValue se_X9_isValue sk_0 rfl ⟨Nat.le_of_ble_eq_true rfl, Nat.le_of_ble_eq_true rfl⟩ rfl rfl (Nat.le_of_ble_eq_true rfl) dX9_thenable_33 ⟨Nat.le_refl _, Nat.le_refl _⟩ (fun hrv => av_eq (st2 := [am_I x11]) rfl rfl rfl rfl ?_))
        refine av_if_ne (pc := 36) (tgt := 41) C dX9_thenable_36 (by decide) (fun hc => ?_) (fun hc => ?_)
        · rw [if_neg hc] at hs
          refine av_aload_n (pc := 41) (j := 0) C dX9_thenable_41 rfl rfl ?_
          refine av_getR (pc := 42) (k := 1) (r := 2) C fl_X9_19 sk_0 rfl dX9_thenable_42 ?_
          refine av_iload_n (pc := 45) (j := 1) C dX9_thenable_45 rfl rfl ?_
          refine av_iload_n (pc := 46) (j := 2) C dX9_thenable_46 rfl rfl ?_
          refine av_iload_n (pc := 47) (j := 3) C dX9_thenable_47 rfl rfl ?_
          refine av_iload (pc := 48) (j := 4) C dX9_thenable_48 rfl ?_
          obtain ⟨x14, S13, hc15, hs⟩ := am_b2_of hs
          refine av_eq (st2 := [am_I a4, am_I a3, am_I a2, am_I a1, am_R 2]) rfl rfl rfl rfl (av_callS (pc := 50) (as := [am_I a3, am_I a4]) (rest := [am_I a2, am_I a1, am_R 2]) C (ct_X8_of l G a3 a4 S10 x14 S13 hc15) ym_X8_of si_X9_82 st_X8_of ⟨Nat.le_of_ble_eq_true rfl, Nat.le_of_ble_eq_true rfl⟩ rfl rfl (Nat.le_of_ble_eq_true rfl) dX9_thenable_50 ⟨Nat.le_refl _, Nat.le_refl _⟩ (fun hrv => av_eq (st2 := [am_J x14, am_I a2, am_I a1, am_R 2]) rfl rfl rfl rfl ?_))
          refine av_iload (pc := 53) (j := 5) C dX9_thenable_53 rfl ?_
          refine av_iload (pc := 55) (j := 6) C dX9_thenable_55 rfl ?_
          obtain ⟨x17, S16, hc18, hs⟩ := am_b2_of hs
          refine av_eq (st2 := [am_I a6, am_I a5, am_J x14, am_I a2, am_I a1, am_R 2]) rfl rfl rfl rfl (av_callS (pc := 57) (as := [am_I a5, am_I a6]) (rest := [am_J x14, am_I a2, am_I a1, am_R 2]) C (ct_X8_of l G a5 a6 S13 x17 S16 hc18) ym_X8_of si_X9_82 st_X8_of ⟨Nat.le_of_ble_eq_true rfl, Nat.le_of_ble_eq_true rfl⟩ rfl rfl (Nat.le_of_ble_eq_true rfl) dX9_thenable_57 ⟨Nat.le_refl _, Nat.le_refl _⟩ (fun hrv => av_eq (st2 := [am_J x17, am_J x14, am_I a2, am_I a1, am_R 2]) rfl rfl rfl rfl ?_))
          obtain ⟨S19, hc20, hs⟩ := am_b1_of hs
          refine av_eq (st2 := [am_J x17, am_J x14, am_I a2, am_I a1, am_R 2]) rfl rfl rfl rfl (av_callV (pc := 60) (as := [am_I a1, am_I a2, am_J x14, am_J x17]) (rest := []) C (ct_X7_change l G a1 a2 x14 x17 S16 S19 hc20) ym_X7_change si_X9_102 im_X7_change se_X7_change sk_2 rfl ⟨Nat.le_of_ble_eq_true rfl, Nat.le_of_ble_eq_true rfl⟩ rfl rfl (Nat.le_of_ble_eq_true rfl) dX9_thenable_60 ⟨Nat.le_refl _, Nat.le_refl _⟩ (fun hrv => av_eq (st2 := []) rfl rfl rfl rfl ?_))
          refine av_iconst (pc := 63) C dX9_thenable_63 rfl ?_
          obtain ⟨rfl, rfl⟩ := am_inj2 hs
          exact av_zret C (by decide) hr hlocks dX9_thenable_64
        · rw [if_pos (Decidable.not_not.mp hc)] at hs
          refine av_iconst (pc := 39) C dX9_thenable_39 rfl ?_
          obtain ⟨rfl, rfl⟩ := am_inj2 hs
          exact av_zret C (by decide) hr hlocks dX9_thenable_40
    · rw [if_pos (Decidable.not_not.mp hc)] at hs
      refine av_iconst (pc := 16) C dX9_thenable_16 rfl ?_
      obtain ⟨rfl, rfl⟩ := am_inj2 hs
      exact av_zret C (by decide) hr hlocks dX9_thenable_17
set_option maxHeartbeats 4000000 in
set_option maxRecDepth 100000 in
theorem ct_X9_step (l : Launch) (G : am_G) (a1 : Int) (a2 : Int) (a3 : Int) (a4 : Int) (S : am_S) (x : Int) (SZ : am_S) (hs : sf_X9_step a1 a2 a3 a4 S = some (x, SZ)) : am_met l yX9_step cX9_step 5 (some .int) 3 65 G [am_R 0, am_I a1, am_I a2, am_I a3, am_I a4] S (some (am_I x)) SZ := by
  refine am_enter ym_X9_step (Nat.le_of_ble_eq_true rfl) ?_
  intro p e s m args below meth c C hr hlocks
  refine av_eq (lv2 := [(0, am_R 0), (1, am_I a1), (2, am_I a2), (3, am_I a3), (4, am_I a4)]) rfl rfl rfl rfl ?_
  unfold sf_X9_step at hs
  refine av_iload_n (pc := 0) (j := 1) C dX9_step_0 rfl rfl ?_
  obtain ⟨x2, S1, hc3, hs⟩ := am_b2_of hs
  refine av_eq (st2 := [am_I a1]) rfl rfl rfl rfl (av_callS (pc := 1) (as := [am_I a1]) (rest := []) C (ct_X9_isFunction l G a1 S x2 S1 hc3) ym_X9_isFunction si_X9_106 st_X9_isFunction ⟨Nat.le_of_ble_eq_true rfl, Nat.le_of_ble_eq_true rfl⟩ rfl rfl (Nat.le_of_ble_eq_true rfl) dX9_step_1 ⟨Nat.le_refl _, Nat.le_refl _⟩ (fun hrv => av_eq (st2 := [am_I x2]) rfl rfl rfl rfl ?_))
  refine av_if_eq (pc := 4) (tgt := 17) C dX9_step_4 (by decide) (fun hc => ?_) (fun hc => ?_)
  · rw [if_pos hc] at hs
    refine av_iconst (pc := 17) C dX9_step_17 rfl ?_
    obtain ⟨rfl, rfl⟩ := am_inj2 hs
    exact av_iret C hr hlocks dX9_step_18
  · rw [if_neg hc] at hs
    refine av_iload_n (pc := 7) (j := 2) C dX9_step_7 rfl rfl ?_
    refine av_iload_n (pc := 8) (j := 3) C dX9_step_8 rfl rfl ?_
    refine av_iload (pc := 9) (j := 4) C dX9_step_9 rfl ?_
    obtain ⟨x5, S4, hc6, hs⟩ := am_b2_of hs
    refine av_eq (st2 := [am_I a4, am_I a3, am_I a2]) rfl rfl rfl rfl (av_callS (pc := 11) (as := [am_I a2, am_I a3, am_I a4]) (rest := []) C (ct_X0_mayBeStep l G a2 a3 a4 S1 x5 S4 hc6) ym_X0_mayBeStep si_X9_109 st_X0_mayBeStep ⟨Nat.le_of_ble_eq_true rfl, Nat.le_of_ble_eq_true rfl⟩ rfl rfl (Nat.le_of_ble_eq_true rfl) dX9_step_11 ⟨Nat.le_refl _, Nat.le_refl _⟩ (fun hrv => av_eq (st2 := [am_I x5]) rfl rfl rfl rfl ?_))
    refine av_if_ne (pc := 14) (tgt := 19) C dX9_step_14 (by decide) (fun hc => ?_) (fun hc => ?_)
    · rw [if_neg hc] at hs
      refine av_aload_n (pc := 19) (j := 0) C dX9_step_19 rfl rfl ?_
      refine av_getR (pc := 20) (k := 2) (r := 3) C fl_X9_26 sk_0 rfl dX9_step_20 ?_
      refine av_iload_n (pc := 23) (j := 1) C dX9_step_23 rfl rfl ?_
      obtain ⟨x8, S7, hc9, hs⟩ := am_b2_of hs
      refine av_eq (st2 := [am_I a1, am_R 3]) rfl rfl rfl rfl (av_callV (pc := 24) (as := [am_I a1]) (rest := []) C (ct_X0_isFull l G a1 S4 x8 S7 hc9) ym_X0_isFull si_X9_113 im_X0_isFull se_X0_isFull sk_3 rfl ⟨Nat.le_of_ble_eq_true rfl, Nat.le_of_ble_eq_true rfl⟩ rfl rfl (Nat.le_of_ble_eq_true rfl) dX9_step_24 ⟨Nat.le_refl _, Nat.le_refl _⟩ (fun hrv => av_eq (st2 := [am_I x8]) rfl rfl rfl rfl ?_))
      refine av_if_eq (pc := 27) (tgt := 35) C dX9_step_27 (by decide) (fun hc => ?_) (fun hc => ?_)
      · rw [if_pos hc] at hs
        refine av_aload_n (pc := 35) (j := 0) C dX9_step_35 rfl rfl ?_
        refine av_getR (pc := 36) (k := 2) (r := 3) C fl_X9_26 sk_0 rfl dX9_step_36 ?_
        refine av_iload_n (pc := 39) (j := 1) C dX9_step_39 rfl rfl ?_
        refine av_iload_n (pc := 40) (j := 2) C dX9_step_40 rfl rfl ?_
        refine av_iload_n (pc := 41) (j := 2) C dX9_step_41 rfl rfl ?_
        refine av_iconst (pc := 42) C dX9_step_42 rfl ?_
        refine av_icmp_ne (pc := 43) (tgt := 50) C dX9_step_43 (by decide) (fun hc => ?_) (fun hc => ?_)
        · rw [if_neg hc] at hs
          refine av_iconst (pc := 50) C dX9_step_50 rfl ?_
          refine av_iload (pc := 51) (j := 4) C dX9_step_51 rfl ?_
          obtain ⟨x11, S10, hc12, hs⟩ := am_b2_of hs
          refine av_eq (st2 := [am_I a4, am_I 0, am_I a2, am_I a1, am_R 3]) rfl rfl rfl rfl (av_callS (pc := 53) (as := [am_I 0, am_I a4]) (rest := [am_I a2, am_I a1, am_R 3]) C (ct_X8_of l G 0 a4 S7 x11 S10 hc12) ym_X8_of si_X9_82 st_X8_of ⟨Nat.le_of_ble_eq_true rfl, Nat.le_of_ble_eq_true rfl⟩ rfl rfl (Nat.le_of_ble_eq_true rfl) dX9_step_53 ⟨Nat.le_refl _, Nat.le_refl _⟩ (fun hrv => av_eq (st2 := [am_J x11, am_I a2, am_I a1, am_R 3]) rfl rfl rfl rfl ?_))
          obtain ⟨x14, S13, hc15, hs⟩ := am_b2_of hs
          refine av_eq (st2 := [am_J x11, am_I a2, am_I a1, am_R 3]) rfl rfl rfl rfl (av_callV (pc := 56) (as := [am_I a1, am_I a2, am_J x11]) (rest := []) C (ct_X0_add l G a1 a2 x11 S10 x14 S13 hc15) ym_X0_add si_X9_115 im_X0_add se_X0_add sk_3 rfl ⟨Nat.le_of_ble_eq_true rfl, Nat.le_of_ble_eq_true rfl⟩ rfl rfl (Nat.le_of_ble_eq_true rfl) dX9_step_56 ⟨Nat.le_refl _, Nat.le_refl _⟩ (fun hrv => av_eq (st2 := [am_I x14]) rfl rfl rfl rfl ?_))
          obtain ⟨rfl, rfl⟩ := am_inj2 hs
          exact av_iret C hr hlocks dX9_step_59
        · rw [if_pos (Decidable.not_not.mp hc)] at hs
          refine av_iload_n (pc := 46) (j := 3) C dX9_step_46 rfl rfl ?_
          refine av_goto (pc := 47) (tgt := 51) C dX9_step_47 (by decide) ?_
          refine av_iload (pc := 51) (j := 4) C dX9_step_51 rfl ?_
          obtain ⟨x17, S16, hc18, hs⟩ := am_b2_of hs
          refine av_eq (st2 := [am_I a4, am_I a3, am_I a2, am_I a1, am_R 3]) rfl rfl rfl rfl (av_callS (pc := 53) (as := [am_I a3, am_I a4]) (rest := [am_I a2, am_I a1, am_R 3]) C (ct_X8_of l G a3 a4 S7 x17 S16 hc18) ym_X8_of si_X9_82 st_X8_of ⟨Nat.le_of_ble_eq_true rfl, Nat.le_of_ble_eq_true rfl⟩ rfl rfl (Nat.le_of_ble_eq_true rfl) dX9_step_53 ⟨Nat.le_refl _, Nat.le_refl _⟩ (fun hrv => av_eq (st2 := [am_J x17, am_I a2, am_I a1, am_R 3]) rfl rfl rfl rfl ?_))
          obtain ⟨x20, S19, hc21, hs⟩ := am_b2_of hs
          refine av_eq (st2 := [am_J x17, am_I a2, am_I a1, am_R 3]) rfl rfl rfl rfl (av_callV (pc := 56) (as := [am_I a1, am_I a2, am_J x17]) (rest := []) C (ct_X0_add l G a1 a2 x17 S16 x20 S19 hc21) ym_X0_add si_X9_115 im_X0_add se_X0_add sk_3 rfl ⟨Nat.le_of_ble_eq_true rfl, Nat.le_of_ble_eq_true rfl⟩ rfl rfl (Nat.le_of_ble_eq_true rfl) dX9_step_56 ⟨Nat.le_refl _, Nat.le_refl _⟩ (fun hrv => av_eq (st2 := [am_I x20]) rfl rfl rfl rfl ?_))
          obtain ⟨rfl, rfl⟩ := am_inj2 hs
          exact av_iret C hr hlocks dX9_step_59
      · rw [if_neg hc] at hs
        refine av_bipush (pc := 30) C dX9_step_30 rfl ?_
        refine av_goto (pc := 32) (tgt := 59) C dX9_step_32 (by decide) ?_
        obtain ⟨rfl, rfl⟩ := am_inj2 hs
        exact av_iret C hr hlocks dX9_step_59
    · rw [if_pos (Decidable.not_not.mp hc)] at hs
      refine av_iconst (pc := 17) C dX9_step_17 rfl ?_
      obtain ⟨rfl, rfl⟩ := am_inj2 hs
      exact av_iret C hr hlocks dX9_step_18
set_option maxHeartbeats 4000000 in
set_option maxRecDepth 100000 in
theorem ct_X9_empty (l : Launch) (G : am_G) (a1 : Int) (S : am_S) (x : Int) (SZ : am_S) (hs : sf_X9_empty a1 S = some (x, SZ)) : am_met l yX9_empty cX9_empty 2 (some .int) 2 45 G [am_R 0, am_I a1] S (some (am_I x)) SZ := by
  refine am_enter ym_X9_empty (Nat.le_of_ble_eq_true rfl) ?_
  intro p e s m args below meth c C hr hlocks
  refine av_eq (lv2 := [(0, am_R 0), (1, am_I a1)]) rfl rfl rfl rfl ?_
  unfold sf_X9_empty at hs
  refine av_iload_n (pc := 0) (j := 1) C dX9_empty_0 rfl rfl ?_
  obtain ⟨x2, S1, hc3, hs⟩ := am_b2_of hs
  refine av_eq (st2 := [am_I a1]) rfl rfl rfl rfl (av_callS (pc := 1) (as := [am_I a1]) (rest := []) C (ct_X9_isFunction l G a1 S x2 S1 hc3) ym_X9_isFunction si_X9_106 st_X9_isFunction ⟨Nat.le_of_ble_eq_true rfl, Nat.le_of_ble_eq_true rfl⟩ rfl rfl (Nat.le_of_ble_eq_true rfl) dX9_empty_1 ⟨Nat.le_refl _, Nat.le_refl _⟩ (fun hrv => av_eq (st2 := [am_I x2]) rfl rfl rfl rfl ?_))
  refine av_if_eq (pc := 4) (tgt := 18) C dX9_empty_4 (by decide) (fun hc => ?_) (fun hc => ?_)
  · rw [if_pos hc] at hs
    refine av_iconst (pc := 18) C dX9_empty_18 rfl ?_
    obtain ⟨rfl, rfl⟩ := am_inj2 hs
    exact av_iret C hr hlocks dX9_empty_19
  · rw [if_neg hc] at hs
    refine av_aload_n (pc := 7) (j := 0) C dX9_empty_7 rfl rfl ?_
    refine av_getR (pc := 8) (k := 2) (r := 3) C fl_X9_26 sk_0 rfl dX9_empty_8 ?_
    refine av_iload_n (pc := 11) (j := 1) C dX9_empty_11 rfl rfl ?_
    obtain ⟨x5, S4, hc6, hs⟩ := am_b2_of hs
    refine av_eq (st2 := [am_I a1, am_R 3]) rfl rfl rfl rfl (av_callV (pc := 12) (as := [am_I a1]) (rest := []) C (ct_X0_removeAll l G a1 S1 x5 S4 hc6) ym_X0_removeAll si_X9_119 im_X0_removeAll se_X0_removeAll sk_3 rfl ⟨Nat.le_of_ble_eq_true rfl, Nat.le_of_ble_eq_true rfl⟩ rfl rfl (Nat.le_of_ble_eq_true rfl) dX9_empty_12 ⟨Nat.le_refl _, Nat.le_refl _⟩ (fun hrv => av_eq (st2 := [am_I x5]) rfl rfl rfl rfl ?_))
    refine av_goto (pc := 15) (tgt := 19) C dX9_empty_15 (by decide) ?_
    obtain ⟨rfl, rfl⟩ := am_inj2 hs
    exact av_iret C hr hlocks dX9_empty_19
set_option maxHeartbeats 4000000 in
set_option maxRecDepth 100000 in
theorem ct_X9_start (l : Launch) (G : am_G) (a1 : Int) (a2 : Int) (a3 : Int) (S : am_S) (x : Int) (SZ : am_S) (hs : sf_X9_start a1 a2 a3 S = some (x, SZ)) : am_met l yX9_start cX9_start 5 (some .int) 6 146 G [am_R 0, am_I a1, am_I a2, am_I a3] S (some (am_I x)) SZ := by
  refine am_enter ym_X9_start (Nat.le_of_ble_eq_true rfl) ?_
  intro p e s m args below meth c C hr hlocks
  refine av_eq (lv2 := [(0, am_R 0), (1, am_I a1), (2, am_I a2), (3, am_I a3)]) rfl rfl rfl rfl ?_
  unfold sf_X9_start at hs
  refine av_iload_n (pc := 0) (j := 1) C dX9_start_0 rfl rfl ?_
  obtain ⟨x2, S1, hc3, hs⟩ := am_b2_of hs
  refine av_eq (st2 := [am_I a1]) rfl rfl rfl rfl (av_callS (pc := 1) (as := [am_I a1]) (rest := []) C (ct_X9_isFunction l G a1 S x2 S1 hc3) ym_X9_isFunction si_X9_106 st_X9_isFunction ⟨Nat.le_of_ble_eq_true rfl, Nat.le_of_ble_eq_true rfl⟩ rfl rfl (Nat.le_of_ble_eq_true rfl) dX9_start_1 ⟨Nat.le_refl _, Nat.le_refl _⟩ (fun hrv => av_eq (st2 := [am_I x2]) rfl rfl rfl rfl ?_))
  refine av_if_eq (pc := 4) (tgt := 16) C dX9_start_4 (by decide) (fun hc => ?_) (fun hc => ?_)
  · rw [if_pos hc] at hs
    refine av_iconst (pc := 16) C dX9_start_16 rfl ?_
    obtain ⟨rfl, rfl⟩ := am_inj2 hs
    exact av_iret C hr hlocks dX9_start_17
  · rw [if_neg hc] at hs
    refine av_aload_n (pc := 7) (j := 0) C dX9_start_7 rfl rfl ?_
    refine av_iload_n (pc := 8) (j := 2) C dX9_start_8 rfl rfl ?_
    refine av_iload_n (pc := 9) (j := 3) C dX9_start_9 rfl rfl ?_
    obtain ⟨x5, S4, hc6, hs⟩ := am_b2_of hs
    refine av_eq (st2 := [am_I a3, am_I a2, am_R 0]) rfl rfl rfl rfl (av_callV (pc := 10) (as := [am_I a2, am_I a3]) (rest := []) C (ct_X9_isValue l G a2 a3 S1 x5 S4 hc6) ym_X9_isValue si_X9_78 im_X9_isValue se_X9_isValue sk_0 rfl ⟨Nat.le_of_ble_eq_true rfl, Nat.le_of_ble_eq_true rfl⟩ rfl rfl (Nat.le_of_ble_eq_true rfl) dX9_start_10 ⟨Nat.le_refl _, Nat.le_refl _⟩ (fun hrv => av_eq (st2 := [am_I x5]) rfl rfl rfl rfl ?_))
    refine av_if_ne (pc := 13) (tgt := 18) C dX9_start_13 (by decide) (fun hc => ?_) (fun hc => ?_)
    · rw [if_neg hc] at hs
      refine av_aload_n (pc := 18) (j := 0) C dX9_start_18 rfl rfl ?_
      refine av_getR (pc := 19) (k := 0) (r := 1) C fl_X9_12 sk_0 rfl dX9_start_19 ?_
      obtain ⟨x8, S7, hc9, hs⟩ := am_b2_of hs
      refine av_eq (st2 := [am_R 1]) rfl rfl rfl rfl (av_callV (pc := 22) (as := []) (rest := []) C (ct_X3_isFull l G  S4 x8 S7 hc9) ym_X3_isFull si_X9_62 im_X3_isFull se_X3_isFull sk_1 rfl ⟨Nat.le_of_ble_eq_true rfl, Nat.le_of_ble_eq_true rfl⟩ rfl rfl (Nat.le_of_ble_eq_true rfl) dX9_start_22 ⟨Nat.le_refl _, Nat.le_refl _⟩ (fun hrv => av_eq (st2 := [am_I x8]) rfl rfl rfl rfl ?_))
      refine av_if_eq (pc := 25) (tgt := 31) C dX9_start_25 (by decide) (fun hc => ?_) (fun hc => ?_)
      · rw [if_pos hc] at hs
        refine av_aload_n (pc := 31) (j := 0) C dX9_start_31 rfl rfl ?_
        refine av_getR (pc := 32) (k := 6) (r := 7) C fl_X9_58 sk_0 rfl dX9_start_32 ?_
        refine av_iload_n (pc := 35) (j := 1) C dX9_start_35 rfl rfl ?_
        refine av_iload_n (pc := 36) (j := 2) C dX9_start_36 rfl rfl ?_
        refine av_iload_n (pc := 37) (j := 3) C dX9_start_37 rfl rfl ?_
        obtain ⟨x11, S10, hc12, hs⟩ := am_b2_of hs
        refine av_eq (st2 := [am_I a3, am_I a2, am_I a1, am_R 7]) rfl rfl rfl rfl (av_callS (pc := 38) (as := [am_I a2, am_I a3]) (rest := [am_I a1, am_R 7]) C (ct_X8_of l G a2 a3 S7 x11 S10 hc12) ym_X8_of si_X9_82 st_X8_of ⟨Nat.le_of_ble_eq_true rfl, Nat.le_of_ble_eq_true rfl⟩ rfl rfl (Nat.le_of_ble_eq_true rfl) dX9_start_38 ⟨Nat.le_refl _, Nat.le_refl _⟩ (fun hrv => av_eq (st2 := [am_J x11, am_I a1, am_R 7]) rfl rfl rfl rfl ?_))
        obtain ⟨x14, S13, hc15, hs⟩ := am_b2_of hs
        refine av_eq (st2 := [am_J x11, am_I a1, am_R 7]) rfl rfl rfl rfl (av_callV (pc := 41) (as := [am_I a1, am_J x11]) (rest := []) C (ct_X5_begin l G a1 x11 S10 x14 S13 hc15) ym_X5_begin si_X9_123 im_X5_begin se_X5_begin sk_7 rfl ⟨Nat.le_of_ble_eq_true rfl, Nat.le_of_ble_eq_true rfl⟩ rfl rfl (Nat.le_of_ble_eq_true rfl) dX9_start_41 ⟨Nat.le_refl _, Nat.le_refl _⟩ (fun hrv => av_eq (st2 := [am_I x14]) rfl rfl rfl rfl ?_))
        refine av_istore (pc := 44) (i := 4) (lv2 := [(4, am_I x14), (0, am_R 0), (1, am_I a1), (2, am_I a2), (3, am_I a3)]) C dX9_start_44 (by decide) rfl ?_
        refine av_aload_n (pc := 46) (j := 1) C dX9_start_46 rfl rfl ?_
        refine av_getR (pc := 47) (k := 6) (r := 7) C fl_X9_58 sk_0 rfl dX9_start_47 ?_
        obtain ⟨S16, hc17, hs⟩ := am_b1_of hs
        refine av_eq (st2 := [am_R 7]) rfl rfl rfl rfl (av_callV (pc := 50) (as := []) (rest := []) C (ct_X5_goOn l G  S13 S16 hc17) ym_X5_goOn si_X9_127 im_X5_goOn se_X5_goOn sk_7 rfl ⟨Nat.le_of_ble_eq_true rfl, Nat.le_of_ble_eq_true rfl⟩ rfl rfl (Nat.le_of_ble_eq_true rfl) dX9_start_50 ⟨Nat.le_refl _, Nat.le_refl _⟩ (fun hrv => av_eq (st2 := []) rfl rfl rfl rfl ?_))
        refine av_iload (pc := 53) (j := 0) C dX9_start_53 rfl ?_
        obtain ⟨rfl, rfl⟩ := am_inj2 hs
        exact av_iret C hr hlocks dX9_start_55
      · rw [if_neg hc] at hs
        refine av_bipush (pc := 28) C dX9_start_28 rfl ?_
        obtain ⟨rfl, rfl⟩ := am_inj2 hs
        exact av_iret C hr hlocks dX9_start_30
    · rw [if_pos (Decidable.not_not.mp hc)] at hs
      refine av_iconst (pc := 16) C dX9_start_16 rfl ?_
      obtain ⟨rfl, rfl⟩ := am_inj2 hs
      exact av_iret C hr hlocks dX9_start_17
set_option maxHeartbeats 4000000 in
set_option maxRecDepth 100000 in
theorem ct_X9_later (l : Launch) (G : am_G) (a1 : Int) (a2 : Int) (a3 : Int) (a4 : Int) (S : am_S) (x : Int) (SZ : am_S) (hs : sf_X9_later a1 a2 a3 a4 S = some (x, SZ)) : am_met l yX9_later cX9_later 5 (some .int) 3 65 G [am_R 0, am_I a1, am_I a2, am_I a3, am_I a4] S (some (am_I x)) SZ := by
  refine am_enter ym_X9_later (Nat.le_of_ble_eq_true rfl) ?_
  intro p e s m args below meth c C hr hlocks
  refine av_eq (lv2 := [(0, am_R 0), (1, am_I a1), (2, am_I a2), (3, am_I a3), (4, am_I a4)]) rfl rfl rfl rfl ?_
  unfold sf_X9_later at hs
  refine av_iload_n (pc := 0) (j := 1) C dX9_later_0 rfl rfl ?_
  obtain ⟨x2, S1, hc3, hs⟩ := am_b2_of hs
  refine av_eq (st2 := [am_I a1]) rfl rfl rfl rfl (av_callS (pc := 1) (as := [am_I a1]) (rest := []) C (ct_X9_isFunction l G a1 S x2 S1 hc3) ym_X9_isFunction si_X9_106 st_X9_isFunction ⟨Nat.le_of_ble_eq_true rfl, Nat.le_of_ble_eq_true rfl⟩ rfl rfl (Nat.le_of_ble_eq_true rfl) dX9_later_1 ⟨Nat.le_refl _, Nat.le_refl _⟩ (fun hrv => av_eq (st2 := [am_I x2]) rfl rfl rfl rfl ?_))
  refine av_if_eq (pc := 4) (tgt := 27) C dX9_later_4 (by decide) (fun hc => ?_) (fun hc => ?_)
  · rw [if_pos hc] at hs
    refine av_iconst (pc := 27) C dX9_later_27 rfl ?_
    obtain ⟨rfl, rfl⟩ := am_inj2 hs
    exact av_iret C hr hlocks dX9_later_28
  · rw [if_neg hc] at hs
    refine av_aload_n (pc := 7) (j := 0) C dX9_later_7 rfl rfl ?_
    refine av_iload_n (pc := 8) (j := 2) C dX9_later_8 rfl rfl ?_
    refine av_iload_n (pc := 9) (j := 3) C dX9_later_9 rfl rfl ?_
    obtain ⟨x5, S4, hc6, hs⟩ := am_b2_of hs
    refine av_eq (st2 := [am_I a3, am_I a2, am_R 0]) rfl rfl rfl rfl (av_callV (pc := 10) (as := [am_I a2, am_I a3]) (rest := []) C (ct_X9_isValue l G a2 a3 S1 x5 S4 hc6) ym_X9_isValue si_X9_78 im_X9_isValue se_X9_isValue sk_0 rfl ⟨Nat.le_of_ble_eq_true rfl, Nat.le_of_ble_eq_true rfl⟩ rfl rfl (Nat.le_of_ble_eq_true rfl) dX9_later_10 ⟨Nat.le_refl _, Nat.le_refl _⟩ (fun hrv => av_eq (st2 := [am_I x5]) rfl rfl rfl rfl ?_))
    refine av_if_eq (pc := 13) (tgt := 27) C dX9_later_13 (by decide) (fun hc => ?_) (fun hc => ?_)
    · rw [if_pos hc] at hs
      refine av_iconst (pc := 27) C dX9_later_27 rfl ?_
      obtain ⟨rfl, rfl⟩ := am_inj2 hs
      exact av_iret C hr hlocks dX9_later_28
    · rw [if_neg hc] at hs
      refine av_iload (pc := 16) (j := 4) C dX9_later_16 rfl ?_
      refine av_sipush (pc := 18) C dX9_later_18 rfl ?_
      obtain ⟨x8, S7, hc9, hs⟩ := am_b2_of hs
      refine av_eq (st2 := [am_I 1001, am_I a4]) rfl rfl rfl rfl (av_callS (pc := 21) (as := [am_I a4, am_I 1001]) (rest := []) C (ct_X9_isWithin l G a4 1001 S4 x8 S7 hc9) ym_X9_isWithin si_X9_99 st_X9_isWithin ⟨Nat.le_of_ble_eq_true rfl, Nat.le_of_ble_eq_true rfl⟩ rfl rfl (Nat.le_of_ble_eq_true rfl) dX9_later_21 ⟨Nat.le_refl _, Nat.le_refl _⟩ (fun hrv => av_eq (st2 := [am_I x8]) rfl rfl rfl rfl ?_))
      refine av_if_ne (pc := 24) (tgt := 29) C dX9_later_24 (by decide) (fun hc => ?_) (fun hc => ?_)
      · rw [if_neg hc] at hs
        refine av_aload_n (pc := 29) (j := 0) C dX9_later_29 rfl rfl ?_
        refine av_getR (pc := 30) (k := 3) (r := 4) C fl_X9_33 sk_0 rfl dX9_later_30 ?_
        obtain ⟨x11, S10, hc12, hs⟩ := am_b2_of hs
        refine av_eq (st2 := [am_R 4]) rfl rfl rfl rfl (av_callV (pc := 33) (as := []) (rest := []) C (ct_X6_isFull l G  S7 x11 S10 hc12) ym_X6_isFull si_X9_130 im_X6_isFull se_X6_isFull sk_4 rfl ⟨Nat.le_of_ble_eq_true rfl, Nat.le_of_ble_eq_true rfl⟩ rfl rfl (Nat.le_of_ble_eq_true rfl) dX9_later_33 ⟨Nat.le_refl _, Nat.le_refl _⟩ (fun hrv => av_eq (st2 := [am_I x11]) rfl rfl rfl rfl ?_))
        refine av_if_eq (pc := 36) (tgt := 44) C dX9_later_36 (by decide) (fun hc => ?_) (fun hc => ?_)
        · rw [if_pos hc] at hs
          refine av_aload_n (pc := 44) (j := 0) C dX9_later_44 rfl rfl ?_
          refine av_getR (pc := 45) (k := 3) (r := 4) C fl_X9_33 sk_0 rfl dX9_later_45 ?_
          refine av_iload_n (pc := 48) (j := 1) C dX9_later_48 rfl rfl ?_
          refine av_iload_n (pc := 49) (j := 2) C dX9_later_49 rfl rfl ?_
          refine av_iload_n (pc := 50) (j := 3) C dX9_later_50 rfl rfl ?_
          obtain ⟨x14, S13, hc15, hs⟩ := am_b2_of hs
          refine av_eq (st2 := [am_I a3, am_I a2, am_I a1, am_R 4]) rfl rfl rfl rfl (av_callS (pc := 51) (as := [am_I a2, am_I a3]) (rest := [am_I a1, am_R 4]) C (ct_X8_of l G a2 a3 S10 x14 S13 hc15) ym_X8_of si_X9_82 st_X8_of ⟨Nat.le_of_ble_eq_true rfl, Nat.le_of_ble_eq_true rfl⟩ rfl rfl (Nat.le_of_ble_eq_true rfl) dX9_later_51 ⟨Nat.le_refl _, Nat.le_refl _⟩ (fun hrv => av_eq (st2 := [am_J x14, am_I a1, am_R 4]) rfl rfl rfl rfl ?_))
          refine av_iload (pc := 54) (j := 4) C dX9_later_54 rfl ?_
          obtain ⟨x17, S16, hc18, hs⟩ := am_b2_of hs
          refine av_eq (st2 := [am_I a4, am_J x14, am_I a1, am_R 4]) rfl rfl rfl rfl (av_callV (pc := 56) (as := [am_I a1, am_J x14, am_I a4]) (rest := []) C (ct_X6_add l G a1 x14 a4 S13 x17 S16 hc18) ym_X6_add si_X9_131 im_X6_add se_X6_add sk_4 rfl ⟨Nat.le_of_ble_eq_true rfl, Nat.le_of_ble_eq_true rfl⟩ rfl rfl (Nat.le_of_ble_eq_true rfl) dX9_later_56 ⟨Nat.le_refl _, Nat.le_refl _⟩ (fun hrv => av_eq (st2 := [am_I x17]) rfl rfl rfl rfl ?_))
          obtain ⟨rfl, rfl⟩ := am_inj2 hs
          exact av_iret C hr hlocks dX9_later_59
        · rw [if_neg hc] at hs
          refine av_bipush (pc := 39) C dX9_later_39 rfl ?_
          refine av_goto (pc := 41) (tgt := 59) C dX9_later_41 (by decide) ?_
          obtain ⟨rfl, rfl⟩ := am_inj2 hs
          exact av_iret C hr hlocks dX9_later_59
      · rw [if_pos (Decidable.not_not.mp hc)] at hs
        refine av_iconst (pc := 27) C dX9_later_27 rfl ?_
        obtain ⟨rfl, rfl⟩ := am_inj2 hs
        exact av_iret C hr hlocks dX9_later_28
set_option maxHeartbeats 4000000 in
set_option maxRecDepth 100000 in
theorem ct_X9_item (l : Launch) (G : am_G) (a1 : Int) (a2 : Int) (S : am_S) (x : Int) (SZ : am_S) (hs : sf_X9_item a1 a2 S = some (x, SZ)) : am_met l yX9_item cX9_item 3 (some .int) 3 65 G [am_R 0, am_I a1, am_I a2] S (some (am_I x)) SZ := by
  refine am_enter ym_X9_item (Nat.le_of_ble_eq_true rfl) ?_
  intro p e s m args below meth c C hr hlocks
  refine av_eq (lv2 := [(0, am_R 0), (1, am_I a1), (2, am_I a2)]) rfl rfl rfl rfl ?_
  unfold sf_X9_item at hs
  refine av_aload_n (pc := 0) (j := 0) C dX9_item_0 rfl rfl ?_
  refine av_iload_n (pc := 1) (j := 1) C dX9_item_1 rfl rfl ?_
  refine av_iload_n (pc := 2) (j := 2) C dX9_item_2 rfl rfl ?_
  obtain ⟨x2, S1, hc3, hs⟩ := am_b2_of hs
  refine av_eq (st2 := [am_I a2, am_I a1, am_R 0]) rfl rfl rfl rfl (av_callV (pc := 3) (as := [am_I a1, am_I a2]) (rest := []) C (ct_X9_isValue l G a1 a2 S x2 S1 hc3) ym_X9_isValue si_X9_78 im_X9_isValue se_X9_isValue sk_0 rfl ⟨Nat.le_of_ble_eq_true rfl, Nat.le_of_ble_eq_true rfl⟩ rfl rfl (Nat.le_of_ble_eq_true rfl) dX9_item_3 ⟨Nat.le_refl _, Nat.le_refl _⟩ (fun hrv => av_eq (st2 := [am_I x2]) rfl rfl rfl rfl ?_))
  refine av_if_ne (pc := 6) (tgt := 11) C dX9_item_6 (by decide) (fun hc => ?_) (fun hc => ?_)
  · rw [if_neg hc] at hs
    refine av_aload_n (pc := 11) (j := 0) C dX9_item_11 rfl rfl ?_
    refine av_getR (pc := 12) (k := 5) (r := 6) C fl_X9_49 sk_0 rfl dX9_item_12 ?_
    obtain ⟨x5, S4, hc6, hs⟩ := am_b2_of hs
    refine av_eq (st2 := [am_R 6]) rfl rfl rfl rfl (av_callV (pc := 15) (as := []) (rest := []) C (ct_X1_isFull l G  S1 x5 S4 hc6) ym_X1_isFull si_X9_134 im_X1_isFull se_X1_isFull sk_6 rfl ⟨Nat.le_of_ble_eq_true rfl, Nat.le_of_ble_eq_true rfl⟩ rfl rfl (Nat.le_of_ble_eq_true rfl) dX9_item_15 ⟨Nat.le_refl _, Nat.le_refl _⟩ (fun hrv => av_eq (st2 := [am_I x5]) rfl rfl rfl rfl ?_))
    refine av_if_eq (pc := 18) (tgt := 26) C dX9_item_18 (by decide) (fun hc => ?_) (fun hc => ?_)
    · rw [if_pos hc] at hs
      refine av_aload_n (pc := 26) (j := 0) C dX9_item_26 rfl rfl ?_
      refine av_getR (pc := 27) (k := 5) (r := 6) C fl_X9_49 sk_0 rfl dX9_item_27 ?_
      refine av_iload_n (pc := 30) (j := 1) C dX9_item_30 rfl rfl ?_
      refine av_iload_n (pc := 31) (j := 2) C dX9_item_31 rfl rfl ?_
      obtain ⟨x8, S7, hc9, hs⟩ := am_b2_of hs
      refine av_eq (st2 := [am_I a2, am_I a1, am_R 6]) rfl rfl rfl rfl (av_callS (pc := 32) (as := [am_I a1, am_I a2]) (rest := [am_R 6]) C (ct_X8_of l G a1 a2 S4 x8 S7 hc9) ym_X8_of si_X9_82 st_X8_of ⟨Nat.le_of_ble_eq_true rfl, Nat.le_of_ble_eq_true rfl⟩ rfl rfl (Nat.le_of_ble_eq_true rfl) dX9_item_32 ⟨Nat.le_refl _, Nat.le_refl _⟩ (fun hrv => av_eq (st2 := [am_J x8, am_R 6]) rfl rfl rfl rfl ?_))
      obtain ⟨x11, S10, hc12, hs⟩ := am_b2_of hs
      refine av_eq (st2 := [am_J x8, am_R 6]) rfl rfl rfl rfl (av_callV (pc := 35) (as := [am_J x8]) (rest := []) C (ct_X1_addItem l G x8 S7 x11 S10 hc12) ym_X1_addItem si_X9_135 im_X1_addItem se_X1_addItem sk_6 rfl ⟨Nat.le_of_ble_eq_true rfl, Nat.le_of_ble_eq_true rfl⟩ rfl rfl (Nat.le_of_ble_eq_true rfl) dX9_item_35 ⟨Nat.le_refl _, Nat.le_refl _⟩ (fun hrv => av_eq (st2 := [am_I x11]) rfl rfl rfl rfl ?_))
      obtain ⟨rfl, rfl⟩ := am_inj2 hs
      exact av_iret C hr hlocks dX9_item_38
    · rw [if_neg hc] at hs
      refine av_bipush (pc := 21) C dX9_item_21 rfl ?_
      refine av_goto (pc := 23) (tgt := 38) C dX9_item_23 (by decide) ?_
      obtain ⟨rfl, rfl⟩ := am_inj2 hs
      exact av_iret C hr hlocks dX9_item_38
  · rw [if_pos (Decidable.not_not.mp hc)] at hs
    refine av_iconst (pc := 9) C dX9_item_9 rfl ?_
    obtain ⟨rfl, rfl⟩ := am_inj2 hs
    exact av_iret C hr hlocks dX9_item_10
