set_option maxHeartbeats 20000000 in
set_option maxRecDepth 100000 in
theorem wk_X10_go_0 {p : Program} {l : Launch} {e : Env} {s : State} {m : MethodId} {args : Array Value} {below : List Frame} {meth : Method} {c : Code} {G : am_G} (C : am_C p s m args c cX10_go 4 RX10 G) (hr : meth.sig.returnType = none) (hlocks : meth.locks = false) : ∀ (fu : Nat) (S : am_S) (SZ : am_S), sf_X10_go_0 fu  S = some SZ → am_V p l e (am_rm 8 200) s m args below meth c (MQ below (am_Q G none SZ) args s 0 0 (am_A G)) G (am_A G) s.heap 4 0 0 0 [(0, am_R 74)] [] S := by
  intro fu
  induction fu with
  | zero => intro  S SZ hs; cases hs
  | succ fu ih =>
    intro  S SZ hs
    unfold sf_X10_go_0 at hs
    refine av_aload_n (pc := 0) (j := 0) C dX10_go_0 rfl rfl ?_
    refine av_getI (pc := 1) (k := 52) (n := 4788) C fl_X10_215 sk_74 rfl rfl dX10_go_1 ?_
    refine av_if_lt (pc := 4) (tgt := 122) C dX10_go_4 (by decide) (fun hc => ?_) (fun hc => ?_)
    · rw [if_pos hc] at hs
      obtain rfl := am_inj1 hs
      exact av_vret C hr hlocks dX10_go_122
    · rw [if_neg hc] at hs
      refine av_aload_n (pc := 7) (j := 0) C dX10_go_7 rfl rfl ?_
      refine av_getR (pc := 8) (k := 47) (r := 116) C fl_X10_134 sk_74 rfl dX10_go_8 ?_
      refine av_aload_n (pc := 11) (j := 0) C dX10_go_11 rfl rfl ?_
      refine av_getI (pc := 12) (k := 52) (n := 4788) C fl_X10_215 sk_74 rfl rfl dX10_go_12 ?_
      obtain ⟨hb, hs⟩ := am_gd_of hs
      refine av_iald (pc := 15) C sk_116 hb dX10_go_15 ?_
      refine av_istore_n (pc := 16) (i := 1) (lv2 := [(1, am_I (S.2 116 (Int.toNat (S.1 4788)))), (0, am_R 74)]) C dX10_go_16 rfl (by decide) rfl ?_
      refine av_aload_n (pc := 17) (j := 1) C dX10_go_17 rfl rfl ?_
      refine av_getR (pc := 18) (k := 48) (r := 117) C fl_X10_137 sk_74 rfl dX10_go_18 ?_
      refine av_aload_n (pc := 21) (j := 1) C dX10_go_21 rfl rfl ?_
      refine av_getI (pc := 22) (k := 52) (n := 4788) C fl_X10_215 sk_74 rfl rfl dX10_go_22 ?_
      obtain ⟨hb, hs⟩ := am_gd_of hs
      refine av_iald (pc := 25) C sk_117 hb dX10_go_25 ?_
      refine av_istore_n (pc := 26) (i := 2) (lv2 := [(2, am_I (S.2 117 (Int.toNat (S.1 4788)))), (1, am_I (S.2 116 (Int.toNat (S.1 4788)))), (0, am_R 74)]) C dX10_go_26 rfl (by decide) rfl ?_
      refine av_iload_n (pc := 27) (j := 0) C dX10_go_27 rfl rfl ?_
      refine av_aload_n (pc := 28) (j := 2) C dX10_go_28 rfl rfl ?_
      refine av_getR (pc := 29) (k := 25) (r := 98) C fl_X10_80 sk_74 rfl dX10_go_29 ?_
      refine av_iload_n (pc := 32) (j := 1) C dX10_go_32 rfl rfl ?_
      obtain ⟨hb, hs⟩ := am_gd_of hs
      refine av_iald (pc := 33) C sk_98 hb dX10_go_33 ?_
      refine av_icmp_lt (pc := 34) (tgt := 47) C dX10_go_34 (by decide) (fun hc => ?_) (fun hc => ?_)
      · rw [if_pos hc] at hs
        refine av_aload_n (pc := 47) (j := 2) C dX10_go_47 rfl rfl ?_
        refine av_getR (pc := 48) (k := 48) (r := 117) C fl_X10_137 sk_74 rfl dX10_go_48 ?_
        refine av_aload_n (pc := 51) (j := 2) C dX10_go_51 rfl rfl ?_
        refine av_getI (pc := 52) (k := 52) (n := 4788) C fl_X10_215 sk_74 rfl rfl dX10_go_52 ?_
        refine av_dup2 (pc := 55) C dX10_go_55 rfl rfl ?_
        obtain ⟨hb, hs⟩ := am_gd_of hs
        refine av_iald (pc := 56) C sk_117 hb dX10_go_56 ?_
        refine av_iconst (pc := 57) C dX10_go_57 rfl ?_
        refine av_iadd (pc := 58) C dX10_go_58 ?_
        obtain ⟨hb, hs⟩ := am_gd_of hs
        obtain ⟨S1, eS1, hs⟩ := am_let_of hs
        refine av_iast (pc := 59) C sk_117 hb dX10_go_59 ?_
        refine av_eq rfl rfl rfl eS1 ?_
        refine av_aload_n (pc := 60) (j := 2) C dX10_go_60 rfl rfl ?_
        refine av_dup (pc := 61) C dX10_go_61 rfl ?_
        refine av_getI (pc := 62) (k := 53) (n := 4789) C fl_X10_263 sk_74 rfl rfl dX10_go_62 ?_
        refine av_iconst (pc := 65) C dX10_go_65 rfl ?_
        refine av_iadd (pc := 66) C dX10_go_66 ?_
        obtain ⟨S2, eS2, hs⟩ := am_let_of hs
        refine av_putI (pc := 67) (k := 53) (n := 4789) C fp_X10_263 sk_74 rfl rfl dX10_go_67 ?_
        refine av_eq rfl rfl rfl eS2 ?_
        refine av_bipush (pc := 70) C dX10_go_70 rfl ?_
        refine av_iload_n (pc := 72) (j := 1) C dX10_go_72 rfl rfl ?_
        refine av_imul (pc := 73) C dX10_go_73 ?_
        refine av_iload_n (pc := 74) (j := 0) C dX10_go_74 rfl rfl ?_
        refine av_iadd (pc := 75) C dX10_go_75 ?_
        refine av_istore_n (pc := 76) (i := 3) (lv2 := [(3, am_I (am_w32 ((am_w32 (10 * (S.2 116 (Int.toNat (S.1 4788))))) + (S.2 117 (Int.toNat (S.1 4788)))))), (2, am_I (S.2 117 (Int.toNat (S.1 4788)))), (1, am_I (S.2 116 (Int.toNat (S.1 4788)))), (0, am_R 74)]) C dX10_go_76 rfl (by decide) rfl ?_
        refine av_aload_n (pc := 77) (j := 3) C dX10_go_77 rfl rfl ?_
        refine av_getI (pc := 78) (k := 53) (n := 4789) C fl_X10_263 sk_74 rfl rfl dX10_go_78 ?_
        refine av_sipush (pc := 81) C dX10_go_81 rfl ?_
        refine av_icmp_le (pc := 84) (tgt := 97) C dX10_go_84 (by decide) (fun hc => ?_) (fun hc => ?_)
        · rw [if_pos hc] at hs
          refine av_aload_n (pc := 97) (j := 3) C dX10_go_97 rfl rfl ?_
          refine av_aload_n (pc := 98) (j := 3) C dX10_go_98 rfl rfl ?_
          refine av_getR (pc := 99) (k := 26) (r := 99) C fl_X10_83 sk_74 rfl dX10_go_99 ?_
          refine av_iload_n (pc := 102) (j := 0) C dX10_go_102 rfl rfl ?_
          obtain ⟨hb, hs⟩ := am_gd_of hs
          refine av_iald (pc := 103) C sk_99 hb dX10_go_103 ?_
          refine av_aload_n (pc := 104) (j := 3) C dX10_go_104 rfl rfl ?_
          refine av_getR (pc := 105) (k := 27) (r := 100) C fl_X10_86 sk_74 rfl dX10_go_105 ?_
          refine av_iload_n (pc := 108) (j := 0) C dX10_go_108 rfl rfl ?_
          obtain ⟨hb, hs⟩ := am_gd_of hs
          refine av_iald (pc := 109) C sk_100 hb dX10_go_109 ?_
          refine av_aload_n (pc := 110) (j := 3) C dX10_go_110 rfl rfl ?_
          refine av_getR (pc := 111) (k := 28) (r := 101) C fl_X10_89 sk_74 rfl dX10_go_111 ?_
          refine av_iload_n (pc := 114) (j := 0) C dX10_go_114 rfl rfl ?_
          obtain ⟨hb, hs⟩ := am_gd_of hs
          refine av_iald (pc := 115) C sk_101 hb dX10_go_115 ?_
          obtain ⟨S3, hc4, hs⟩ := am_b1_of hs
          refine av_eq (st2 := [am_I (S2.2 101 (Int.toNat (am_w32 ((am_w32 (10 * (S.2 116 (Int.toNat (S.1 4788))))) + (S.2 117 (Int.toNat (S.1 4788))))))), am_I (S2.2 100 (Int.toNat (am_w32 ((am_w32 (10 * (S.2 116 (Int.toNat (S.1 4788))))) + (S.2 117 (Int.toNat (S.1 4788))))))), am_I (S2.2 99 (Int.toNat (am_w32 ((am_w32 (10 * (S.2 116 (Int.toNat (S.1 4788))))) + (S.2 117 (Int.toNat (S.1 4788))))))), am_R 74]) rfl rfl rfl rfl (av_callV (pc := 116) (as := [am_I (S2.2 99 (Int.toNat (am_w32 ((am_w32 (10 * (S.2 116 (Int.toNat (S.1 4788))))) + (S.2 117 (Int.toNat (S.1 4788))))))), am_I (S2.2 100 (Int.toNat (am_w32 ((am_w32 (10 * (S.2 116 (Int.toNat (S.1 4788))))) + (S.2 117 (Int.toNat (S.1 4788))))))), am_I (S2.2 101 (Int.toNat (am_w32 ((am_w32 (10 * (S.2 116 (Int.toNat (S.1 4788))))) + (S.2 117 (Int.toNat (S.1 4788)))))))]) (rest := []) C (ct_X10_does l G (S2.2 99 (Int.toNat (am_w32 ((am_w32 (10 * (S.2 116 (Int.toNat (S.1 4788))))) + (S.2 117 (Int.toNat (S.1 4788))))))) (S2.2 100 (Int.toNat (am_w32 ((am_w32 (10 * (S.2 116 (Int.toNat (S.1 4788))))) + (S.2 117 (Int.toNat (S.1 4788))))))) (S2.2 101 (Int.toNat (am_w32 ((am_w32 (10 * (S.2 116 (Int.toNat (S.1 4788))))) + (S.2 117 (Int.toNat (S.1 4788))))))) S2 S3 hc4) ym_X10_does si_X10_266 im_X10_does se_X10_does sk_74 rfl ⟨Nat.le_of_ble_eq_true rfl, Nat.le_of_ble_eq_true rfl⟩ rfl rfl (Nat.le_of_ble_eq_true rfl) dX10_go_116 ⟨Nat.le_refl _, Nat.le_refl _⟩ (fun hrv => av_eq (st2 := []) rfl rfl rfl rfl ?_))
          refine av_goto (pc := 119) (tgt := 0) C dX10_go_119 (by decide) ?_
          refine av_lvsub (lv2 := [(0, am_R 74)]) [3] rfl ?_
          exact ih  S3 SZ hs
        · rw [if_neg hc] at hs
          refine av_aload_n (pc := 87) (j := 3) C dX10_go_87 rfl rfl ?_
          refine av_iconst (pc := 88) C dX10_go_88 rfl ?_
          refine av_bipush (pc := 89) C dX10_go_89 rfl ?_
          obtain ⟨S5, hc6, hs⟩ := am_b1_of hs
          refine av_eq (st2 := [am_I (-4), am_I 0, am_R 74]) rfl rfl rfl rfl (av_callV (pc := 91) (as := [am_I 0, am_I (-4)]) (rest := []) C (ct_X10_fling l G 0 (-4) S2 S5 hc6) ym_X10_fling si_X10_244 im_X10_fling se_X10_fling sk_74 rfl ⟨Nat.le_of_ble_eq_true rfl, Nat.le_of_ble_eq_true rfl⟩ rfl rfl (Nat.le_of_ble_eq_true rfl) dX10_go_91 ⟨Nat.le_refl _, Nat.le_refl _⟩ (fun hrv => av_eq (st2 := []) rfl rfl rfl rfl ?_))
          refine av_goto (pc := 94) (tgt := 119) C dX10_go_94 (by decide) ?_
          refine av_goto (pc := 119) (tgt := 0) C dX10_go_119 (by decide) ?_
          refine av_lvsub (lv2 := [(0, am_R 74)]) [3] rfl ?_
          exact ih  S5 SZ hs
      · rw [if_neg hc] at hs
        refine av_aload_n (pc := 37) (j := 2) C dX10_go_37 rfl rfl ?_
        refine av_iconst (pc := 38) C dX10_go_38 rfl ?_
        refine av_iconst (pc := 39) C dX10_go_39 rfl ?_
        refine av_iconst (pc := 40) C dX10_go_40 rfl ?_
        obtain ⟨S7, hc8, hs⟩ := am_b1_of hs
        refine av_eq (st2 := [am_I 0, am_I 0, am_I 0, am_R 74]) rfl rfl rfl rfl (av_callV (pc := 41) (as := [am_I 0, am_I 0, am_I 0]) (rest := []) C (ct_X10_finish l G 0 0 0 S S7 hc8) ym_X10_finish si_X10_226 im_X10_finish se_X10_finish sk_74 rfl ⟨Nat.le_of_ble_eq_true rfl, Nat.le_of_ble_eq_true rfl⟩ rfl rfl (Nat.le_of_ble_eq_true rfl) dX10_go_41 ⟨Nat.le_refl _, Nat.le_refl _⟩ (fun hrv => av_eq (st2 := []) rfl rfl rfl rfl ?_))
        refine av_goto (pc := 44) (tgt := 0) C dX10_go_44 (by decide) ?_
        refine av_lvsub (lv2 := [(0, am_R 74)]) [2] rfl ?_
        exact ih  S7 SZ hs
set_option maxHeartbeats 20000000 in
set_option maxRecDepth 100000 in
theorem ct_X10_go (l : Launch) (G : am_G) (S : am_S) (SZ : am_S) (hs : sf_X10_go  S = some SZ) : am_met l yX10_go cX10_go 4 none 8 200 G [am_R 74] S none SZ := by
  refine am_enter ym_X10_go (Nat.le_of_ble_eq_true rfl) ?_
  intro p e s m args below meth c C hr hlocks
  refine av_eq (lv2 := [(0, am_R 74)]) rfl rfl rfl rfl ?_
  unfold sf_X10_go at hs
  exact wk_X10_go_0 C hr hlocks 1000000  S SZ hs
set_option maxHeartbeats 4000000 in
set_option maxRecDepth 100000 in
theorem ct_X10_start (l : Launch) (G : am_G) (a1 : Int) (a2 : Int) (a3 : Int) (S : am_S) (x : Int) (SZ : am_S) (hs : sf_X10_start a1 a2 a3 S = some (x, SZ)) : am_met l yX10_start cX10_start 5 (some .int) 9 223 G [am_R 74, am_I a1, am_I a2, am_I a3] S (some (am_I x)) SZ := by
  refine am_enter ym_X10_start (Nat.le_of_ble_eq_true rfl) ?_
  intro p e s m args below meth c C hr hlocks
  refine av_eq (lv2 := [(0, am_R 74), (1, am_I a1), (2, am_I a2), (3, am_I a3)]) rfl rfl rfl rfl ?_
  unfold sf_X10_start at hs
  refine av_iload_n (pc := 0) (j := 1) C dX10_start_0 rfl rfl ?_
  refine av_iconst (pc := 1) C dX10_start_1 rfl ?_
  refine av_bipush (pc := 2) C dX10_start_2 rfl ?_
  obtain ⟨x2, S1, hc3, hs⟩ := am_b2_of hs
  refine av_eq (st2 := [am_I 9, am_I 0, am_I a1]) rfl rfl rfl rfl (av_callS (pc := 4) (as := [am_I a1, am_I 0, am_I 9]) (rest := []) C (ct_X10_in l G a1 0 9 S x2 S1 hc3) ym_X10_in si_X10_171 st_X10_in ⟨Nat.le_of_ble_eq_true rfl, Nat.le_of_ble_eq_true rfl⟩ rfl rfl (Nat.le_of_ble_eq_true rfl) dX10_start_4 ⟨Nat.le_refl _, Nat.le_refl _⟩ (fun hrv => av_eq (st2 := [am_I x2]) rfl rfl rfl rfl ?_))
  refine av_if_eq (pc := 7) (tgt := 19) C dX10_start_7 (by decide) (fun hc => ?_) (fun hc => ?_)
  · rw [if_pos hc] at hs
    refine av_iconst (pc := 19) C dX10_start_19 rfl ?_
    obtain ⟨rfl, rfl⟩ := am_inj2 hs
    exact av_iret C hr hlocks dX10_start_20
  · rw [if_neg hc] at hs
    refine av_aload_n (pc := 10) (j := 0) C dX10_start_10 rfl rfl ?_
    refine av_iload_n (pc := 11) (j := 2) C dX10_start_11 rfl rfl ?_
    refine av_iload_n (pc := 12) (j := 3) C dX10_start_12 rfl rfl ?_
    obtain ⟨x5, S4, hc6, hs⟩ := am_b2_of hs
    refine av_eq (st2 := [am_I a3, am_I a2, am_R 74]) rfl rfl rfl rfl (av_callV (pc := 13) (as := [am_I a2, am_I a3]) (rest := []) C (ct_X10_isValue l G a2 a3 S1 x5 S4 hc6) ym_X10_isValue si_X10_204 im_X10_isValue se_X10_isValue sk_74 rfl ⟨Nat.le_of_ble_eq_true rfl, Nat.le_of_ble_eq_true rfl⟩ rfl rfl (Nat.le_of_ble_eq_true rfl) dX10_start_13 ⟨Nat.le_refl _, Nat.le_refl _⟩ (fun hrv => av_eq (st2 := [am_I x5]) rfl rfl rfl rfl ?_))
    refine av_if_ne (pc := 16) (tgt := 21) C dX10_start_16 (by decide) (fun hc => ?_) (fun hc => ?_)
    · rw [if_neg hc] at hs
      refine av_aload_n (pc := 21) (j := 0) C dX10_start_21 rfl rfl ?_
      obtain ⟨x8, S7, hc9, hs⟩ := am_b2_of hs
      refine av_eq (st2 := [am_R 74]) rfl rfl rfl rfl (av_callV (pc := 22) (as := []) (rest := []) C (ct_X10_promise l G  S4 x8 S7 hc9) ym_X10_promise si_X10_207 im_X10_promise se_X10_promise sk_74 rfl ⟨Nat.le_of_ble_eq_true rfl, Nat.le_of_ble_eq_true rfl⟩ rfl rfl (Nat.le_of_ble_eq_true rfl) dX10_start_22 ⟨Nat.le_refl _, Nat.le_refl _⟩ (fun hrv => av_eq (st2 := [am_I x8]) rfl rfl rfl rfl ?_))
      refine av_istore (pc := 25) (i := 4) (lv2 := [(4, am_I x8), (0, am_R 74), (1, am_I a1), (2, am_I a2), (3, am_I a3)]) C dX10_start_25 (by decide) rfl ?_
      refine av_iload (pc := 27) (j := 0) C dX10_start_27 rfl ?_
      refine av_if_ge (pc := 29) (tgt := 35) C dX10_start_29 (by decide) (fun hc => ?_) (fun hc => ?_)
      · rw [if_pos hc] at hs
        refine av_aload_n (pc := 35) (j := 1) C dX10_start_35 rfl rfl ?_
        refine av_iconst (pc := 36) C dX10_start_36 rfl ?_
        obtain ⟨S10, eS10, hs⟩ := am_let_of hs
        refine av_putI (pc := 37) (k := 53) (n := 4789) C fp_X10_263 sk_74 rfl rfl dX10_start_37 ?_
        refine av_eq rfl rfl rfl eS10 ?_
        refine av_aload_n (pc := 40) (j := 1) C dX10_start_40 rfl rfl ?_
        refine av_iconst (pc := 41) C dX10_start_41 rfl ?_
        obtain ⟨S11, eS11, hs⟩ := am_let_of hs
        refine av_putI (pc := 42) (k := 52) (n := 4788) C fp_X10_215 sk_74 rfl rfl dX10_start_42 ?_
        refine av_eq rfl rfl rfl eS11 ?_
        refine av_aload_n (pc := 45) (j := 1) C dX10_start_45 rfl rfl ?_
        refine av_iload_n (pc := 46) (j := 2) C dX10_start_46 rfl rfl ?_
        refine av_iconst (pc := 47) C dX10_start_47 rfl ?_
        refine av_iload_n (pc := 48) (j := 3) C dX10_start_48 rfl rfl ?_
        refine av_iload_n (pc := 49) (j := 4) C dX10_start_49 rfl rfl ?_
        refine av_iload (pc := 50) (j := 0) C dX10_start_50 rfl ?_
        obtain ⟨S12, hc13, hs⟩ := am_b1_of hs
        refine av_eq (st2 := [am_I x8, am_I a3, am_I a2, am_I 0, am_I a1, am_R 74]) rfl rfl rfl rfl (av_callV (pc := 52) (as := [am_I a1, am_I 0, am_I a2, am_I a3, am_I x8]) (rest := []) C (ct_X10_begin l G a1 0 a2 a3 x8 S11 S12 hc13) ym_X10_begin si_X10_256 im_X10_begin se_X10_begin sk_74 rfl ⟨Nat.le_of_ble_eq_true rfl, Nat.le_of_ble_eq_true rfl⟩ rfl rfl (Nat.le_of_ble_eq_true rfl) dX10_start_52 ⟨Nat.le_refl _, Nat.le_refl _⟩ (fun hrv => av_eq (st2 := []) rfl rfl rfl rfl ?_))
        refine av_aload_n (pc := 55) (j := 1) C dX10_start_55 rfl rfl ?_
        obtain ⟨S14, hc15, hs⟩ := am_b1_of hs
        refine av_eq (st2 := [am_R 74]) rfl rfl rfl rfl (av_callV (pc := 56) (as := []) (rest := []) C (ct_X10_go l G  S12 S14 hc15) ym_X10_go si_X10_270 im_X10_go se_X10_go sk_74 rfl ⟨Nat.le_of_ble_eq_true rfl, Nat.le_of_ble_eq_true rfl⟩ rfl rfl (Nat.le_of_ble_eq_true rfl) dX10_start_56 ⟨Nat.le_refl _, Nat.le_refl _⟩ (fun hrv => av_eq (st2 := []) rfl rfl rfl rfl ?_))
        refine av_iload (pc := 59) (j := 0) C dX10_start_59 rfl ?_
        obtain ⟨rfl, rfl⟩ := am_inj2 hs
        exact av_iret C hr hlocks dX10_start_61
      · rw [if_neg hc] at hs
        refine av_iload (pc := 32) (j := 0) C dX10_start_32 rfl ?_
        obtain ⟨rfl, rfl⟩ := am_inj2 hs
        exact av_iret C hr hlocks dX10_start_34
    · rw [if_pos (Decidable.not_not.mp hc)] at hs
      refine av_iconst (pc := 19) C dX10_start_19 rfl ?_
      obtain ⟨rfl, rfl⟩ := am_inj2 hs
      exact av_iret C hr hlocks dX10_start_20
set_option maxHeartbeats 4000000 in
set_option maxRecDepth 100000 in
theorem ct_X10_isLoose (l : Launch) (G : am_G) (a1 : Int) (S : am_S) (x : Int) (SZ : am_S) (hs : sf_X10_isLoose a1 S = some (x, SZ)) : am_met l yX10_isLoose cX10_isLoose 2 (some .boolean) 0 0 G [am_R 74, am_I a1] S (some (am_I x)) SZ := by
  refine am_enter ym_X10_isLoose (Nat.le_of_ble_eq_true rfl) ?_
  intro p e s m args below meth c C hr hlocks
  refine av_eq (lv2 := [(0, am_R 74), (1, am_I a1)]) rfl rfl rfl rfl ?_
  unfold sf_X10_isLoose at hs
  refine av_aload_n (pc := 0) (j := 0) C dX10_isLoose_0 rfl rfl ?_
  refine av_getR (pc := 1) (k := 0) (r := 75) C fl_X10_7 sk_74 rfl dX10_isLoose_1 ?_
  refine av_iload_n (pc := 4) (j := 1) C dX10_isLoose_4 rfl rfl ?_
  obtain ⟨hb, hs⟩ := am_gd_of hs
  refine av_iald (pc := 5) C sk_75 hb dX10_isLoose_5 ?_
  refine av_iconst (pc := 6) C dX10_isLoose_6 rfl ?_
  refine av_icmp_ne (pc := 7) (tgt := 23) C dX10_isLoose_7 (by decide) (fun hc => ?_) (fun hc => ?_)
  · rw [if_neg hc] at hs
    refine av_iconst (pc := 23) C dX10_isLoose_23 rfl ?_
    obtain ⟨rfl, rfl⟩ := am_inj2 hs
    exact av_zret C (by decide) hr hlocks dX10_isLoose_24
  · rw [if_pos (Decidable.not_not.mp hc)] at hs
    refine av_aload_n (pc := 10) (j := 0) C dX10_isLoose_10 rfl rfl ?_
    refine av_getR (pc := 11) (k := 7) (r := 82) C fl_X10_32 sk_74 rfl dX10_isLoose_11 ?_
    refine av_iload_n (pc := 14) (j := 1) C dX10_isLoose_14 rfl rfl ?_
    obtain ⟨hb, hs⟩ := am_gd_of hs
    refine av_zald (pc := 15) C sk_82 hb dX10_isLoose_15 ?_
    refine av_if_ne (pc := 16) (tgt := 23) C dX10_isLoose_16 (by decide) (fun hc => ?_) (fun hc => ?_)
    · rw [if_neg hc] at hs
      refine av_iconst (pc := 23) C dX10_isLoose_23 rfl ?_
      obtain ⟨rfl, rfl⟩ := am_inj2 hs
      exact av_zret C (by decide) hr hlocks dX10_isLoose_24
    · rw [if_pos (Decidable.not_not.mp hc)] at hs
      refine av_iconst (pc := 19) C dX10_isLoose_19 rfl ?_
      refine av_goto (pc := 20) (tgt := 24) C dX10_isLoose_20 (by decide) ?_
      obtain ⟨rfl, rfl⟩ := am_inj2 hs
      exact av_zret C (by decide) hr hlocks dX10_isLoose_24
set_option maxHeartbeats 4000000 in
set_option maxRecDepth 100000 in
theorem wk_X10_waiting_4 {p : Program} {l : Launch} {e : Env} {s : State} {m : MethodId} {args : Array Value} {below : List Frame} {meth : Method} {c : Code} {G : am_G} (C : am_C p s m args c cX10_waiting 4 RX10 G) (hr : meth.sig.returnType = (some .int)) (hlocks : meth.locks = false) : ∀ (fu : Nat) (b1 : Int) (b2 : Int) (b3 : Int) (S : am_S) (x : Int) (SZ : am_S), sf_X10_waiting_4 fu b1 b2 b3 S = some (x, SZ) → am_V p l e (am_rm 0 0) s m args below meth c (MQ below (am_Q G (some (am_I x)) SZ) args s 0 0 (am_A G)) G (am_A G) s.heap 4 0 0 4 [(0, am_R 74), (1, am_I b1), (2, am_I b2), (3, am_I b3)] [] S := by
  intro fu
  induction fu with
  | zero => intro b1 b2 b3 S x SZ hs; cases hs
  | succ fu ih =>
    intro b1 b2 b3 S x SZ hs
    unfold sf_X10_waiting_4 at hs
    refine av_iload_n (pc := 4) (j := 3) C dX10_waiting_4 rfl rfl ?_
    refine av_sipush (pc := 5) C dX10_waiting_5 rfl ?_
    refine av_icmp_ge (pc := 8) (tgt := 39) C dX10_waiting_8 (by decide) (fun hc => ?_) (fun hc => ?_)
    · rw [if_pos hc] at hs
      refine av_iload_n (pc := 39) (j := 2) C dX10_waiting_39 rfl rfl ?_
      obtain ⟨rfl, rfl⟩ := am_inj2 hs
      exact av_iret C hr hlocks dX10_waiting_40
    · rw [if_neg hc] at hs
      refine av_aload_n (pc := 11) (j := 0) C dX10_waiting_11 rfl rfl ?_
      refine av_getR (pc := 12) (k := 10) (r := 84) C fl_X10_38 sk_74 rfl dX10_waiting_12 ?_
      refine av_iload_n (pc := 15) (j := 3) C dX10_waiting_15 rfl rfl ?_
      obtain ⟨hb, hs⟩ := am_gd_of hs
      refine av_iald (pc := 16) C sk_84 hb dX10_waiting_16 ?_
      refine av_if_eq (pc := 17) (tgt := 33) C dX10_waiting_17 (by decide) (fun hc => ?_) (fun hc => ?_)
      · rw [if_pos hc] at hs
        refine av_iinc (pc := 33) (j := 3) (lv2 := [(3, am_I (am_w32 (b3 + 1))), (0, am_R 74), (1, am_I b1), (2, am_I b2)]) C dX10_waiting_33 rfl (by decide) rfl ?_
        refine av_goto (pc := 36) (tgt := 4) C dX10_waiting_36 (by decide) ?_
        refine av_lvsub (lv2 := [(0, am_R 74), (1, am_I b1), (2, am_I b2), (3, am_I (am_w32 (b3 + 1)))]) [1, 2, 3, 0] rfl ?_
        exact ih b1 b2 (am_w32 (b3 + 1)) S x SZ hs
      · rw [if_neg hc] at hs
        refine av_aload_n (pc := 20) (j := 0) C dX10_waiting_20 rfl rfl ?_
        refine av_getR (pc := 21) (k := 11) (r := 85) C fl_X10_41 sk_74 rfl dX10_waiting_21 ?_
        refine av_iload_n (pc := 24) (j := 3) C dX10_waiting_24 rfl rfl ?_
        obtain ⟨hb, hs⟩ := am_gd_of hs
        refine av_iald (pc := 25) C sk_85 hb dX10_waiting_25 ?_
        refine av_iload_n (pc := 26) (j := 1) C dX10_waiting_26 rfl rfl ?_
        refine av_icmp_ne (pc := 27) (tgt := 33) C dX10_waiting_27 (by decide) (fun hc => ?_) (fun hc => ?_)
        · rw [if_neg hc] at hs
          refine av_iinc (pc := 33) (j := 3) (lv2 := [(3, am_I (am_w32 (b3 + 1))), (0, am_R 74), (1, am_I b1), (2, am_I b2)]) C dX10_waiting_33 rfl (by decide) rfl ?_
          refine av_goto (pc := 36) (tgt := 4) C dX10_waiting_36 (by decide) ?_
          refine av_lvsub (lv2 := [(0, am_R 74), (1, am_I b1), (2, am_I b2), (3, am_I (am_w32 (b3 + 1)))]) [1, 2, 3, 0] rfl ?_
          exact ih b1 b2 (am_w32 (b3 + 1)) S x SZ hs
        · rw [if_pos (Decidable.not_not.mp hc)] at hs
          refine av_iinc (pc := 30) (j := 2) (lv2 := [(2, am_I (am_w32 (b2 + 1))), (0, am_R 74), (1, am_I b1), (3, am_I b3)]) C dX10_waiting_30 rfl (by decide) rfl ?_
          refine av_iinc (pc := 33) (j := 3) (lv2 := [(3, am_I (am_w32 (b3 + 1))), (2, am_I (am_w32 (b2 + 1))), (0, am_R 74), (1, am_I b1)]) C dX10_waiting_33 rfl (by decide) rfl ?_
          refine av_goto (pc := 36) (tgt := 4) C dX10_waiting_36 (by decide) ?_
          refine av_lvsub (lv2 := [(0, am_R 74), (1, am_I b1), (2, am_I (am_w32 (b2 + 1))), (3, am_I (am_w32 (b3 + 1)))]) [2, 3, 1, 0] rfl ?_
          exact ih b1 (am_w32 (b2 + 1)) (am_w32 (b3 + 1)) S x SZ hs
set_option maxHeartbeats 4000000 in
set_option maxRecDepth 100000 in
theorem ct_X10_waiting (l : Launch) (G : am_G) (a1 : Int) (S : am_S) (x : Int) (SZ : am_S) (hs : sf_X10_waiting a1 S = some (x, SZ)) : am_met l yX10_waiting cX10_waiting 4 (some .int) 0 0 G [am_R 74, am_I a1] S (some (am_I x)) SZ := by
  refine am_enter ym_X10_waiting (Nat.le_of_ble_eq_true rfl) ?_
  intro p e s m args below meth c C hr hlocks
  refine av_eq (lv2 := [(0, am_R 74), (1, am_I a1)]) rfl rfl rfl rfl ?_
  unfold sf_X10_waiting at hs
  refine av_iconst (pc := 0) C dX10_waiting_0 rfl ?_
  refine av_istore_n (pc := 1) (i := 2) (lv2 := [(2, am_I 0), (0, am_R 74), (1, am_I a1)]) C dX10_waiting_1 rfl (by decide) rfl ?_
  refine av_iconst (pc := 2) C dX10_waiting_2 rfl ?_
  refine av_istore_n (pc := 3) (i := 3) (lv2 := [(3, am_I 0), (2, am_I 0), (0, am_R 74), (1, am_I a1)]) C dX10_waiting_3 rfl (by decide) rfl ?_
  refine av_lvsub (lv2 := [(0, am_R 74), (1, am_I a1), (2, am_I 0), (3, am_I 0)]) [2, 3, 1, 0] rfl ?_
  exact wk_X10_waiting_4 C hr hlocks 1000 a1 0 0 S x SZ hs
set_option maxHeartbeats 4000000 in
set_option maxRecDepth 100000 in
theorem wk_X10_count_66 {p : Program} {l : Launch} {e : Env} {s : State} {m : MethodId} {args : Array Value} {below : List Frame} {meth : Method} {c : Code} {G : am_G} (C : am_C p s m args c cX10_count 4 RX10 G) (hr : meth.sig.returnType = (some .int)) (hlocks : meth.locks = false) : ∀ (fu : Nat) (b2 : Int) (b3 : Int) (S : am_S) (x : Int) (SZ : am_S), sf_X10_count_66 fu b2 b3 S = some (x, SZ) → am_V p l e (am_rm 1 23) s m args below meth c (MQ below (am_Q G (some (am_I x)) SZ) args s 0 0 (am_A G)) G (am_A G) s.heap 4 0 0 66 [(0, am_R 74), (2, am_I b2), (3, am_I b3)] [] S := by
  intro fu
  induction fu with
  | zero => intro b2 b3 S x SZ hs; cases hs
  | succ fu ih =>
    intro b2 b3 S x SZ hs
    unfold sf_X10_count_66 at hs
    refine av_iload_n (pc := 66) (j := 2) C dX10_count_66 rfl rfl ?_
    refine av_bipush (pc := 67) C dX10_count_67 rfl ?_
    refine av_icmp_ge (pc := 69) (tgt := 90) C dX10_count_69 (by decide) (fun hc => ?_) (fun hc => ?_)
    · rw [if_pos hc] at hs
      refine av_iload_n (pc := 90) (j := 1) C dX10_count_90 rfl rfl ?_
      obtain ⟨rfl, rfl⟩ := am_inj2 hs
      exact av_iret C hr hlocks dX10_count_91
    · rw [if_neg hc] at hs
      refine av_aload_n (pc := 72) (j := 0) C dX10_count_72 rfl rfl ?_
      refine av_getR (pc := 73) (k := 36) (r := 108) C fl_X10_110 sk_74 rfl dX10_count_73 ?_
      refine av_iload_n (pc := 76) (j := 2) C dX10_count_76 rfl rfl ?_
      obtain ⟨hb, hs⟩ := am_gd_of hs
      refine av_iald (pc := 77) C sk_108 hb dX10_count_77 ?_
      refine av_if_lt (pc := 78) (tgt := 84) C dX10_count_78 (by decide) (fun hc => ?_) (fun hc => ?_)
      · rw [if_pos hc] at hs
        refine av_iinc (pc := 84) (j := 2) (lv2 := [(3, am_I (am_w32 (b3 + 1))), (0, am_R 74), (2, am_I b2)]) C dX10_count_84 rfl (by decide) rfl ?_
        refine av_goto (pc := 87) (tgt := 66) C dX10_count_87 (by decide) ?_
        refine av_lvsub (lv2 := [(0, am_R 74), (2, am_I b2), (3, am_I (am_w32 (b3 + 1)))]) [1, 2, 0] rfl ?_
        exact ih b2 (am_w32 (b3 + 1)) S x SZ hs
      · rw [if_neg hc] at hs
        refine av_iinc (pc := 81) (j := 1) (lv2 := [(2, am_I (am_w32 (b2 + 1))), (0, am_R 74), (3, am_I b3)]) C dX10_count_81 rfl (by decide) rfl ?_
        refine av_iinc (pc := 84) (j := 2) (lv2 := [(3, am_I (am_w32 (b3 + 1))), (2, am_I (am_w32 (b2 + 1))), (0, am_R 74)]) C dX10_count_84 rfl (by decide) rfl ?_
        refine av_goto (pc := 87) (tgt := 66) C dX10_count_87 (by decide) ?_
        refine av_lvsub (lv2 := [(0, am_R 74), (2, am_I (am_w32 (b2 + 1))), (3, am_I (am_w32 (b3 + 1)))]) [2, 1, 0] rfl ?_
        exact ih (am_w32 (b2 + 1)) (am_w32 (b3 + 1)) S x SZ hs
set_option maxHeartbeats 4000000 in
set_option maxRecDepth 100000 in
theorem wk_X10_count_104 {p : Program} {l : Launch} {e : Env} {s : State} {m : MethodId} {args : Array Value} {below : List Frame} {meth : Method} {c : Code} {G : am_G} (C : am_C p s m args c cX10_count 4 RX10 G) (hr : meth.sig.returnType = (some .int)) (hlocks : meth.locks = false) : ∀ (fu : Nat) (b2 : Int) (b3 : Int) (S : am_S) (x : Int) (SZ : am_S), sf_X10_count_104 fu b2 b3 S = some (x, SZ) → am_V p l e (am_rm 1 23) s m args below meth c (MQ below (am_Q G (some (am_I x)) SZ) args s 0 0 (am_A G)) G (am_A G) s.heap 4 0 0 104 [(0, am_R 74), (2, am_I b2), (3, am_I b3)] [] S := by
  intro fu
  induction fu with
  | zero => intro b2 b3 S x SZ hs; cases hs
  | succ fu ih =>
    intro b2 b3 S x SZ hs
    unfold sf_X10_count_104 at hs
    refine av_iload_n (pc := 104) (j := 2) C dX10_count_104 rfl rfl ?_
    refine av_aload_n (pc := 105) (j := 0) C dX10_count_105 rfl rfl ?_
    refine av_getI (pc := 106) (k := 9) (n := 4745) C fl_X10_152 sk_74 rfl rfl dX10_count_106 ?_
    refine av_icmp_ge (pc := 109) (tgt := 129) C dX10_count_109 (by decide) (fun hc => ?_) (fun hc => ?_)
    · rw [if_pos hc] at hs
      refine av_iload_n (pc := 129) (j := 1) C dX10_count_129 rfl rfl ?_
      obtain ⟨rfl, rfl⟩ := am_inj2 hs
      exact av_iret C hr hlocks dX10_count_130
    · rw [if_neg hc] at hs
      refine av_aload_n (pc := 112) (j := 0) C dX10_count_112 rfl rfl ?_
      refine av_iload_n (pc := 113) (j := 2) C dX10_count_113 rfl rfl ?_
      obtain ⟨x6, S5, hc7, hs⟩ := am_b2_of hs
      refine av_eq (st2 := [am_I b3, am_R 74]) rfl rfl rfl rfl (av_callV (pc := 114) (as := [am_I b3]) (rest := []) C (ct_X10_isLoose l G b3 S x6 S5 hc7) ym_X10_isLoose si_X10_293 im_X10_isLoose se_X10_isLoose sk_74 rfl ⟨Nat.le_of_ble_eq_true rfl, Nat.le_of_ble_eq_true rfl⟩ rfl rfl (Nat.le_of_ble_eq_true rfl) dX10_count_114 ⟨Nat.le_refl _, Nat.le_refl _⟩ (fun hrv => av_eq (st2 := [am_I x6]) rfl rfl rfl rfl ?_))
      refine av_if_eq (pc := 117) (tgt := 123) C dX10_count_117 (by decide) (fun hc => ?_) (fun hc => ?_)
      · rw [if_pos hc] at hs
        refine av_iinc (pc := 123) (j := 2) (lv2 := [(3, am_I (am_w32 (b3 + 1))), (0, am_R 74), (2, am_I b2)]) C dX10_count_123 rfl (by decide) rfl ?_
        refine av_goto (pc := 126) (tgt := 104) C dX10_count_126 (by decide) ?_
        refine av_lvsub (lv2 := [(0, am_R 74), (2, am_I b2), (3, am_I (am_w32 (b3 + 1)))]) [1, 2, 0] rfl ?_
        exact ih b2 (am_w32 (b3 + 1)) S5 x SZ hs
      · rw [if_neg hc] at hs
        refine av_iinc (pc := 120) (j := 1) (lv2 := [(2, am_I (am_w32 (b2 + 1))), (0, am_R 74), (3, am_I b3)]) C dX10_count_120 rfl (by decide) rfl ?_
        refine av_iinc (pc := 123) (j := 2) (lv2 := [(3, am_I (am_w32 (b3 + 1))), (2, am_I (am_w32 (b2 + 1))), (0, am_R 74)]) C dX10_count_123 rfl (by decide) rfl ?_
        refine av_goto (pc := 126) (tgt := 104) C dX10_count_126 (by decide) ?_
        refine av_lvsub (lv2 := [(0, am_R 74), (2, am_I (am_w32 (b2 + 1))), (3, am_I (am_w32 (b3 + 1)))]) [2, 1, 0] rfl ?_
        exact ih (am_w32 (b2 + 1)) (am_w32 (b3 + 1)) S5 x SZ hs
set_option maxHeartbeats 4000000 in
set_option maxRecDepth 100000 in
theorem ct_X10_count (l : Launch) (G : am_G) (a1 : Int) (S : am_S) (x : Int) (SZ : am_S) (hs : sf_X10_count a1 S = some (x, SZ)) : am_met l yX10_count cX10_count 4 (some .int) 1 23 G [am_R 74, am_I a1] S (some (am_I x)) SZ := by
  refine am_enter ym_X10_count (Nat.le_of_ble_eq_true rfl) ?_
  intro p e s m args below meth c C hr hlocks
  refine av_eq (lv2 := [(0, am_R 74), (1, am_I a1)]) rfl rfl rfl rfl ?_
  unfold sf_X10_count at hs
  refine av_iconst (pc := 0) C dX10_count_0 rfl ?_
  refine av_istore_n (pc := 1) (i := 2) (lv2 := [(2, am_I 0), (0, am_R 74), (1, am_I a1)]) C dX10_count_1 rfl (by decide) rfl ?_
  refine av_iload_n (pc := 2) (j := 2) C dX10_count_2 rfl rfl ?_
  have hdef1 : (hs : (some ((-1), S)) = some (x, SZ)) → am_V p l e (am_rm 1 23) s m args below meth c (MQ below (am_Q G (some (am_I x)) SZ) args s 0 0 (am_A G)) G (am_A G) s.heap 4 0 0 136 [(2, am_I 0), (0, am_R 74), (1, am_I a1)] [] S := by
    intro hs
    refine av_iconst (pc := 136) C dX10_count_136 rfl ?_
    obtain ⟨rfl, rfl⟩ := am_inj2 hs
    exact av_iret C hr hlocks dX10_count_137
  by_cases hk0 : a1 = 0
  · rw [if_pos hk0] at hs
    refine av_swi (pc := 3) (k := 0) (tgt := 48) C dX10_count_3 (by rw [hk0]; rfl) (by decide) rfl (by decide) ?_
    refine av_aload_n (pc := 48) (j := 1) C dX10_count_48 rfl rfl ?_
    refine av_getI (pc := 49) (k := 9) (n := 4745) C fl_X10_152 sk_74 rfl rfl dX10_count_49 ?_
    obtain ⟨rfl, rfl⟩ := am_inj2 hs
    exact av_iret C hr hlocks dX10_count_52
  · rw [if_neg hk0] at hs
    by_cases hk1 : a1 = 1
    · rw [if_pos hk1] at hs
      refine av_swi (pc := 3) (k := 1) (tgt := 53) C dX10_count_3 (by rw [hk1]; rfl) (by decide) rfl (by decide) ?_
      refine av_aload_n (pc := 53) (j := 1) C dX10_count_53 rfl rfl ?_
      refine av_iconst (pc := 54) C dX10_count_54 rfl ?_
      obtain ⟨x3, S2, hc4, hs⟩ := am_b2_of hs
      refine av_eq (st2 := [am_I (-1), am_R 74]) rfl rfl rfl rfl (av_callV (pc := 55) (as := [am_I (-1)]) (rest := []) C (ct_X10_waiting l G (-1) S x3 S2 hc4) ym_X10_waiting si_X10_296 im_X10_waiting se_X10_waiting sk_74 rfl ⟨Nat.le_of_ble_eq_true rfl, Nat.le_of_ble_eq_true rfl⟩ rfl rfl (Nat.le_of_ble_eq_true rfl) dX10_count_55 ⟨Nat.le_refl _, Nat.le_refl _⟩ (fun hrv => av_eq (st2 := [am_I x3]) rfl rfl rfl rfl ?_))
      obtain ⟨rfl, rfl⟩ := am_inj2 hs
      exact av_iret C hr hlocks dX10_count_58
    · rw [if_neg hk1] at hs
      by_cases hk2 : a1 = 2
      · rw [if_pos hk2] at hs
        refine av_swi (pc := 3) (k := 2) (tgt := 59) C dX10_count_3 (by rw [hk2]; rfl) (by decide) rfl (by decide) ?_
        refine av_aload_n (pc := 59) (j := 1) C dX10_count_59 rfl rfl ?_
        refine av_getI (pc := 60) (k := 42) (n := 4778) C fl_X10_165 sk_74 rfl rfl dX10_count_60 ?_
        obtain ⟨rfl, rfl⟩ := am_inj2 hs
        exact av_iret C hr hlocks dX10_count_63
      · rw [if_neg hk2] at hs
        by_cases hk3 : a1 = 3
        · rw [if_pos hk3] at hs
          refine av_swi (pc := 3) (k := 3) (tgt := 64) C dX10_count_3 (by rw [hk3]; rfl) (by decide) rfl (by decide) ?_
          refine av_iconst (pc := 64) C dX10_count_64 rfl ?_
          refine av_istore_n (pc := 65) (i := 3) (lv2 := [(3, am_I 0), (2, am_I 0), (0, am_R 74), (1, am_I a1)]) C dX10_count_65 rfl (by decide) rfl ?_
          refine av_lvsub (lv2 := [(0, am_R 74), (2, am_I 0), (3, am_I 0)]) [2, 1, 0] rfl ?_
          exact wk_X10_count_66 C hr hlocks 1000 0 0 S x SZ hs
        · rw [if_neg hk3] at hs
          by_cases hk4 : a1 = 4
          · rw [if_pos hk4] at hs
            refine av_swi (pc := 3) (k := 4) (tgt := 92) C dX10_count_3 (by rw [hk4]; rfl) (by decide) rfl (by decide) ?_
            refine av_aload_n (pc := 92) (j := 1) C dX10_count_92 rfl rfl ?_
            refine av_getI (pc := 93) (k := 41) (n := 4777) C fl_X10_162 sk_74 rfl rfl dX10_count_93 ?_
            obtain ⟨rfl, rfl⟩ := am_inj2 hs
            exact av_iret C hr hlocks dX10_count_96
          · rw [if_neg hk4] at hs
            by_cases hk5 : a1 = 5
            · rw [if_pos hk5] at hs
              refine av_swi (pc := 3) (k := 5) (tgt := 97) C dX10_count_3 (by rw [hk5]; rfl) (by decide) rfl (by decide) ?_
              refine av_aload_n (pc := 97) (j := 1) C dX10_count_97 rfl rfl ?_
              refine av_getI (pc := 98) (k := 46) (n := 4782) C fl_X10_168 sk_74 rfl rfl dX10_count_98 ?_
              obtain ⟨rfl, rfl⟩ := am_inj2 hs
              exact av_iret C hr hlocks dX10_count_101
            · rw [if_neg hk5] at hs
              by_cases hk6 : a1 = 6
              · rw [if_pos hk6] at hs
                refine av_swi (pc := 3) (k := 6) (tgt := 102) C dX10_count_3 (by rw [hk6]; rfl) (by decide) rfl (by decide) ?_
                refine av_iconst (pc := 102) C dX10_count_102 rfl ?_
                refine av_istore_n (pc := 103) (i := 3) (lv2 := [(3, am_I 0), (2, am_I 0), (0, am_R 74), (1, am_I a1)]) C dX10_count_103 rfl (by decide) rfl ?_
                refine av_lvsub (lv2 := [(0, am_R 74), (2, am_I 0), (3, am_I 0)]) [2, 1, 0] rfl ?_
                exact wk_X10_count_104 C hr hlocks 1000 0 0 S x SZ hs
              · rw [if_neg hk6] at hs
                by_cases hk7 : a1 = 7
                · rw [if_pos hk7] at hs
                  refine av_swi (pc := 3) (k := 7) (tgt := 131) C dX10_count_3 (by rw [hk7]; rfl) (by decide) rfl (by decide) ?_
                  refine av_aload_n (pc := 131) (j := 1) C dX10_count_131 rfl rfl ?_
                  refine av_getI (pc := 132) (k := 35) (n := 4771) C fl_X10_159 sk_74 rfl rfl dX10_count_132 ?_
                  obtain ⟨rfl, rfl⟩ := am_inj2 hs
                  exact av_iret C hr hlocks dX10_count_135
                · rw [if_neg hk7] at hs
                  refine av_swo (pc := 3) (tgt := 136) C dX10_count_3 (by omega) (by decide) ?_
                  exact hdef1 hs
set_option maxHeartbeats 4000000 in
set_option maxRecDepth 100000 in
theorem ct_X10_later (l : Launch) (G : am_G) (a1 : Int) (a2 : Int) (a3 : Int) (a4 : Int) (S : am_S) (x : Int) (SZ : am_S) (hs : sf_X10_later a1 a2 a3 a4 S = some (x, SZ)) : am_met l yX10_later cX10_later 6 (some .int) 3 65 G [am_R 74, am_I a1, am_I a2, am_I a3, am_I a4] S (some (am_I x)) SZ := by
  refine am_enter ym_X10_later (Nat.le_of_ble_eq_true rfl) ?_
  intro p e s m args below meth c C hr hlocks
  refine av_eq (lv2 := [(0, am_R 74), (1, am_I a1), (2, am_I a2), (3, am_I a3), (4, am_I a4)]) rfl rfl rfl rfl ?_
  unfold sf_X10_later at hs
  refine av_iload_n (pc := 0) (j := 1) C dX10_later_0 rfl rfl ?_
  refine av_iconst (pc := 1) C dX10_later_1 rfl ?_
  refine av_bipush (pc := 2) C dX10_later_2 rfl ?_
  obtain ⟨x2, S1, hc3, hs⟩ := am_b2_of hs
  refine av_eq (st2 := [am_I 9, am_I 0, am_I a1]) rfl rfl rfl rfl (av_callS (pc := 4) (as := [am_I a1, am_I 0, am_I 9]) (rest := []) C (ct_X10_in l G a1 0 9 S x2 S1 hc3) ym_X10_in si_X10_171 st_X10_in ⟨Nat.le_of_ble_eq_true rfl, Nat.le_of_ble_eq_true rfl⟩ rfl rfl (Nat.le_of_ble_eq_true rfl) dX10_later_4 ⟨Nat.le_refl _, Nat.le_refl _⟩ (fun hrv => av_eq (st2 := [am_I x2]) rfl rfl rfl rfl ?_))
  refine av_if_eq (pc := 7) (tgt := 31) C dX10_later_7 (by decide) (fun hc => ?_) (fun hc => ?_)
  · rw [if_pos hc] at hs
    refine av_iconst (pc := 31) C dX10_later_31 rfl ?_
    obtain ⟨rfl, rfl⟩ := am_inj2 hs
    exact av_iret C hr hlocks dX10_later_32
  · rw [if_neg hc] at hs
    refine av_aload_n (pc := 10) (j := 0) C dX10_later_10 rfl rfl ?_
    refine av_iload_n (pc := 11) (j := 2) C dX10_later_11 rfl rfl ?_
    refine av_iload_n (pc := 12) (j := 3) C dX10_later_12 rfl rfl ?_
    obtain ⟨x5, S4, hc6, hs⟩ := am_b2_of hs
    refine av_eq (st2 := [am_I a3, am_I a2, am_R 74]) rfl rfl rfl rfl (av_callV (pc := 13) (as := [am_I a2, am_I a3]) (rest := []) C (ct_X10_isValue l G a2 a3 S1 x5 S4 hc6) ym_X10_isValue si_X10_204 im_X10_isValue se_X10_isValue sk_74 rfl ⟨Nat.le_of_ble_eq_true rfl, Nat.le_of_ble_eq_true rfl⟩ rfl rfl (Nat.le_of_ble_eq_true rfl) dX10_later_13 ⟨Nat.le_refl _, Nat.le_refl _⟩ (fun hrv => av_eq (st2 := [am_I x5]) rfl rfl rfl rfl ?_))
    refine av_if_eq (pc := 16) (tgt := 31) C dX10_later_16 (by decide) (fun hc => ?_) (fun hc => ?_)
    · rw [if_pos hc] at hs
      refine av_iconst (pc := 31) C dX10_later_31 rfl ?_
      obtain ⟨rfl, rfl⟩ := am_inj2 hs
      exact av_iret C hr hlocks dX10_later_32
    · rw [if_neg hc] at hs
      refine av_iload (pc := 19) (j := 4) C dX10_later_19 rfl ?_
      refine av_iconst (pc := 21) C dX10_later_21 rfl ?_
      refine av_sipush (pc := 22) C dX10_later_22 rfl ?_
      obtain ⟨x8, S7, hc9, hs⟩ := am_b2_of hs
      refine av_eq (st2 := [am_I 1000, am_I 0, am_I a4]) rfl rfl rfl rfl (av_callS (pc := 25) (as := [am_I a4, am_I 0, am_I 1000]) (rest := []) C (ct_X10_in l G a4 0 1000 S4 x8 S7 hc9) ym_X10_in si_X10_171 st_X10_in ⟨Nat.le_of_ble_eq_true rfl, Nat.le_of_ble_eq_true rfl⟩ rfl rfl (Nat.le_of_ble_eq_true rfl) dX10_later_25 ⟨Nat.le_refl _, Nat.le_refl _⟩ (fun hrv => av_eq (st2 := [am_I x8]) rfl rfl rfl rfl ?_))
      refine av_if_ne (pc := 28) (tgt := 33) C dX10_later_28 (by decide) (fun hc => ?_) (fun hc => ?_)
      · rw [if_neg hc] at hs
        refine av_aload_n (pc := 33) (j := 0) C dX10_later_33 rfl rfl ?_
        refine av_iload_n (pc := 34) (j := 1) C dX10_later_34 rfl rfl ?_
        refine av_iload_n (pc := 35) (j := 2) C dX10_later_35 rfl rfl ?_
        refine av_iload_n (pc := 36) (j := 3) C dX10_later_36 rfl rfl ?_
        refine av_iload (pc := 37) (j := 4) C dX10_later_37 rfl ?_
        obtain ⟨x11, S10, hc12, hs⟩ := am_b2_of hs
        refine av_eq (st2 := [am_I a4, am_I a3, am_I a2, am_I a1, am_R 74]) rfl rfl rfl rfl (av_callV (pc := 39) (as := [am_I a1, am_I a2, am_I a3, am_I a4]) (rest := []) C (ct_X10_task l G a1 a2 a3 a4 S7 x11 S10 hc12) ym_X10_task si_X10_259 im_X10_task se_X10_task sk_74 rfl ⟨Nat.le_of_ble_eq_true rfl, Nat.le_of_ble_eq_true rfl⟩ rfl rfl (Nat.le_of_ble_eq_true rfl) dX10_later_39 ⟨Nat.le_refl _, Nat.le_refl _⟩ (fun hrv => av_eq (st2 := [am_I x11]) rfl rfl rfl rfl ?_))
        refine av_istore (pc := 42) (i := 5) (lv2 := [(5, am_I x11), (0, am_R 74), (1, am_I a1), (2, am_I a2), (3, am_I a3), (4, am_I a4)]) C dX10_later_42 (by decide) rfl ?_
        refine av_iload (pc := 44) (j := 0) C dX10_later_44 rfl ?_
        refine av_if_eq (pc := 46) (tgt := 57) C dX10_later_46 (by decide) (fun hc => ?_) (fun hc => ?_)
        · rw [if_pos hc] at hs
          refine av_bipush (pc := 57) C dX10_later_57 rfl ?_
          obtain ⟨rfl, rfl⟩ := am_inj2 hs
          exact av_iret C hr hlocks dX10_later_59
        · rw [if_neg hc] at hs
          refine av_aload_n (pc := 49) (j := 1) C dX10_later_49 rfl rfl ?_
          refine av_iconst (pc := 50) C dX10_later_50 rfl ?_
          obtain ⟨x14, S13, hc15, hs⟩ := am_b2_of hs
          refine av_eq (st2 := [am_I 3, am_R 74]) rfl rfl rfl rfl (av_callV (pc := 51) (as := [am_I 3]) (rest := []) C (ct_X10_count l G 3 S10 x14 S13 hc15) ym_X10_count si_X10_273 im_X10_count se_X10_count sk_74 rfl ⟨Nat.le_of_ble_eq_true rfl, Nat.le_of_ble_eq_true rfl⟩ rfl rfl (Nat.le_of_ble_eq_true rfl) dX10_later_51 ⟨Nat.le_refl _, Nat.le_refl _⟩ (fun hrv => av_eq (st2 := [am_I x14]) rfl rfl rfl rfl ?_))
          refine av_goto (pc := 54) (tgt := 59) C dX10_later_54 (by decide) ?_
          obtain ⟨rfl, rfl⟩ := am_inj2 hs
          exact av_iret C hr hlocks dX10_later_59
      · rw [if_pos (Decidable.not_not.mp hc)] at hs
        refine av_iconst (pc := 31) C dX10_later_31 rfl ?_
        obtain ⟨rfl, rfl⟩ := am_inj2 hs
        exact av_iret C hr hlocks dX10_later_32
set_option maxHeartbeats 4000000 in
set_option maxRecDepth 100000 in
theorem ct_X10_item (l : Launch) (G : am_G) (a1 : Int) (a2 : Int) (S : am_S) (x : Int) (SZ : am_S) (hs : sf_X10_item a1 a2 S = some (x, SZ)) : am_met l yX10_item cX10_item 3 (some .int) 3 65 G [am_R 74, am_I a1, am_I a2] S (some (am_I x)) SZ := by
  refine am_enter ym_X10_item (Nat.le_of_ble_eq_true rfl) ?_
  intro p e s m args below meth c C hr hlocks
  refine av_eq (lv2 := [(0, am_R 74), (1, am_I a1), (2, am_I a2)]) rfl rfl rfl rfl ?_
  unfold sf_X10_item at hs
  refine av_aload_n (pc := 0) (j := 0) C dX10_item_0 rfl rfl ?_
  refine av_iload_n (pc := 1) (j := 1) C dX10_item_1 rfl rfl ?_
  refine av_iload_n (pc := 2) (j := 2) C dX10_item_2 rfl rfl ?_
  obtain ⟨x2, S1, hc3, hs⟩ := am_b2_of hs
  refine av_eq (st2 := [am_I a2, am_I a1, am_R 74]) rfl rfl rfl rfl (av_callV (pc := 3) (as := [am_I a1, am_I a2]) (rest := []) C (ct_X10_isValue l G a1 a2 S x2 S1 hc3) ym_X10_isValue si_X10_204 im_X10_isValue se_X10_isValue sk_74 rfl ⟨Nat.le_of_ble_eq_true rfl, Nat.le_of_ble_eq_true rfl⟩ rfl rfl (Nat.le_of_ble_eq_true rfl) dX10_item_3 ⟨Nat.le_refl _, Nat.le_refl _⟩ (fun hrv => av_eq (st2 := [am_I x2]) rfl rfl rfl rfl ?_))
  refine av_if_ne (pc := 6) (tgt := 11) C dX10_item_6 (by decide) (fun hc => ?_) (fun hc => ?_)
  · rw [if_neg hc] at hs
    refine av_aload_n (pc := 11) (j := 0) C dX10_item_11 rfl rfl ?_
    refine av_getI (pc := 12) (k := 35) (n := 4771) C fl_X10_159 sk_74 rfl rfl dX10_item_12 ?_
    refine av_iconst (pc := 15) C dX10_item_15 rfl ?_
    refine av_icmp_ne (pc := 16) (tgt := 22) C dX10_item_16 (by decide) (fun hc => ?_) (fun hc => ?_)
    · rw [if_neg hc] at hs
      refine av_aload_n (pc := 22) (j := 0) C dX10_item_22 rfl rfl ?_
      refine av_getR (pc := 23) (k := 33) (r := 106) C fl_X10_104 sk_74 rfl dX10_item_23 ?_
      refine av_aload_n (pc := 26) (j := 0) C dX10_item_26 rfl rfl ?_
      refine av_getI (pc := 27) (k := 35) (n := 4771) C fl_X10_159 sk_74 rfl rfl dX10_item_27 ?_
      refine av_iload_n (pc := 30) (j := 1) C dX10_item_30 rfl rfl ?_
      obtain ⟨hb, hs⟩ := am_gd_of hs
      obtain ⟨S4, eS4, hs⟩ := am_let_of hs
      refine av_iast (pc := 31) C sk_106 hb dX10_item_31 ?_
      refine av_eq rfl rfl rfl eS4 ?_
      refine av_aload_n (pc := 32) (j := 0) C dX10_item_32 rfl rfl ?_
      refine av_getR (pc := 33) (k := 34) (r := 107) C fl_X10_107 sk_74 rfl dX10_item_33 ?_
      refine av_aload_n (pc := 36) (j := 0) C dX10_item_36 rfl rfl ?_
      refine av_getI (pc := 37) (k := 35) (n := 4771) C fl_X10_159 sk_74 rfl rfl dX10_item_37 ?_
      refine av_iload_n (pc := 40) (j := 2) C dX10_item_40 rfl rfl ?_
      obtain ⟨hb, hs⟩ := am_gd_of hs
      obtain ⟨S5, eS5, hs⟩ := am_let_of hs
      refine av_iast (pc := 41) C sk_107 hb dX10_item_41 ?_
      refine av_eq rfl rfl rfl eS5 ?_
      refine av_aload_n (pc := 42) (j := 0) C dX10_item_42 rfl rfl ?_
      refine av_dup (pc := 43) C dX10_item_43 rfl ?_
      refine av_getI (pc := 44) (k := 35) (n := 4771) C fl_X10_159 sk_74 rfl rfl dX10_item_44 ?_
      refine av_iconst (pc := 47) C dX10_item_47 rfl ?_
      refine av_iadd (pc := 48) C dX10_item_48 ?_
      refine av_dup_x1 (pc := 49) C dX10_item_49 rfl rfl ?_
      obtain ⟨S6, eS6, hs⟩ := am_let_of hs
      refine av_putI (pc := 50) (k := 35) (n := 4771) C fp_X10_159 sk_74 rfl rfl dX10_item_50 ?_
      refine av_eq rfl rfl rfl eS6 ?_
      obtain ⟨rfl, rfl⟩ := am_inj2 hs
      exact av_iret C hr hlocks dX10_item_53
    · rw [if_pos (Decidable.not_not.mp hc)] at hs
      refine av_bipush (pc := 19) C dX10_item_19 rfl ?_
      obtain ⟨rfl, rfl⟩ := am_inj2 hs
      exact av_iret C hr hlocks dX10_item_21
  · rw [if_pos (Decidable.not_not.mp hc)] at hs
    refine av_iconst (pc := 9) C dX10_item_9 rfl ?_
    obtain ⟨rfl, rfl⟩ := am_inj2 hs
    exact av_iret C hr hlocks dX10_item_10
set_option maxHeartbeats 4000000 in
set_option maxRecDepth 100000 in
theorem wk_X10_group_189 {p : Program} {l : Launch} {e : Env} {s : State} {m : MethodId} {args : Array Value} {below : List Frame} {meth : Method} {c : Code} {G : am_G} (C : am_C p s m args c cX10_group 6 RX10 G) (hr : meth.sig.returnType = (some .int)) (hlocks : meth.locks = false) (b1 : Int) (b3 : Int) (S : am_S) (x : Int) (SZ : am_S) (hs : sf_X10_group_189 b1 b3 S = some (x, SZ)) : am_V p l e (am_rm 3 75) s m args below meth c (MQ below (am_Q G (some (am_I x)) SZ) args s 0 0 (am_A G)) G (am_A G) s.heap 6 0 0 189 [(0, am_R 74), (1, am_I b1), (3, am_I b3)] [] S := by
  unfold sf_X10_group_189 at hs
  refine av_aload_n (pc := 189) (j := 0) C dX10_group_189 rfl rfl ?_
  refine av_getI (pc := 190) (k := 35) (n := 4771) C fl_X10_159 sk_74 rfl rfl dX10_group_190 ?_
  refine av_if_ne (pc := 193) (tgt := 210) C dX10_group_193 (by decide) (fun hc => ?_) (fun hc => ?_)
  · rw [if_neg hc] at hs
    refine av_aload_n (pc := 210) (j := 0) C dX10_group_210 rfl rfl ?_
    refine av_iconst (pc := 211) C dX10_group_211 rfl ?_
    obtain ⟨S22, eS22, hs⟩ := am_let_of hs
    refine av_putI (pc := 212) (k := 35) (n := 4771) C fp_X10_159 sk_74 rfl rfl dX10_group_212 ?_
    refine av_eq rfl rfl rfl eS22 ?_
    refine av_iload_n (pc := 215) (j := 2) C dX10_group_215 rfl rfl ?_
    obtain ⟨rfl, rfl⟩ := am_inj2 hs
    exact av_iret C hr hlocks dX10_group_216
  · rw [if_pos (Decidable.not_not.mp hc)] at hs
    refine av_iload_n (pc := 196) (j := 1) C dX10_group_196 rfl rfl ?_
    refine av_iconst (pc := 197) C dX10_group_197 rfl ?_
    refine av_irem (pc := 198) C dX10_group_198 (by decide) ?_
    refine av_if_ne (pc := 199) (tgt := 210) C dX10_group_199 (by decide) (fun hc => ?_) (fun hc => ?_)
    · rw [if_neg hc] at hs
      refine av_aload_n (pc := 210) (j := 0) C dX10_group_210 rfl rfl ?_
      refine av_iconst (pc := 211) C dX10_group_211 rfl ?_
      obtain ⟨S23, eS23, hs⟩ := am_let_of hs
      refine av_putI (pc := 212) (k := 35) (n := 4771) C fp_X10_159 sk_74 rfl rfl dX10_group_212 ?_
      refine av_eq rfl rfl rfl eS23 ?_
      refine av_iload_n (pc := 215) (j := 2) C dX10_group_215 rfl rfl ?_
      obtain ⟨rfl, rfl⟩ := am_inj2 hs
      exact av_iret C hr hlocks dX10_group_216
    · rw [if_pos (Decidable.not_not.mp hc)] at hs
      refine av_aload_n (pc := 202) (j := 0) C dX10_group_202 rfl rfl ?_
      refine av_iload_n (pc := 203) (j := 2) C dX10_group_203 rfl rfl ?_
      refine av_iconst (pc := 204) C dX10_group_204 rfl ?_
      refine av_iconst (pc := 205) C dX10_group_205 rfl ?_
      refine av_iconst (pc := 206) C dX10_group_206 rfl ?_
      obtain ⟨S24, hc25, hs⟩ := am_b1_of hs
      refine av_eq (st2 := [am_I 0, am_I 0, am_I 0, am_I b3, am_R 74]) rfl rfl rfl rfl (av_callV (pc := 207) (as := [am_I b3, am_I 0, am_I 0, am_I 0]) (rest := []) C (ct_X10_resolveBy l G b3 0 0 0 S S24 hc25) ym_X10_resolveBy si_X10_201 im_X10_resolveBy se_X10_resolveBy sk_74 rfl ⟨Nat.le_of_ble_eq_true rfl, Nat.le_of_ble_eq_true rfl⟩ rfl rfl (Nat.le_of_ble_eq_true rfl) dX10_group_207 ⟨Nat.le_refl _, Nat.le_refl _⟩ (fun hrv => av_eq (st2 := []) rfl rfl rfl rfl ?_))
      refine av_aload_n (pc := 210) (j := 0) C dX10_group_210 rfl rfl ?_
      refine av_iconst (pc := 211) C dX10_group_211 rfl ?_
      obtain ⟨S26, eS26, hs⟩ := am_let_of hs
      refine av_putI (pc := 212) (k := 35) (n := 4771) C fp_X10_159 sk_74 rfl rfl dX10_group_212 ?_
      refine av_eq rfl rfl rfl eS26 ?_
      refine av_iload_n (pc := 215) (j := 2) C dX10_group_215 rfl rfl ?_
      obtain ⟨rfl, rfl⟩ := am_inj2 hs
      exact av_iret C hr hlocks dX10_group_216
set_option maxHeartbeats 4000000 in
set_option maxRecDepth 100000 in
theorem wk_X10_group_95 {p : Program} {l : Launch} {e : Env} {s : State} {m : MethodId} {args : Array Value} {below : List Frame} {meth : Method} {c : Code} {G : am_G} (C : am_C p s m args c cX10_group 6 RX10 G) (hr : meth.sig.returnType = (some .int)) (hlocks : meth.locks = false) : ∀ (fu : Nat) (b1 : Int) (b3 : Int) (b4 : Int) (S : am_S) (x : Int) (SZ : am_S), sf_X10_group_95 fu b1 b3 b4 S = some (x, SZ) → am_V p l e (am_rm 3 75) s m args below meth c (MQ below (am_Q G (some (am_I x)) SZ) args s 0 0 (am_A G)) G (am_A G) s.heap 6 0 0 95 [(0, am_R 74), (1, am_I b1), (3, am_I b3), (4, am_I b4)] [] S := by
  intro fu
  induction fu with
  | zero => intro b1 b3 b4 S x SZ hs; cases hs
  | succ fu ih =>
    intro b1 b3 b4 S x SZ hs
    unfold sf_X10_group_95 at hs
    refine av_iload (pc := 95) (j := 3) C dX10_group_95 rfl ?_
    refine av_aload_n (pc := 97) (j := 0) C dX10_group_97 rfl rfl ?_
    refine av_getI (pc := 98) (k := 35) (n := 4771) C fl_X10_159 sk_74 rfl rfl dX10_group_98 ?_
    refine av_icmp_ge (pc := 101) (tgt := 168) C dX10_group_101 (by decide) (fun hc => ?_) (fun hc => ?_)
    · rw [if_pos hc] at hs
      refine av_aload_n (pc := 168) (j := 0) C dX10_group_168 rfl rfl ?_
      refine av_getI (pc := 169) (k := 35) (n := 4771) C fl_X10_159 sk_74 rfl rfl dX10_group_169 ?_
      refine av_if_ne (pc := 172) (tgt := 189) C dX10_group_172 (by decide) (fun hc => ?_) (fun hc => ?_)
      · rw [if_neg hc] at hs
        refine av_lvsub (lv2 := [(0, am_R 74), (1, am_I b1), (3, am_I b3)]) [0, 1, 2] rfl ?_
        exact wk_X10_group_189 C hr hlocks b1 b3 S x SZ hs
      · rw [if_pos (Decidable.not_not.mp hc)] at hs
        refine av_iload_n (pc := 175) (j := 1) C dX10_group_175 rfl rfl ?_
        refine av_iconst (pc := 176) C dX10_group_176 rfl ?_
        refine av_icmp_ne (pc := 177) (tgt := 189) C dX10_group_177 (by decide) (fun hc => ?_) (fun hc => ?_)
        · rw [if_neg hc] at hs
          refine av_lvsub (lv2 := [(0, am_R 74), (1, am_I b1), (3, am_I b3)]) [0, 1, 2] rfl ?_
          exact wk_X10_group_189 C hr hlocks b1 b3 S x SZ hs
        · rw [if_pos (Decidable.not_not.mp hc)] at hs
          refine av_aload_n (pc := 180) (j := 0) C dX10_group_180 rfl rfl ?_
          refine av_iload_n (pc := 181) (j := 2) C dX10_group_181 rfl rfl ?_
          refine av_iconst (pc := 182) C dX10_group_182 rfl ?_
          refine av_bipush (pc := 183) C dX10_group_183 rfl ?_
          refine av_iconst (pc := 185) C dX10_group_185 rfl ?_
          obtain ⟨S11, hc12, hs⟩ := am_b1_of hs
          refine av_eq (st2 := [am_I 0, am_I (-5), am_I 0, am_I b3, am_R 74]) rfl rfl rfl rfl (av_callV (pc := 186) (as := [am_I b3, am_I 0, am_I (-5), am_I 0]) (rest := []) C (ct_X10_rejectBy l G b3 0 (-5) 0 S S11 hc12) ym_X10_rejectBy si_X10_198 im_X10_rejectBy se_X10_rejectBy sk_74 rfl ⟨Nat.le_of_ble_eq_true rfl, Nat.le_of_ble_eq_true rfl⟩ rfl rfl (Nat.le_of_ble_eq_true rfl) dX10_group_186 ⟨Nat.le_refl _, Nat.le_refl _⟩ (fun hrv => av_eq (st2 := []) rfl rfl rfl rfl ?_))
          refine av_lvsub (lv2 := [(0, am_R 74), (1, am_I b1), (3, am_I b3)]) [0, 1, 2] rfl ?_
          exact wk_X10_group_189 C hr hlocks b1 b3 S11 x SZ hs
    · rw [if_neg hc] at hs
      refine av_aload_n (pc := 104) (j := 0) C dX10_group_104 rfl rfl ?_
      refine av_getR (pc := 105) (k := 34) (r := 107) C fl_X10_107 sk_74 rfl dX10_group_105 ?_
      refine av_iload (pc := 108) (j := 3) C dX10_group_108 rfl ?_
      obtain ⟨hb, hs⟩ := am_gd_of hs
      refine av_iald (pc := 110) C sk_107 hb dX10_group_110 ?_
      refine av_istore (pc := 111) (i := 5) (lv2 := [(5, am_I (S.2 107 (Int.toNat b4))), (0, am_R 74), (1, am_I b1), (3, am_I b3), (4, am_I b4)]) C dX10_group_111 (by decide) rfl ?_
      refine av_aload_n (pc := 113) (j := 1) C dX10_group_113 rfl rfl ?_
      refine av_getR (pc := 114) (k := 33) (r := 106) C fl_X10_104 sk_74 rfl dX10_group_114 ?_
      refine av_iload (pc := 117) (j := 4) C dX10_group_117 rfl ?_
      obtain ⟨hb, hs⟩ := am_gd_of hs
      refine av_iald (pc := 119) C sk_106 hb dX10_group_119 ?_
      refine av_iconst (pc := 120) C dX10_group_120 rfl ?_
      refine av_icmp_eq (pc := 121) (tgt := 151) C dX10_group_121 (by decide) (fun hc => ?_) (fun hc => ?_)
      · rw [if_pos hc] at hs
        refine av_aload_n (pc := 151) (j := 1) C dX10_group_151 rfl rfl ?_
        refine av_iload (pc := 152) (j := 0) C dX10_group_152 rfl ?_
        refine av_iconst (pc := 154) C dX10_group_154 rfl ?_
        refine av_iload_n (pc := 155) (j := 3) C dX10_group_155 rfl rfl ?_
        refine av_iload (pc := 156) (j := 4) C dX10_group_156 rfl ?_
        refine av_iconst (pc := 158) C dX10_group_158 rfl ?_
        obtain ⟨S13, hc14, hs⟩ := am_b1_of hs
        refine av_eq (st2 := [am_I 0, am_I b4, am_I b3, am_I 3, am_I (S.2 107 (Int.toNat b4)), am_R 74]) rfl rfl rfl rfl (av_callV (pc := 159) (as := [am_I (S.2 107 (Int.toNat b4)), am_I 3, am_I b3, am_I b4, am_I 0]) (rest := []) C (ct_X10_waitFor l G (S.2 107 (Int.toNat b4)) 3 b3 b4 0 S S13 hc14) ym_X10_waitFor si_X10_211 im_X10_waitFor se_X10_waitFor sk_74 rfl ⟨Nat.le_of_ble_eq_true rfl, Nat.le_of_ble_eq_true rfl⟩ rfl rfl (Nat.le_of_ble_eq_true rfl) dX10_group_159 ⟨Nat.le_refl _, Nat.le_refl _⟩ (fun hrv => av_eq (st2 := []) rfl rfl rfl rfl ?_))
        refine av_iinc (pc := 162) (j := 4) (lv2 := [(4, am_I (am_w32 (b4 + 1))), (5, am_I (S.2 107 (Int.toNat b4))), (0, am_R 74), (1, am_I b1), (3, am_I b3)]) C dX10_group_162 rfl (by decide) rfl ?_
        refine av_goto (pc := 165) (tgt := 95) C dX10_group_165 (by decide) ?_
        refine av_lvsub (lv2 := [(0, am_R 74), (1, am_I b1), (3, am_I b3), (4, am_I (am_w32 (b4 + 1)))]) [2, 3, 4, 0] rfl ?_
        exact ih b1 b3 (am_w32 (b4 + 1)) S13 x SZ hs
      · rw [if_neg hc] at hs
        refine av_aload_n (pc := 124) (j := 1) C dX10_group_124 rfl rfl ?_
        obtain ⟨x16, S15, hc17, hs⟩ := am_b2_of hs
        refine av_eq (st2 := [am_R 74]) rfl rfl rfl rfl (av_callV (pc := 125) (as := []) (rest := []) C (ct_X10_promise l G  S x16 S15 hc17) ym_X10_promise si_X10_207 im_X10_promise se_X10_promise sk_74 rfl ⟨Nat.le_of_ble_eq_true rfl, Nat.le_of_ble_eq_true rfl⟩ rfl rfl (Nat.le_of_ble_eq_true rfl) dX10_group_125 ⟨Nat.le_refl _, Nat.le_refl _⟩ (fun hrv => av_eq (st2 := [am_I x16]) rfl rfl rfl rfl ?_))
        refine av_istore (pc := 128) (i := 5) (lv2 := [(5, am_I x16), (0, am_R 74), (1, am_I b1), (3, am_I b3), (4, am_I b4)]) C dX10_group_128 (by decide) rfl ?_
        refine av_aload_n (pc := 130) (j := 1) C dX10_group_130 rfl rfl ?_
        refine av_iload (pc := 131) (j := 0) C dX10_group_131 rfl ?_
        refine av_aload_n (pc := 133) (j := 1) C dX10_group_133 rfl rfl ?_
        refine av_getR (pc := 134) (k := 33) (r := 106) C fl_X10_104 sk_74 rfl dX10_group_134 ?_
        refine av_iload (pc := 137) (j := 4) C dX10_group_137 rfl ?_
        obtain ⟨hb, hs⟩ := am_gd_of hs
        refine av_iald (pc := 139) C sk_106 hb dX10_group_139 ?_
        refine av_aload_n (pc := 140) (j := 1) C dX10_group_140 rfl rfl ?_
        refine av_getR (pc := 141) (k := 34) (r := 107) C fl_X10_107 sk_74 rfl dX10_group_141 ?_
        refine av_iload (pc := 144) (j := 4) C dX10_group_144 rfl ?_
        obtain ⟨hb, hs⟩ := am_gd_of hs
        refine av_iald (pc := 146) C sk_107 hb dX10_group_146 ?_
        refine av_iconst (pc := 147) C dX10_group_147 rfl ?_
        obtain ⟨S18, hc19, hs⟩ := am_b1_of hs
        refine av_eq (st2 := [am_I 0, am_I (S15.2 107 (Int.toNat b4)), am_I (S15.2 106 (Int.toNat b4)), am_I x16, am_R 74]) rfl rfl rfl rfl (av_callV (pc := 148) (as := [am_I x16, am_I (S15.2 106 (Int.toNat b4)), am_I (S15.2 107 (Int.toNat b4)), am_I 0]) (rest := []) C (ct_X10_resolveBy l G x16 (S15.2 106 (Int.toNat b4)) (S15.2 107 (Int.toNat b4)) 0 S15 S18 hc19) ym_X10_resolveBy si_X10_201 im_X10_resolveBy se_X10_resolveBy sk_74 rfl ⟨Nat.le_of_ble_eq_true rfl, Nat.le_of_ble_eq_true rfl⟩ rfl rfl (Nat.le_of_ble_eq_true rfl) dX10_group_148 ⟨Nat.le_refl _, Nat.le_refl _⟩ (fun hrv => av_eq (st2 := []) rfl rfl rfl rfl ?_))
        refine av_aload_n (pc := 151) (j := 1) C dX10_group_151 rfl rfl ?_
        refine av_iload (pc := 152) (j := 0) C dX10_group_152 rfl ?_
        refine av_iconst (pc := 154) C dX10_group_154 rfl ?_
        refine av_iload_n (pc := 155) (j := 3) C dX10_group_155 rfl rfl ?_
        refine av_iload (pc := 156) (j := 4) C dX10_group_156 rfl ?_
        refine av_iconst (pc := 158) C dX10_group_158 rfl ?_
        obtain ⟨S20, hc21, hs⟩ := am_b1_of hs
        refine av_eq (st2 := [am_I 0, am_I b4, am_I b3, am_I 3, am_I x16, am_R 74]) rfl rfl rfl rfl (av_callV (pc := 159) (as := [am_I x16, am_I 3, am_I b3, am_I b4, am_I 0]) (rest := []) C (ct_X10_waitFor l G x16 3 b3 b4 0 S18 S20 hc21) ym_X10_waitFor si_X10_211 im_X10_waitFor se_X10_waitFor sk_74 rfl ⟨Nat.le_of_ble_eq_true rfl, Nat.le_of_ble_eq_true rfl⟩ rfl rfl (Nat.le_of_ble_eq_true rfl) dX10_group_159 ⟨Nat.le_refl _, Nat.le_refl _⟩ (fun hrv => av_eq (st2 := []) rfl rfl rfl rfl ?_))
        refine av_iinc (pc := 162) (j := 4) (lv2 := [(4, am_I (am_w32 (b4 + 1))), (5, am_I x16), (0, am_R 74), (1, am_I b1), (3, am_I b3)]) C dX10_group_162 rfl (by decide) rfl ?_
        refine av_goto (pc := 165) (tgt := 95) C dX10_group_165 (by decide) ?_
        refine av_lvsub (lv2 := [(0, am_R 74), (1, am_I b1), (3, am_I b3), (4, am_I (am_w32 (b4 + 1)))]) [2, 3, 4, 0] rfl ?_
        exact ih b1 b3 (am_w32 (b4 + 1)) S20 x SZ hs
set_option maxHeartbeats 4000000 in
set_option maxRecDepth 100000 in
theorem wk_X10_group_15 {p : Program} {l : Launch} {e : Env} {s : State} {m : MethodId} {args : Array Value} {below : List Frame} {meth : Method} {c : Code} {G : am_G} (C : am_C p s m args c cX10_group 6 RX10 G) (hr : meth.sig.returnType = (some .int)) (hlocks : meth.locks = false) : ∀ (fu : Nat) (b1 : Int) (b2 : Int) (b3 : Int) (S : am_S) (x : Int) (SZ : am_S), sf_X10_group_15 fu b1 b2 b3 S = some (x, SZ) → am_V p l e (am_rm 3 75) s m args below meth c (MQ below (am_Q G (some (am_I x)) SZ) args s 0 0 (am_A G)) G (am_A G) s.heap 6 0 0 15 [(0, am_R 74), (1, am_I b1), (2, am_I b2), (3, am_I b3)] [] S := by
  intro fu
  induction fu with
  | zero => intro b1 b2 b3 S x SZ hs; cases hs
  | succ fu ih =>
    intro b1 b2 b3 S x SZ hs
    unfold sf_X10_group_15 at hs
    refine av_iload_n (pc := 15) (j := 3) C dX10_group_15 rfl rfl ?_
    refine av_aload_n (pc := 16) (j := 0) C dX10_group_16 rfl rfl ?_
    refine av_getI (pc := 17) (k := 35) (n := 4771) C fl_X10_159 sk_74 rfl rfl dX10_group_17 ?_
    refine av_icmp_ge (pc := 20) (tgt := 42) C dX10_group_20 (by decide) (fun hc => ?_) (fun hc => ?_)
    · rw [if_pos hc] at hs
      refine av_aload_n (pc := 42) (j := 0) C dX10_group_42 rfl rfl ?_
      refine av_getI (pc := 43) (k := 9) (n := 4745) C fl_X10_152 sk_74 rfl rfl dX10_group_43 ?_
      refine av_iload_n (pc := 46) (j := 2) C dX10_group_46 rfl rfl ?_
      refine av_iadd (pc := 47) C dX10_group_47 ?_
      refine av_bipush (pc := 48) C dX10_group_48 rfl ?_
      refine av_icmp_le (pc := 50) (tgt := 56) C dX10_group_50 (by decide) (fun hc => ?_) (fun hc => ?_)
      · rw [if_pos hc] at hs
        refine av_aload_n (pc := 56) (j := 0) C dX10_group_56 rfl rfl ?_
        obtain ⟨x5, S4, hc6, hs⟩ := am_b2_of hs
        refine av_eq (st2 := [am_R 74]) rfl rfl rfl rfl (av_callV (pc := 57) (as := []) (rest := []) C (ct_X10_promise l G  S x5 S4 hc6) ym_X10_promise si_X10_207 im_X10_promise se_X10_promise sk_74 rfl ⟨Nat.le_of_ble_eq_true rfl, Nat.le_of_ble_eq_true rfl⟩ rfl rfl (Nat.le_of_ble_eq_true rfl) dX10_group_57 ⟨Nat.le_refl _, Nat.le_refl _⟩ (fun hrv => av_eq (st2 := [am_I x5]) rfl rfl rfl rfl ?_))
        refine av_istore_n (pc := 60) (i := 3) (lv2 := [(3, am_I x5), (0, am_R 74), (1, am_I b1), (2, am_I b2)]) C dX10_group_60 rfl (by decide) rfl ?_
        refine av_aload_n (pc := 61) (j := 1) C dX10_group_61 rfl rfl ?_
        refine av_getR (pc := 62) (k := 29) (r := 102) C fl_X10_92 sk_74 rfl dX10_group_62 ?_
        refine av_iload_n (pc := 65) (j := 0) C dX10_group_65 rfl rfl ?_
        refine av_iload_n (pc := 66) (j := 2) C dX10_group_66 rfl rfl ?_
        obtain ⟨hb, hs⟩ := am_gd_of hs
        obtain ⟨S7, eS7, hs⟩ := am_let_of hs
        refine av_iast (pc := 67) C sk_102 hb dX10_group_67 ?_
        refine av_eq rfl rfl rfl eS7 ?_
        refine av_aload_n (pc := 68) (j := 1) C dX10_group_68 rfl rfl ?_
        refine av_getR (pc := 69) (k := 30) (r := 103) C fl_X10_95 sk_74 rfl dX10_group_69 ?_
        refine av_iload_n (pc := 72) (j := 0) C dX10_group_72 rfl rfl ?_
        refine av_aload_n (pc := 73) (j := 1) C dX10_group_73 rfl rfl ?_
        refine av_getI (pc := 74) (k := 35) (n := 4771) C fl_X10_159 sk_74 rfl rfl dX10_group_74 ?_
        obtain ⟨hb, hs⟩ := am_gd_of hs
        obtain ⟨S8, eS8, hs⟩ := am_let_of hs
        refine av_iast (pc := 77) C sk_103 hb dX10_group_77 ?_
        refine av_eq rfl rfl rfl eS8 ?_
        refine av_aload_n (pc := 78) (j := 1) C dX10_group_78 rfl rfl ?_
        refine av_getR (pc := 79) (k := 31) (r := 104) C fl_X10_98 sk_74 rfl dX10_group_79 ?_
        refine av_iload_n (pc := 82) (j := 0) C dX10_group_82 rfl rfl ?_
        refine av_iconst (pc := 83) C dX10_group_83 rfl ?_
        obtain ⟨hb, hs⟩ := am_gd_of hs
        obtain ⟨S9, eS9, hs⟩ := am_let_of hs
        refine av_iast (pc := 84) C sk_104 hb dX10_group_84 ?_
        refine av_eq rfl rfl rfl eS9 ?_
        refine av_aload_n (pc := 85) (j := 1) C dX10_group_85 rfl rfl ?_
        refine av_getR (pc := 86) (k := 32) (r := 105) C fl_X10_101 sk_74 rfl dX10_group_86 ?_
        refine av_iload_n (pc := 89) (j := 0) C dX10_group_89 rfl rfl ?_
        refine av_iconst (pc := 90) C dX10_group_90 rfl ?_
        obtain ⟨hb, hs⟩ := am_gd_of hs
        obtain ⟨S10, eS10, hs⟩ := am_let_of hs
        refine av_iast (pc := 91) C sk_105 hb dX10_group_91 ?_
        refine av_eq rfl rfl rfl eS10 ?_
        refine av_iconst (pc := 92) C dX10_group_92 rfl ?_
        refine av_istore (pc := 93) (i := 4) (lv2 := [(4, am_I 0), (3, am_I x5), (0, am_R 74), (1, am_I b1), (2, am_I b2)]) C dX10_group_93 (by decide) rfl ?_
        refine av_lvsub (lv2 := [(0, am_R 74), (1, am_I b1), (3, am_I x5), (4, am_I 0)]) [2, 3, 1, 0] rfl ?_
        exact wk_X10_group_95 C hr hlocks 1000 b1 x5 0 S10 x SZ hs
      · rw [if_neg hc] at hs
        refine av_bipush (pc := 53) C dX10_group_53 rfl ?_
        obtain ⟨rfl, rfl⟩ := am_inj2 hs
        exact av_iret C hr hlocks dX10_group_55
    · rw [if_neg hc] at hs
      refine av_aload_n (pc := 23) (j := 0) C dX10_group_23 rfl rfl ?_
      refine av_getR (pc := 24) (k := 33) (r := 106) C fl_X10_104 sk_74 rfl dX10_group_24 ?_
      refine av_iload_n (pc := 27) (j := 3) C dX10_group_27 rfl rfl ?_
      obtain ⟨hb, hs⟩ := am_gd_of hs
      refine av_iald (pc := 28) C sk_106 hb dX10_group_28 ?_
      refine av_iconst (pc := 29) C dX10_group_29 rfl ?_
      refine av_icmp_eq (pc := 30) (tgt := 36) C dX10_group_30 (by decide) (fun hc => ?_) (fun hc => ?_)
      · rw [if_pos hc] at hs
        refine av_iinc (pc := 36) (j := 3) (lv2 := [(3, am_I (am_w32 (b3 + 1))), (0, am_R 74), (1, am_I b1), (2, am_I b2)]) C dX10_group_36 rfl (by decide) rfl ?_
        refine av_goto (pc := 39) (tgt := 15) C dX10_group_39 (by decide) ?_
        refine av_lvsub (lv2 := [(0, am_R 74), (1, am_I b1), (2, am_I b2), (3, am_I (am_w32 (b3 + 1)))]) [1, 2, 3, 0] rfl ?_
        exact ih b1 b2 (am_w32 (b3 + 1)) S x SZ hs
      · rw [if_neg hc] at hs
        refine av_iinc (pc := 33) (j := 2) (lv2 := [(2, am_I (am_w32 (b2 + 1))), (0, am_R 74), (1, am_I b1), (3, am_I b3)]) C dX10_group_33 rfl (by decide) rfl ?_
        refine av_iinc (pc := 36) (j := 3) (lv2 := [(3, am_I (am_w32 (b3 + 1))), (2, am_I (am_w32 (b2 + 1))), (0, am_R 74), (1, am_I b1)]) C dX10_group_36 rfl (by decide) rfl ?_
        refine av_goto (pc := 39) (tgt := 15) C dX10_group_39 (by decide) ?_
        refine av_lvsub (lv2 := [(0, am_R 74), (1, am_I b1), (2, am_I (am_w32 (b2 + 1))), (3, am_I (am_w32 (b3 + 1)))]) [2, 3, 1, 0] rfl ?_
        exact ih b1 (am_w32 (b2 + 1)) (am_w32 (b3 + 1)) S x SZ hs
set_option maxHeartbeats 4000000 in
set_option maxRecDepth 100000 in
theorem ct_X10_group (l : Launch) (G : am_G) (a1 : Int) (S : am_S) (x : Int) (SZ : am_S) (hs : sf_X10_group a1 S = some (x, SZ)) : am_met l yX10_group cX10_group 6 (some .int) 3 75 G [am_R 74, am_I a1] S (some (am_I x)) SZ := by
  refine am_enter ym_X10_group (Nat.le_of_ble_eq_true rfl) ?_
  intro p e s m args below meth c C hr hlocks
  refine av_eq (lv2 := [(0, am_R 74), (1, am_I a1)]) rfl rfl rfl rfl ?_
  unfold sf_X10_group at hs
  refine av_iload_n (pc := 0) (j := 1) C dX10_group_0 rfl rfl ?_
  refine av_iconst (pc := 1) C dX10_group_1 rfl ?_
  refine av_iconst (pc := 2) C dX10_group_2 rfl ?_
  obtain ⟨x2, S1, hc3, hs⟩ := am_b2_of hs
  refine av_eq (st2 := [am_I 3, am_I 0, am_I a1]) rfl rfl rfl rfl (av_callS (pc := 3) (as := [am_I a1, am_I 0, am_I 3]) (rest := []) C (ct_X10_in l G a1 0 3 S x2 S1 hc3) ym_X10_in si_X10_171 st_X10_in ⟨Nat.le_of_ble_eq_true rfl, Nat.le_of_ble_eq_true rfl⟩ rfl rfl (Nat.le_of_ble_eq_true rfl) dX10_group_3 ⟨Nat.le_refl _, Nat.le_refl _⟩ (fun hrv => av_eq (st2 := [am_I x2]) rfl rfl rfl rfl ?_))
  refine av_if_ne (pc := 6) (tgt := 11) C dX10_group_6 (by decide) (fun hc => ?_) (fun hc => ?_)
  · rw [if_neg hc] at hs
    refine av_iconst (pc := 11) C dX10_group_11 rfl ?_
    refine av_istore_n (pc := 12) (i := 2) (lv2 := [(2, am_I 1), (0, am_R 74), (1, am_I a1)]) C dX10_group_12 rfl (by decide) rfl ?_
    refine av_iconst (pc := 13) C dX10_group_13 rfl ?_
    refine av_istore_n (pc := 14) (i := 3) (lv2 := [(3, am_I 0), (2, am_I 1), (0, am_R 74), (1, am_I a1)]) C dX10_group_14 rfl (by decide) rfl ?_
    refine av_lvsub (lv2 := [(0, am_R 74), (1, am_I a1), (2, am_I 1), (3, am_I 0)]) [2, 3, 1, 0] rfl ?_
    exact wk_X10_group_15 C hr hlocks 1000 a1 1 0 S1 x SZ hs
  · rw [if_pos (Decidable.not_not.mp hc)] at hs
    refine av_iconst (pc := 9) C dX10_group_9 rfl ?_
    obtain ⟨rfl, rfl⟩ := am_inj2 hs
    exact av_iret C hr hlocks dX10_group_10
set_option maxHeartbeats 4000000 in
set_option maxRecDepth 100000 in
theorem wk_X10_placed_47 {p : Program} {l : Launch} {e : Env} {s : State} {m : MethodId} {args : Array Value} {below : List Frame} {meth : Method} {c : Code} {G : am_G} (C : am_C p s m args c cX10_placed 8 RX10 G) (hr : meth.sig.returnType = none) (hlocks : meth.locks = false) (b1 : Int) (b4 : Int) (b5 : Int) (b6 : Int) (S : am_S) (SZ : am_S) (hs : sf_X10_placed_47 b1 b4 b5 b6 S = some SZ) : am_V p l e (am_rm 4 100) s m args below meth c (MQ below (am_Q G none SZ) args s 0 0 (am_A G)) G (am_A G) s.heap 8 0 0 47 [(0, am_R 74), (1, am_I b1), (4, am_I b4), (5, am_I b5), (6, am_I b6)] [] S := by
  unfold sf_X10_placed_47 at hs
  refine av_aload_n (pc := 47) (j := 0) C dX10_placed_47 rfl rfl ?_
  refine av_iload_n (pc := 48) (j := 1) C dX10_placed_48 rfl rfl ?_
  refine av_iload (pc := 49) (j := 4) C dX10_placed_49 rfl ?_
  refine av_if_ne (pc := 51) (tgt := 58) C dX10_placed_51 (by decide) (fun hc => ?_) (fun hc => ?_)
  · rw [if_neg hc] at hs
    refine av_iconst (pc := 58) C dX10_placed_58 rfl ?_
    refine av_iload (pc := 59) (j := 2) C dX10_placed_59 rfl ?_
    refine av_iload (pc := 61) (j := 3) C dX10_placed_61 rfl ?_
    refine av_iconst (pc := 63) C dX10_placed_63 rfl ?_
    obtain ⟨S1, hc2, hs⟩ := am_b1_of hs
    refine av_eq (st2 := [am_I 0, am_I b5, am_I b4, am_I 0, am_I b1, am_R 74]) rfl rfl rfl rfl (av_callV (pc := 64) (as := [am_I b1, am_I 0, am_I b4, am_I b5, am_I 0]) (rest := []) C (ct_X10_endBy l G b1 0 b4 b5 0 S S1 hc2) ym_X10_endBy si_X10_230 im_X10_endBy se_X10_endBy sk_74 rfl ⟨Nat.le_of_ble_eq_true rfl, Nat.le_of_ble_eq_true rfl⟩ rfl rfl (Nat.le_of_ble_eq_true rfl) dX10_placed_64 ⟨Nat.le_refl _, Nat.le_refl _⟩ (fun hrv => av_eq (st2 := []) rfl rfl rfl rfl ?_))
    obtain rfl := am_inj1 hs
    exact av_vret C hr hlocks dX10_placed_67
  · rw [if_pos (Decidable.not_not.mp hc)] at hs
    refine av_iconst (pc := 54) C dX10_placed_54 rfl ?_
    refine av_goto (pc := 55) (tgt := 59) C dX10_placed_55 (by decide) ?_
    refine av_iload (pc := 59) (j := 2) C dX10_placed_59 rfl ?_
    refine av_iload (pc := 61) (j := 3) C dX10_placed_61 rfl ?_
    refine av_iconst (pc := 63) C dX10_placed_63 rfl ?_
    obtain ⟨S3, hc4, hs⟩ := am_b1_of hs
    refine av_eq (st2 := [am_I 0, am_I b5, am_I b4, am_I 1, am_I b1, am_R 74]) rfl rfl rfl rfl (av_callV (pc := 64) (as := [am_I b1, am_I 1, am_I b4, am_I b5, am_I 0]) (rest := []) C (ct_X10_endBy l G b1 1 b4 b5 0 S S3 hc4) ym_X10_endBy si_X10_230 im_X10_endBy se_X10_endBy sk_74 rfl ⟨Nat.le_of_ble_eq_true rfl, Nat.le_of_ble_eq_true rfl⟩ rfl rfl (Nat.le_of_ble_eq_true rfl) dX10_placed_64 ⟨Nat.le_refl _, Nat.le_refl _⟩ (fun hrv => av_eq (st2 := []) rfl rfl rfl rfl ?_))
    obtain rfl := am_inj1 hs
    exact av_vret C hr hlocks dX10_placed_67
set_option maxHeartbeats 4000000 in
set_option maxRecDepth 100000 in
theorem wk_X10_placed_121 {p : Program} {l : Launch} {e : Env} {s : State} {m : MethodId} {args : Array Value} {below : List Frame} {meth : Method} {c : Code} {G : am_G} (C : am_C p s m args c cX10_placed 8 RX10 G) (hr : meth.sig.returnType = none) (hlocks : meth.locks = false) (b1 : Int) (b7 : Int) (S : am_S) (SZ : am_S) (hs : sf_X10_placed_121 b1 b7 S = some SZ) : am_V p l e (am_rm 4 100) s m args below meth c (MQ below (am_Q G none SZ) args s 0 0 (am_A G)) G (am_A G) s.heap 8 0 0 121 [(0, am_R 74), (1, am_I b1), (7, am_I b7)] [] S := by
  unfold sf_X10_placed_121 at hs
  refine av_aload_n (pc := 121) (j := 0) C dX10_placed_121 rfl rfl ?_
  refine av_getR (pc := 122) (k := 31) (r := 104) C fl_X10_98 sk_74 rfl dX10_placed_122 ?_
  refine av_iload_n (pc := 125) (j := 1) C dX10_placed_125 rfl rfl ?_
  obtain ⟨hb, hs⟩ := am_gd_of hs
  refine av_iald (pc := 126) C sk_104 hb dX10_placed_126 ?_
  refine av_aload_n (pc := 127) (j := 0) C dX10_placed_127 rfl rfl ?_
  refine av_getR (pc := 128) (k := 30) (r := 103) C fl_X10_95 sk_74 rfl dX10_placed_128 ?_
  refine av_iload_n (pc := 131) (j := 1) C dX10_placed_131 rfl rfl ?_
  obtain ⟨hb, hs⟩ := am_gd_of hs
  refine av_iald (pc := 132) C sk_103 hb dX10_placed_132 ?_
  refine av_icmp_ge (pc := 133) (tgt := 137) C dX10_placed_133 (by decide) (fun hc => ?_) (fun hc => ?_)
  · rw [if_pos hc] at hs
    refine av_iload (pc := 137) (j := 2) C dX10_placed_137 rfl ?_
    refine av_iconst (pc := 139) C dX10_placed_139 rfl ?_
    refine av_icmp_ne (pc := 140) (tgt := 155) C dX10_placed_140 (by decide) (fun hc => ?_) (fun hc => ?_)
    · rw [if_neg hc] at hs
      refine av_aload_n (pc := 155) (j := 0) C dX10_placed_155 rfl rfl ?_
      refine av_iload_n (pc := 156) (j := 1) C dX10_placed_156 rfl rfl ?_
      refine av_iconst (pc := 157) C dX10_placed_157 rfl ?_
      refine av_aload_n (pc := 158) (j := 0) C dX10_placed_158 rfl rfl ?_
      refine av_getR (pc := 159) (k := 32) (r := 105) C fl_X10_101 sk_74 rfl dX10_placed_159 ?_
      refine av_iload_n (pc := 162) (j := 1) C dX10_placed_162 rfl rfl ?_
      obtain ⟨hb, hs⟩ := am_gd_of hs
      refine av_iald (pc := 163) C sk_105 hb dX10_placed_163 ?_
      refine av_iconst (pc := 164) C dX10_placed_164 rfl ?_
      obtain ⟨S8, hc9, hs⟩ := am_b1_of hs
      refine av_eq (st2 := [am_I 0, am_I (S.2 105 (Int.toNat b1)), am_I 0, am_I b1, am_R 74]) rfl rfl rfl rfl (av_callV (pc := 165) (as := [am_I b1, am_I 0, am_I (S.2 105 (Int.toNat b1)), am_I 0]) (rest := []) C (ct_X10_resolveBy l G b1 0 (S.2 105 (Int.toNat b1)) 0 S S8 hc9) ym_X10_resolveBy si_X10_201 im_X10_resolveBy se_X10_resolveBy sk_74 rfl ⟨Nat.le_of_ble_eq_true rfl, Nat.le_of_ble_eq_true rfl⟩ rfl rfl (Nat.le_of_ble_eq_true rfl) dX10_placed_165 ⟨Nat.le_refl _, Nat.le_refl _⟩ (fun hrv => av_eq (st2 := []) rfl rfl rfl rfl ?_))
      obtain rfl := am_inj1 hs
      exact av_vret C hr hlocks dX10_placed_168
    · rw [if_pos (Decidable.not_not.mp hc)] at hs
      refine av_aload_n (pc := 143) (j := 0) C dX10_placed_143 rfl rfl ?_
      refine av_iload_n (pc := 144) (j := 1) C dX10_placed_144 rfl rfl ?_
      refine av_iconst (pc := 145) C dX10_placed_145 rfl ?_
      refine av_bipush (pc := 146) C dX10_placed_146 rfl ?_
      refine av_iconst (pc := 148) C dX10_placed_148 rfl ?_
      obtain ⟨S10, hc11, hs⟩ := am_b1_of hs
      refine av_eq (st2 := [am_I 0, am_I (-5), am_I 0, am_I b1, am_R 74]) rfl rfl rfl rfl (av_callV (pc := 149) (as := [am_I b1, am_I 0, am_I (-5), am_I 0]) (rest := []) C (ct_X10_rejectBy l G b1 0 (-5) 0 S S10 hc11) ym_X10_rejectBy si_X10_198 im_X10_rejectBy se_X10_rejectBy sk_74 rfl ⟨Nat.le_of_ble_eq_true rfl, Nat.le_of_ble_eq_true rfl⟩ rfl rfl (Nat.le_of_ble_eq_true rfl) dX10_placed_149 ⟨Nat.le_refl _, Nat.le_refl _⟩ (fun hrv => av_eq (st2 := []) rfl rfl rfl rfl ?_))
      refine av_goto (pc := 152) (tgt := 168) C dX10_placed_152 (by decide) ?_
      obtain rfl := am_inj1 hs
      exact av_vret C hr hlocks dX10_placed_168
  · rw [if_neg hc] at hs
    obtain rfl := am_inj1 hs
    exact av_vret C hr hlocks dX10_placed_136
set_option maxHeartbeats 4000000 in
set_option maxRecDepth 100000 in
theorem wk_X10_placed_98 {p : Program} {l : Launch} {e : Env} {s : State} {m : MethodId} {args : Array Value} {below : List Frame} {meth : Method} {c : Code} {G : am_G} (C : am_C p s m args c cX10_placed 8 RX10 G) (hr : meth.sig.returnType = none) (hlocks : meth.locks = false) (b1 : Int) (b2 : Int) (b6 : Int) (b7 : Int) (S : am_S) (SZ : am_S) (hs : sf_X10_placed_98 b1 b2 b6 b7 S = some SZ) : am_V p l e (am_rm 4 100) s m args below meth c (MQ below (am_Q G none SZ) args s 0 0 (am_A G)) G (am_A G) s.heap 8 0 0 98 [(0, am_R 74), (1, am_I b1), (2, am_I b2), (6, am_I b6), (7, am_I b7)] [] S := by
  unfold sf_X10_placed_98 at hs
  refine av_iload (pc := 98) (j := 4) C dX10_placed_98 rfl ?_
  refine av_iconst (pc := 100) C dX10_placed_100 rfl ?_
  refine av_icmp_ne (pc := 101) (tgt := 121) C dX10_placed_101 (by decide) (fun hc => ?_) (fun hc => ?_)
  · rw [if_neg hc] at hs
    refine av_lvsub (lv2 := [(0, am_R 74), (1, am_I b1), (7, am_I b7)]) [0, 1, 4] rfl ?_
    exact wk_X10_placed_121 C hr hlocks b1 b7 S SZ hs
  · rw [if_pos (Decidable.not_not.mp hc)] at hs
    refine av_iload (pc := 104) (j := 3) C dX10_placed_104 rfl ?_
    refine av_if_eq (pc := 106) (tgt := 121) C dX10_placed_106 (by decide) (fun hc => ?_) (fun hc => ?_)
    · rw [if_pos hc] at hs
      refine av_lvsub (lv2 := [(0, am_R 74), (1, am_I b1), (7, am_I b7)]) [0, 1, 4] rfl ?_
      exact wk_X10_placed_121 C hr hlocks b1 b7 S SZ hs
    · rw [if_neg hc] at hs
      refine av_aload_n (pc := 109) (j := 0) C dX10_placed_109 rfl rfl ?_
      refine av_getR (pc := 110) (k := 32) (r := 105) C fl_X10_101 sk_74 rfl dX10_placed_110 ?_
      refine av_iload_n (pc := 113) (j := 1) C dX10_placed_113 rfl rfl ?_
      refine av_dup2 (pc := 114) C dX10_placed_114 rfl rfl ?_
      obtain ⟨hb, hs⟩ := am_gd_of hs
      refine av_iald (pc := 115) C sk_105 hb dX10_placed_115 ?_
      refine av_iload_n (pc := 116) (j := 2) C dX10_placed_116 rfl rfl ?_
      refine av_iconst (pc := 117) C dX10_placed_117 rfl ?_
      refine av_iadd (pc := 118) C dX10_placed_118 ?_
      refine av_iadd (pc := 119) C dX10_placed_119 ?_
      obtain ⟨hb, hs⟩ := am_gd_of hs
      obtain ⟨S7, eS7, hs⟩ := am_let_of hs
      refine av_iast (pc := 120) C sk_105 hb dX10_placed_120 ?_
      refine av_eq rfl rfl rfl eS7 ?_
      refine av_lvsub (lv2 := [(0, am_R 74), (1, am_I b1), (7, am_I b7)]) [0, 1, 4] rfl ?_
      exact wk_X10_placed_121 C hr hlocks b1 b7 S7 SZ hs
set_option maxHeartbeats 4000000 in
set_option maxRecDepth 100000 in
theorem wk_X10_placed_68 {p : Program} {l : Launch} {e : Env} {s : State} {m : MethodId} {args : Array Value} {below : List Frame} {meth : Method} {c : Code} {G : am_G} (C : am_C p s m args c cX10_placed 8 RX10 G) (hr : meth.sig.returnType = none) (hlocks : meth.locks = false) (b1 : Int) (b2 : Int) (b5 : Int) (b6 : Int) (b7 : Int) (S : am_S) (SZ : am_S) (hs : sf_X10_placed_68 b1 b2 b5 b6 b7 S = some SZ) : am_V p l e (am_rm 4 100) s m args below meth c (MQ below (am_Q G none SZ) args s 0 0 (am_A G)) G (am_A G) s.heap 8 0 0 68 [(0, am_R 74), (1, am_I b1), (2, am_I b2), (5, am_I b5), (6, am_I b6), (7, am_I b7)] [] S := by
  unfold sf_X10_placed_68 at hs
  refine av_aload_n (pc := 68) (j := 0) C dX10_placed_68 rfl rfl ?_
  refine av_getR (pc := 69) (k := 31) (r := 104) C fl_X10_98 sk_74 rfl dX10_placed_69 ?_
  refine av_iload_n (pc := 72) (j := 1) C dX10_placed_72 rfl rfl ?_
  refine av_dup2 (pc := 73) C dX10_placed_73 rfl rfl ?_
  obtain ⟨hb, hs⟩ := am_gd_of hs
  refine av_iald (pc := 74) C sk_104 hb dX10_placed_74 ?_
  refine av_iconst (pc := 75) C dX10_placed_75 rfl ?_
  refine av_iadd (pc := 76) C dX10_placed_76 ?_
  obtain ⟨hb, hs⟩ := am_gd_of hs
  obtain ⟨S5, eS5, hs⟩ := am_let_of hs
  refine av_iast (pc := 77) C sk_104 hb dX10_placed_77 ?_
  refine av_eq rfl rfl rfl eS5 ?_
  refine av_iload (pc := 78) (j := 5) C dX10_placed_78 rfl ?_
  refine av_if_ne (pc := 80) (tgt := 98) C dX10_placed_80 (by decide) (fun hc => ?_) (fun hc => ?_)
  · rw [if_neg hc] at hs
    refine av_lvsub (lv2 := [(0, am_R 74), (1, am_I b1), (2, am_I b2), (6, am_I b6), (7, am_I b7)]) [0, 1, 2, 4, 5] rfl ?_
    exact wk_X10_placed_98 C hr hlocks b1 b2 b6 b7 S5 SZ hs
  · rw [if_pos (Decidable.not_not.mp hc)] at hs
    refine av_aload_n (pc := 83) (j := 0) C dX10_placed_83 rfl rfl ?_
    refine av_getR (pc := 84) (k := 32) (r := 105) C fl_X10_101 sk_74 rfl dX10_placed_84 ?_
    refine av_iload_n (pc := 87) (j := 1) C dX10_placed_87 rfl rfl ?_
    refine av_dup2 (pc := 88) C dX10_placed_88 rfl rfl ?_
    obtain ⟨hb, hs⟩ := am_gd_of hs
    refine av_iald (pc := 89) C sk_105 hb dX10_placed_89 ?_
    refine av_iload (pc := 90) (j := 3) C dX10_placed_90 rfl ?_
    refine av_iload_n (pc := 92) (j := 2) C dX10_placed_92 rfl rfl ?_
    refine av_iconst (pc := 93) C dX10_placed_93 rfl ?_
    refine av_iadd (pc := 94) C dX10_placed_94 ?_
    refine av_imul (pc := 95) C dX10_placed_95 ?_
    refine av_iadd (pc := 96) C dX10_placed_96 ?_
    obtain ⟨hb, hs⟩ := am_gd_of hs
    obtain ⟨S6, eS6, hs⟩ := am_let_of hs
    refine av_iast (pc := 97) C sk_105 hb dX10_placed_97 ?_
    refine av_eq rfl rfl rfl eS6 ?_
    refine av_lvsub (lv2 := [(0, am_R 74), (1, am_I b1), (2, am_I b2), (6, am_I b6), (7, am_I b7)]) [0, 1, 2, 4, 5] rfl ?_
    exact wk_X10_placed_98 C hr hlocks b1 b2 b6 b7 S6 SZ hs
set_option maxHeartbeats 4000000 in
set_option maxRecDepth 100000 in
theorem wk_X10_placed_10 {p : Program} {l : Launch} {e : Env} {s : State} {m : MethodId} {args : Array Value} {below : List Frame} {meth : Method} {c : Code} {G : am_G} (C : am_C p s m args c cX10_placed 8 RX10 G) (hr : meth.sig.returnType = none) (hlocks : meth.locks = false) (b1 : Int) (b2 : Int) (b4 : Int) (b5 : Int) (t0 : Int) (S : am_S) (SZ : am_S) (hs : sf_X10_placed_10 b1 b2 b4 b5 t0 S = some SZ) : am_V p l e (am_rm 4 100) s m args below meth c (MQ below (am_Q G none SZ) args s 0 0 (am_A G)) G (am_A G) s.heap 8 0 0 10 [(0, am_R 74), (1, am_I b1), (2, am_I b2), (4, am_I b4), (5, am_I b5)] [am_I t0] S := by
  unfold sf_X10_placed_10 at hs
  refine av_istore (pc := 10) (i := 6) (lv2 := [(6, am_I t0), (0, am_R 74), (1, am_I b1), (2, am_I b2), (4, am_I b4), (5, am_I b5)]) C dX10_placed_10 (by decide) rfl ?_
  refine av_aload_n (pc := 12) (j := 1) C dX10_placed_12 rfl rfl ?_
  refine av_getR (pc := 13) (k := 29) (r := 102) C fl_X10_92 sk_74 rfl dX10_placed_13 ?_
  refine av_iload_n (pc := 16) (j := 2) C dX10_placed_16 rfl rfl ?_
  obtain ⟨hb, hs⟩ := am_gd_of hs
  refine av_iald (pc := 17) C sk_102 hb dX10_placed_17 ?_
  refine av_istore (pc := 18) (i := 7) (lv2 := [(7, am_I (S.2 102 (Int.toNat b1))), (6, am_I t0), (0, am_R 74), (1, am_I b1), (2, am_I b2), (4, am_I b4), (5, am_I b5)]) C dX10_placed_18 (by decide) rfl ?_
  refine av_iload (pc := 20) (j := 0) C dX10_placed_20 rfl ?_
  refine av_iconst (pc := 22) C dX10_placed_22 rfl ?_
  refine av_icmp_eq (pc := 23) (tgt := 47) C dX10_placed_23 (by decide) (fun hc => ?_) (fun hc => ?_)
  · rw [if_pos hc] at hs
    refine av_lvsub (lv2 := [(0, am_R 74), (1, am_I b1), (4, am_I b4), (5, am_I b5), (6, am_I t0)]) [2, 3, 5, 6, 1] rfl ?_
    exact wk_X10_placed_47 C hr hlocks b1 b4 b5 t0 S SZ hs
  · rw [if_neg hc] at hs
    refine av_iload (pc := 26) (j := 0) C dX10_placed_26 rfl ?_
    refine av_if_ne (pc := 28) (tgt := 36) C dX10_placed_28 (by decide) (fun hc => ?_) (fun hc => ?_)
    · rw [if_neg hc] at hs
      refine av_iload (pc := 36) (j := 0) C dX10_placed_36 rfl ?_
      refine av_iconst (pc := 38) C dX10_placed_38 rfl ?_
      refine av_icmp_ne (pc := 39) (tgt := 68) C dX10_placed_39 (by decide) (fun hc => ?_) (fun hc => ?_)
      · rw [if_neg hc] at hs
        refine av_lvsub (lv2 := [(0, am_R 74), (1, am_I b1), (2, am_I b2), (5, am_I b5), (6, am_I t0), (7, am_I (S.2 102 (Int.toNat b1)))]) [2, 3, 4, 6, 1, 0] rfl ?_
        exact wk_X10_placed_68 C hr hlocks b1 b2 b5 t0 (S.2 102 (Int.toNat b1)) S SZ hs
      · rw [if_pos (Decidable.not_not.mp hc)] at hs
        refine av_iload (pc := 42) (j := 1) C dX10_placed_42 rfl ?_
        refine av_if_eq (pc := 44) (tgt := 68) C dX10_placed_44 (by decide) (fun hc => ?_) (fun hc => ?_)
        · rw [if_pos hc] at hs
          refine av_lvsub (lv2 := [(0, am_R 74), (1, am_I b1), (2, am_I b2), (5, am_I b5), (6, am_I t0), (7, am_I (S.2 102 (Int.toNat b1)))]) [2, 3, 4, 6, 1, 0] rfl ?_
          exact wk_X10_placed_68 C hr hlocks b1 b2 b5 t0 (S.2 102 (Int.toNat b1)) S SZ hs
        · rw [if_neg hc] at hs
          refine av_lvsub (lv2 := [(0, am_R 74), (1, am_I b1), (4, am_I b4), (5, am_I b5), (6, am_I t0)]) [2, 3, 5, 6, 1] rfl ?_
          exact wk_X10_placed_47 C hr hlocks b1 b4 b5 t0 S SZ hs
    · rw [if_pos (Decidable.not_not.mp hc)] at hs
      refine av_iload (pc := 31) (j := 1) C dX10_placed_31 rfl ?_
      refine av_if_eq (pc := 33) (tgt := 47) C dX10_placed_33 (by decide) (fun hc => ?_) (fun hc => ?_)
      · rw [if_pos hc] at hs
        refine av_lvsub (lv2 := [(0, am_R 74), (1, am_I b1), (4, am_I b4), (5, am_I b5), (6, am_I t0)]) [2, 3, 5, 6, 1] rfl ?_
        exact wk_X10_placed_47 C hr hlocks b1 b4 b5 t0 S SZ hs
      · rw [if_neg hc] at hs
        refine av_iload (pc := 36) (j := 0) C dX10_placed_36 rfl ?_
        refine av_iconst (pc := 38) C dX10_placed_38 rfl ?_
        refine av_icmp_ne (pc := 39) (tgt := 68) C dX10_placed_39 (by decide) (fun hc => ?_) (fun hc => ?_)
        · rw [if_neg hc] at hs
          refine av_lvsub (lv2 := [(0, am_R 74), (1, am_I b1), (2, am_I b2), (5, am_I b5), (6, am_I t0), (7, am_I (S.2 102 (Int.toNat b1)))]) [2, 3, 4, 6, 1, 0] rfl ?_
          exact wk_X10_placed_68 C hr hlocks b1 b2 b5 t0 (S.2 102 (Int.toNat b1)) S SZ hs
        · rw [if_pos (Decidable.not_not.mp hc)] at hs
          refine av_iload (pc := 42) (j := 1) C dX10_placed_42 rfl ?_
          refine av_if_eq (pc := 44) (tgt := 68) C dX10_placed_44 (by decide) (fun hc => ?_) (fun hc => ?_)
          · rw [if_pos hc] at hs
            refine av_lvsub (lv2 := [(0, am_R 74), (1, am_I b1), (2, am_I b2), (5, am_I b5), (6, am_I t0), (7, am_I (S.2 102 (Int.toNat b1)))]) [2, 3, 4, 6, 1, 0] rfl ?_
            exact wk_X10_placed_68 C hr hlocks b1 b2 b5 t0 (S.2 102 (Int.toNat b1)) S SZ hs
          · rw [if_neg hc] at hs
            refine av_lvsub (lv2 := [(0, am_R 74), (1, am_I b1), (4, am_I b4), (5, am_I b5), (6, am_I t0)]) [2, 3, 5, 6, 1] rfl ?_
            exact wk_X10_placed_47 C hr hlocks b1 b4 b5 t0 S SZ hs
set_option maxHeartbeats 4000000 in
set_option maxRecDepth 100000 in
theorem ct_X10_placed (l : Launch) (G : am_G) (a1 : Int) (a2 : Int) (a3 : Int) (a4 : Int) (a5 : Int) (S : am_S) (SZ : am_S) (hs : sf_X10_placed a1 a2 a3 a4 a5 S = some SZ) : am_met l yX10_placed cX10_placed 8 none 4 100 G [am_R 74, am_I a1, am_I a2, am_I a3, am_I a4, am_I a5] S none SZ := by
  refine am_enter ym_X10_placed (Nat.le_of_ble_eq_true rfl) ?_
  intro p e s m args below meth c C hr hlocks
  refine av_eq (lv2 := [(0, am_R 74), (1, am_I a1), (2, am_I a2), (3, am_I a3), (4, am_I a4), (5, am_I a5)]) rfl rfl rfl rfl ?_
  unfold sf_X10_placed at hs
  refine av_iload_n (pc := 0) (j := 3) C dX10_placed_0 rfl rfl ?_
  refine av_iconst (pc := 1) C dX10_placed_1 rfl ?_
  refine av_icmp_ne (pc := 2) (tgt := 9) C dX10_placed_2 (by decide) (fun hc => ?_) (fun hc => ?_)
  · rw [if_neg hc] at hs
    refine av_iconst (pc := 9) C dX10_placed_9 rfl ?_
    refine av_lvsub (lv2 := [(0, am_R 74), (1, am_I a1), (2, am_I a2), (4, am_I a4), (5, am_I a5)]) [0, 1, 2, 4, 5] rfl ?_
    exact wk_X10_placed_10 C hr hlocks a1 a2 a4 a5 0 S SZ hs
  · rw [if_pos (Decidable.not_not.mp hc)] at hs
    refine av_iconst (pc := 5) C dX10_placed_5 rfl ?_
    refine av_goto (pc := 6) (tgt := 10) C dX10_placed_6 (by decide) ?_
    refine av_lvsub (lv2 := [(0, am_R 74), (1, am_I a1), (2, am_I a2), (4, am_I a4), (5, am_I a5)]) [0, 1, 2, 4, 5] rfl ?_
    exact wk_X10_placed_10 C hr hlocks a1 a2 a4 a5 1 S SZ hs
set_option maxHeartbeats 4000000 in
set_option maxRecDepth 100000 in
theorem wk_X10_adopt_103 {p : Program} {l : Launch} {e : Env} {s : State} {m : MethodId} {args : Array Value} {below : List Frame} {meth : Method} {c : Code} {G : am_G} (C : am_C p s m args c cX10_adopt 5 RX10 G) (hr : meth.sig.returnType = none) (hlocks : meth.locks = false) (b1 : Int) (b3 : Int) (b4 : Int) (S : am_S) (SZ : am_S) (hs : sf_X10_adopt_103 b1 b3 b4 S = some SZ) : am_V p l e (am_rm 3 75) s m args below meth c (MQ below (am_Q G none SZ) args s 0 0 (am_A G)) G (am_A G) s.heap 5 0 0 103 [(0, am_R 74), (1, am_I b1), (3, am_I b3), (4, am_I b4)] [] S := by
  unfold sf_X10_adopt_103 at hs
  refine av_aload_n (pc := 103) (j := 0) C dX10_adopt_103 rfl rfl ?_
  refine av_getR (pc := 104) (k := 20) (r := 93) C fl_X10_65 sk_74 rfl dX10_adopt_104 ?_
  refine av_iload_n (pc := 107) (j := 2) C dX10_adopt_107 rfl rfl ?_
  obtain ⟨hb, hs⟩ := am_gd_of hs
  refine av_iald (pc := 108) C sk_93 hb dX10_adopt_108 ?_
  refine av_iconst (pc := 109) C dX10_adopt_109 rfl ?_
  refine av_icmp_ne (pc := 110) (tgt := 132) C dX10_adopt_110 (by decide) (fun hc => ?_) (fun hc => ?_)
  · rw [if_neg hc] at hs
    obtain rfl := am_inj1 hs
    exact av_vret C hr hlocks dX10_adopt_132
  · rw [if_pos (Decidable.not_not.mp hc)] at hs
    refine av_aload_n (pc := 113) (j := 0) C dX10_adopt_113 rfl rfl ?_
    refine av_iload_n (pc := 114) (j := 1) C dX10_adopt_114 rfl rfl ?_
    refine av_aload_n (pc := 115) (j := 0) C dX10_adopt_115 rfl rfl ?_
    refine av_getR (pc := 116) (k := 23) (r := 96) C fl_X10_74 sk_74 rfl dX10_adopt_116 ?_
    refine av_iload_n (pc := 119) (j := 2) C dX10_adopt_119 rfl rfl ?_
    obtain ⟨hb, hs⟩ := am_gd_of hs
    refine av_iald (pc := 120) C sk_96 hb dX10_adopt_120 ?_
    refine av_aload_n (pc := 121) (j := 0) C dX10_adopt_121 rfl rfl ?_
    refine av_getR (pc := 122) (k := 24) (r := 97) C fl_X10_77 sk_74 rfl dX10_adopt_122 ?_
    refine av_iload_n (pc := 125) (j := 2) C dX10_adopt_125 rfl rfl ?_
    obtain ⟨hb, hs⟩ := am_gd_of hs
    refine av_iald (pc := 126) C sk_97 hb dX10_adopt_126 ?_
    refine av_iload (pc := 127) (j := 3) C dX10_adopt_127 rfl ?_
    obtain ⟨S11, hc12, hs⟩ := am_b1_of hs
    refine av_eq (st2 := [am_I b4, am_I (S.2 97 (Int.toNat b3)), am_I (S.2 96 (Int.toNat b3)), am_I b1, am_R 74]) rfl rfl rfl rfl (av_callV (pc := 129) (as := [am_I b1, am_I (S.2 96 (Int.toNat b3)), am_I (S.2 97 (Int.toNat b3)), am_I b4]) (rest := []) C (ct_X10_rejectBy l G b1 (S.2 96 (Int.toNat b3)) (S.2 97 (Int.toNat b3)) b4 S S11 hc12) ym_X10_rejectBy si_X10_198 im_X10_rejectBy se_X10_rejectBy sk_74 rfl ⟨Nat.le_of_ble_eq_true rfl, Nat.le_of_ble_eq_true rfl⟩ rfl rfl (Nat.le_of_ble_eq_true rfl) dX10_adopt_129 ⟨Nat.le_refl _, Nat.le_refl _⟩ (fun hrv => av_eq (st2 := []) rfl rfl rfl rfl ?_))
    obtain rfl := am_inj1 hs
    exact av_vret C hr hlocks dX10_adopt_132
set_option maxHeartbeats 4000000 in
set_option maxRecDepth 100000 in
theorem wk_X10_adopt_74 {p : Program} {l : Launch} {e : Env} {s : State} {m : MethodId} {args : Array Value} {below : List Frame} {meth : Method} {c : Code} {G : am_G} (C : am_C p s m args c cX10_adopt 5 RX10 G) (hr : meth.sig.returnType = none) (hlocks : meth.locks = false) (b1 : Int) (b3 : Int) (b4 : Int) (S : am_S) (SZ : am_S) (hs : sf_X10_adopt_74 b1 b3 b4 S = some SZ) : am_V p l e (am_rm 3 75) s m args below meth c (MQ below (am_Q G none SZ) args s 0 0 (am_A G)) G (am_A G) s.heap 5 0 0 74 [(0, am_R 74), (1, am_I b1), (3, am_I b3), (4, am_I b4)] [] S := by
  unfold sf_X10_adopt_74 at hs
  refine av_aload_n (pc := 74) (j := 0) C dX10_adopt_74 rfl rfl ?_
  refine av_getR (pc := 75) (k := 20) (r := 93) C fl_X10_65 sk_74 rfl dX10_adopt_75 ?_
  refine av_iload_n (pc := 78) (j := 2) C dX10_adopt_78 rfl rfl ?_
  obtain ⟨hb, hs⟩ := am_gd_of hs
  refine av_iald (pc := 79) C sk_93 hb dX10_adopt_79 ?_
  refine av_iconst (pc := 80) C dX10_adopt_80 rfl ?_
  refine av_icmp_ne (pc := 81) (tgt := 103) C dX10_adopt_81 (by decide) (fun hc => ?_) (fun hc => ?_)
  · rw [if_neg hc] at hs
    exact wk_X10_adopt_103 C hr hlocks b1 b3 b4 S SZ hs
  · rw [if_pos (Decidable.not_not.mp hc)] at hs
    refine av_aload_n (pc := 84) (j := 0) C dX10_adopt_84 rfl rfl ?_
    refine av_iload_n (pc := 85) (j := 1) C dX10_adopt_85 rfl rfl ?_
    refine av_aload_n (pc := 86) (j := 0) C dX10_adopt_86 rfl rfl ?_
    refine av_getR (pc := 87) (k := 21) (r := 94) C fl_X10_68 sk_74 rfl dX10_adopt_87 ?_
    refine av_iload_n (pc := 90) (j := 2) C dX10_adopt_90 rfl rfl ?_
    obtain ⟨hb, hs⟩ := am_gd_of hs
    refine av_iald (pc := 91) C sk_94 hb dX10_adopt_91 ?_
    refine av_aload_n (pc := 92) (j := 0) C dX10_adopt_92 rfl rfl ?_
    refine av_getR (pc := 93) (k := 22) (r := 95) C fl_X10_71 sk_74 rfl dX10_adopt_93 ?_
    refine av_iload_n (pc := 96) (j := 2) C dX10_adopt_96 rfl rfl ?_
    obtain ⟨hb, hs⟩ := am_gd_of hs
    refine av_iald (pc := 97) C sk_95 hb dX10_adopt_97 ?_
    refine av_iload (pc := 98) (j := 3) C dX10_adopt_98 rfl ?_
    obtain ⟨S9, hc10, hs⟩ := am_b1_of hs
    refine av_eq (st2 := [am_I b4, am_I (S.2 95 (Int.toNat b3)), am_I (S.2 94 (Int.toNat b3)), am_I b1, am_R 74]) rfl rfl rfl rfl (av_callV (pc := 100) (as := [am_I b1, am_I (S.2 94 (Int.toNat b3)), am_I (S.2 95 (Int.toNat b3)), am_I b4]) (rest := []) C (ct_X10_rejectBy l G b1 (S.2 94 (Int.toNat b3)) (S.2 95 (Int.toNat b3)) b4 S S9 hc10) ym_X10_rejectBy si_X10_198 im_X10_rejectBy se_X10_rejectBy sk_74 rfl ⟨Nat.le_of_ble_eq_true rfl, Nat.le_of_ble_eq_true rfl⟩ rfl rfl (Nat.le_of_ble_eq_true rfl) dX10_adopt_100 ⟨Nat.le_refl _, Nat.le_refl _⟩ (fun hrv => av_eq (st2 := []) rfl rfl rfl rfl ?_))
    exact wk_X10_adopt_103 C hr hlocks b1 b3 b4 S9 SZ hs
set_option maxHeartbeats 4000000 in
set_option maxRecDepth 100000 in
theorem ct_X10_adopt (l : Launch) (G : am_G) (a1 : Int) (a2 : Int) (a3 : Int) (S : am_S) (SZ : am_S) (hs : sf_X10_adopt a1 a2 a3 S = some SZ) : am_met l yX10_adopt cX10_adopt 5 none 3 75 G [am_R 74, am_I a1, am_I a2, am_I a3] S none SZ := by
  refine am_enter ym_X10_adopt (Nat.le_of_ble_eq_true rfl) ?_
  intro p e s m args below meth c C hr hlocks
  refine av_eq (lv2 := [(0, am_R 74), (1, am_I a1), (2, am_I a2), (3, am_I a3)]) rfl rfl rfl rfl ?_
  unfold sf_X10_adopt at hs
  refine av_aload_n (pc := 0) (j := 0) C dX10_adopt_0 rfl rfl ?_
  refine av_getR (pc := 1) (k := 3) (r := 78) C fl_X10_19 sk_74 rfl dX10_adopt_1 ?_
  refine av_iload_n (pc := 4) (j := 1) C dX10_adopt_4 rfl rfl ?_
  refine av_dup2 (pc := 5) C dX10_adopt_5 rfl rfl ?_
  obtain ⟨hb, hs⟩ := am_gd_of hs
  refine av_iald (pc := 6) C sk_78 hb dX10_adopt_6 ?_
  refine av_iconst (pc := 7) C dX10_adopt_7 rfl ?_
  refine av_iadd (pc := 8) C dX10_adopt_8 ?_
  refine av_dup_x2 (pc := 9) C dX10_adopt_9 rfl rfl rfl ?_
  obtain ⟨hb, hs⟩ := am_gd_of hs
  obtain ⟨S1, eS1, hs⟩ := am_let_of hs
  refine av_iast (pc := 10) C sk_78 hb dX10_adopt_10 ?_
  refine av_eq rfl rfl rfl eS1 ?_
  refine av_istore (pc := 11) (i := 4) (lv2 := [(4, am_I (am_w32 ((S.2 78 (Int.toNat a1)) + 1))), (0, am_R 74), (1, am_I a1), (2, am_I a2), (3, am_I a3)]) C dX10_adopt_11 (by decide) rfl ?_
  refine av_aload_n (pc := 13) (j := 1) C dX10_adopt_13 rfl rfl ?_
  refine av_getR (pc := 14) (k := 6) (r := 81) C fl_X10_28 sk_74 rfl dX10_adopt_14 ?_
  refine av_iload_n (pc := 17) (j := 2) C dX10_adopt_17 rfl rfl ?_
  refine av_iconst (pc := 18) C dX10_adopt_18 rfl ?_
  obtain ⟨hb, hs⟩ := am_gd_of hs
  obtain ⟨S2, eS2, hs⟩ := am_let_of hs
  refine av_zast (pc := 19) C sk_81 hb (by decide) dX10_adopt_19 ?_
  refine av_eq rfl rfl rfl eS2 ?_
  refine av_iload_n (pc := 20) (j := 3) C dX10_adopt_20 rfl rfl ?_
  refine av_iconst (pc := 21) C dX10_adopt_21 rfl ?_
  refine av_icmp_ne (pc := 22) (tgt := 36) C dX10_adopt_22 (by decide) (fun hc => ?_) (fun hc => ?_)
  · rw [if_neg hc] at hs
    refine av_aload_n (pc := 36) (j := 1) C dX10_adopt_36 rfl rfl ?_
    refine av_getR (pc := 37) (k := 20) (r := 93) C fl_X10_65 sk_74 rfl dX10_adopt_37 ?_
    refine av_iload_n (pc := 40) (j := 4) C dX10_adopt_40 rfl rfl ?_
    obtain ⟨hb, hs⟩ := am_gd_of hs
    refine av_iald (pc := 41) C sk_93 hb dX10_adopt_41 ?_
    refine av_if_eq (pc := 42) (tgt := 55) C dX10_adopt_42 (by decide) (fun hc => ?_) (fun hc => ?_)
    · rw [if_pos hc] at hs
      refine av_aload_n (pc := 55) (j := 1) C dX10_adopt_55 rfl rfl ?_
      refine av_iload_n (pc := 56) (j := 2) C dX10_adopt_56 rfl rfl ?_
      refine av_aload_n (pc := 57) (j := 1) C dX10_adopt_57 rfl rfl ?_
      refine av_getR (pc := 58) (k := 21) (r := 94) C fl_X10_68 sk_74 rfl dX10_adopt_58 ?_
      refine av_iload_n (pc := 61) (j := 4) C dX10_adopt_61 rfl rfl ?_
      obtain ⟨hb, hs⟩ := am_gd_of hs
      refine av_iald (pc := 62) C sk_94 hb dX10_adopt_62 ?_
      refine av_aload_n (pc := 63) (j := 1) C dX10_adopt_63 rfl rfl ?_
      refine av_getR (pc := 64) (k := 22) (r := 95) C fl_X10_71 sk_74 rfl dX10_adopt_64 ?_
      refine av_iload_n (pc := 67) (j := 4) C dX10_adopt_67 rfl rfl ?_
      obtain ⟨hb, hs⟩ := am_gd_of hs
      refine av_iald (pc := 68) C sk_95 hb dX10_adopt_68 ?_
      refine av_iload (pc := 69) (j := 0) C dX10_adopt_69 rfl ?_
      obtain ⟨S3, hc4, hs⟩ := am_b1_of hs
      refine av_eq (st2 := [am_I (am_w32 ((S.2 78 (Int.toNat a1)) + 1)), am_I (S2.2 95 (Int.toNat a3)), am_I (S2.2 94 (Int.toNat a3)), am_I a1, am_R 74]) rfl rfl rfl rfl (av_callV (pc := 71) (as := [am_I a1, am_I (S2.2 94 (Int.toNat a3)), am_I (S2.2 95 (Int.toNat a3)), am_I (am_w32 ((S.2 78 (Int.toNat a1)) + 1))]) (rest := []) C (ct_X10_resolveBy l G a1 (S2.2 94 (Int.toNat a3)) (S2.2 95 (Int.toNat a3)) (am_w32 ((S.2 78 (Int.toNat a1)) + 1)) S2 S3 hc4) ym_X10_resolveBy si_X10_201 im_X10_resolveBy se_X10_resolveBy sk_74 rfl ⟨Nat.le_of_ble_eq_true rfl, Nat.le_of_ble_eq_true rfl⟩ rfl rfl (Nat.le_of_ble_eq_true rfl) dX10_adopt_71 ⟨Nat.le_refl _, Nat.le_refl _⟩ (fun hrv => av_eq (st2 := []) rfl rfl rfl rfl ?_))
      refine av_lvsub (lv2 := [(0, am_R 74), (1, am_I a1), (3, am_I a3), (4, am_I (am_w32 ((S.2 78 (Int.toNat a1)) + 1)))]) [1, 2, 4, 0] rfl ?_
      exact wk_X10_adopt_74 C hr hlocks a1 a3 (am_w32 ((S.2 78 (Int.toNat a1)) + 1)) S3 SZ hs
    · rw [if_neg hc] at hs
      refine av_aload_n (pc := 45) (j := 1) C dX10_adopt_45 rfl rfl ?_
      refine av_getR (pc := 46) (k := 20) (r := 93) C fl_X10_65 sk_74 rfl dX10_adopt_46 ?_
      refine av_iload_n (pc := 49) (j := 4) C dX10_adopt_49 rfl rfl ?_
      obtain ⟨hb, hs⟩ := am_gd_of hs
      refine av_iald (pc := 50) C sk_93 hb dX10_adopt_50 ?_
      refine av_iconst (pc := 51) C dX10_adopt_51 rfl ?_
      refine av_icmp_ne (pc := 52) (tgt := 74) C dX10_adopt_52 (by decide) (fun hc => ?_) (fun hc => ?_)
      · rw [if_neg hc] at hs
        refine av_lvsub (lv2 := [(0, am_R 74), (1, am_I a1), (3, am_I a3), (4, am_I (am_w32 ((S.2 78 (Int.toNat a1)) + 1)))]) [1, 2, 4, 0] rfl ?_
        exact wk_X10_adopt_74 C hr hlocks a1 a3 (am_w32 ((S.2 78 (Int.toNat a1)) + 1)) S2 SZ hs
      · rw [if_pos (Decidable.not_not.mp hc)] at hs
        refine av_aload_n (pc := 55) (j := 1) C dX10_adopt_55 rfl rfl ?_
        refine av_iload_n (pc := 56) (j := 2) C dX10_adopt_56 rfl rfl ?_
        refine av_aload_n (pc := 57) (j := 1) C dX10_adopt_57 rfl rfl ?_
        refine av_getR (pc := 58) (k := 21) (r := 94) C fl_X10_68 sk_74 rfl dX10_adopt_58 ?_
        refine av_iload_n (pc := 61) (j := 4) C dX10_adopt_61 rfl rfl ?_
        obtain ⟨hb, hs⟩ := am_gd_of hs
        refine av_iald (pc := 62) C sk_94 hb dX10_adopt_62 ?_
        refine av_aload_n (pc := 63) (j := 1) C dX10_adopt_63 rfl rfl ?_
        refine av_getR (pc := 64) (k := 22) (r := 95) C fl_X10_71 sk_74 rfl dX10_adopt_64 ?_
        refine av_iload_n (pc := 67) (j := 4) C dX10_adopt_67 rfl rfl ?_
        obtain ⟨hb, hs⟩ := am_gd_of hs
        refine av_iald (pc := 68) C sk_95 hb dX10_adopt_68 ?_
        refine av_iload (pc := 69) (j := 0) C dX10_adopt_69 rfl ?_
        obtain ⟨S5, hc6, hs⟩ := am_b1_of hs
        refine av_eq (st2 := [am_I (am_w32 ((S.2 78 (Int.toNat a1)) + 1)), am_I (S2.2 95 (Int.toNat a3)), am_I (S2.2 94 (Int.toNat a3)), am_I a1, am_R 74]) rfl rfl rfl rfl (av_callV (pc := 71) (as := [am_I a1, am_I (S2.2 94 (Int.toNat a3)), am_I (S2.2 95 (Int.toNat a3)), am_I (am_w32 ((S.2 78 (Int.toNat a1)) + 1))]) (rest := []) C (ct_X10_resolveBy l G a1 (S2.2 94 (Int.toNat a3)) (S2.2 95 (Int.toNat a3)) (am_w32 ((S.2 78 (Int.toNat a1)) + 1)) S2 S5 hc6) ym_X10_resolveBy si_X10_201 im_X10_resolveBy se_X10_resolveBy sk_74 rfl ⟨Nat.le_of_ble_eq_true rfl, Nat.le_of_ble_eq_true rfl⟩ rfl rfl (Nat.le_of_ble_eq_true rfl) dX10_adopt_71 ⟨Nat.le_refl _, Nat.le_refl _⟩ (fun hrv => av_eq (st2 := []) rfl rfl rfl rfl ?_))
        refine av_lvsub (lv2 := [(0, am_R 74), (1, am_I a1), (3, am_I a3), (4, am_I (am_w32 ((S.2 78 (Int.toNat a1)) + 1)))]) [1, 2, 4, 0] rfl ?_
        exact wk_X10_adopt_74 C hr hlocks a1 a3 (am_w32 ((S.2 78 (Int.toNat a1)) + 1)) S5 SZ hs
  · rw [if_pos (Decidable.not_not.mp hc)] at hs
    refine av_aload_n (pc := 25) (j := 1) C dX10_adopt_25 rfl rfl ?_
    refine av_iload_n (pc := 26) (j := 4) C dX10_adopt_26 rfl rfl ?_
    refine av_iconst (pc := 27) C dX10_adopt_27 rfl ?_
    refine av_iload_n (pc := 28) (j := 2) C dX10_adopt_28 rfl rfl ?_
    refine av_iload (pc := 29) (j := 0) C dX10_adopt_29 rfl ?_
    refine av_iconst (pc := 31) C dX10_adopt_31 rfl ?_
    obtain ⟨S7, hc8, hs⟩ := am_b1_of hs
    refine av_eq (st2 := [am_I 0, am_I (am_w32 ((S.2 78 (Int.toNat a1)) + 1)), am_I a1, am_I 2, am_I a3, am_R 74]) rfl rfl rfl rfl (av_callV (pc := 32) (as := [am_I a3, am_I 2, am_I a1, am_I (am_w32 ((S.2 78 (Int.toNat a1)) + 1)), am_I 0]) (rest := []) C (ct_X10_waitFor l G a3 2 a1 (am_w32 ((S.2 78 (Int.toNat a1)) + 1)) 0 S2 S7 hc8) ym_X10_waitFor si_X10_211 im_X10_waitFor se_X10_waitFor sk_74 rfl ⟨Nat.le_of_ble_eq_true rfl, Nat.le_of_ble_eq_true rfl⟩ rfl rfl (Nat.le_of_ble_eq_true rfl) dX10_adopt_32 ⟨Nat.le_refl _, Nat.le_refl _⟩ (fun hrv => av_eq (st2 := []) rfl rfl rfl rfl ?_))
    obtain rfl := am_inj1 hs
    exact av_vret C hr hlocks dX10_adopt_35
