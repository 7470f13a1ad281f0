set_option maxHeartbeats 4000000 in
set_option maxRecDepth 100000 in
theorem ct_X10_empty (l : Launch) (G : am_G) (a1 : Int) (S : am_S) (x : Int) (SZ : am_S) (hs : sf_X10_empty a1 S = some (x, SZ)) : am_met l yX10_empty cX10_empty 3 (some .int) 1 22 G [am_R 74, am_I a1] S (some (am_I x)) SZ := by
  refine am_enter ym_X10_empty (Nat.le_of_ble_eq_true rfl) ?_
  intro p e s m args below meth c C hr hlocks
  refine av_eq (lv2 := [(0, am_R 74), (1, am_I a1)]) rfl rfl rfl rfl ?_
  unfold sf_X10_empty at hs
  refine av_iload_n (pc := 0) (j := 1) C dX10_empty_0 rfl rfl ?_
  refine av_iconst (pc := 1) C dX10_empty_1 rfl ?_
  refine av_bipush (pc := 2) C dX10_empty_2 rfl ?_
  obtain ⟨x2, S1, hc3, hs⟩ := am_b2_of hs
  refine av_eq (st2 := [am_I 9, am_I 0, am_I a1]) rfl rfl rfl rfl (av_callS (pc := 4) (as := [am_I a1, am_I 0, am_I 9]) (rest := []) C (ct_X10_in l G a1 0 9 S x2 S1 hc3) ym_X10_in si_X10_171 st_X10_in ⟨Nat.le_of_ble_eq_true rfl, Nat.le_of_ble_eq_true rfl⟩ rfl rfl (Nat.le_of_ble_eq_true rfl) dX10_empty_4 ⟨Nat.le_refl _, Nat.le_refl _⟩ (fun hrv => av_eq (st2 := [am_I x2]) rfl rfl rfl rfl ?_))
  refine av_if_ne (pc := 7) (tgt := 12) C dX10_empty_7 (by decide) (fun hc => ?_) (fun hc => ?_)
  · rw [if_neg hc] at hs
    refine av_aload_n (pc := 12) (j := 0) C dX10_empty_12 rfl rfl ?_
    refine av_getR (pc := 13) (k := 25) (r := 98) C fl_X10_80 sk_74 rfl dX10_empty_13 ?_
    refine av_iload_n (pc := 16) (j := 1) C dX10_empty_16 rfl rfl ?_
    obtain ⟨hb, hs⟩ := am_gd_of hs
    refine av_iald (pc := 17) C sk_98 hb dX10_empty_17 ?_
    refine av_istore_n (pc := 18) (i := 2) (lv2 := [(2, am_I (S1.2 98 (Int.toNat a1))), (0, am_R 74), (1, am_I a1)]) C dX10_empty_18 rfl (by decide) rfl ?_
    refine av_aload_n (pc := 19) (j := 1) C dX10_empty_19 rfl rfl ?_
    refine av_getR (pc := 20) (k := 25) (r := 98) C fl_X10_80 sk_74 rfl dX10_empty_20 ?_
    refine av_iload_n (pc := 23) (j := 2) C dX10_empty_23 rfl rfl ?_
    refine av_iconst (pc := 24) C dX10_empty_24 rfl ?_
    obtain ⟨hb, hs⟩ := am_gd_of hs
    obtain ⟨S4, eS4, hs⟩ := am_let_of hs
    refine av_iast (pc := 25) C sk_98 hb dX10_empty_25 ?_
    refine av_eq rfl rfl rfl eS4 ?_
    refine av_iload_n (pc := 26) (j := 0) C dX10_empty_26 rfl rfl ?_
    obtain ⟨rfl, rfl⟩ := am_inj2 hs
    exact av_iret C hr hlocks dX10_empty_27
  · rw [if_pos (Decidable.not_not.mp hc)] at hs
    refine av_iconst (pc := 10) C dX10_empty_10 rfl ?_
    obtain ⟨rfl, rfl⟩ := am_inj2 hs
    exact av_iret C hr hlocks dX10_empty_11
set_option maxHeartbeats 4000000 in
set_option maxRecDepth 100000 in
theorem ct_X10_begin (l : Launch) (G : am_G) (a1 : Int) (a2 : Int) (a3 : Int) (a4 : Int) (a5 : Int) (S : am_S) (SZ : am_S) (hs : sf_X10_begin a1 a2 a3 a4 a5 S = some SZ) : am_met l yX10_begin cX10_begin 6 none 0 0 G [am_R 74, am_I a1, am_I a2, am_I a3, am_I a4, am_I a5] S none SZ := by
  refine am_enter ym_X10_begin (Nat.le_of_ble_eq_true rfl) ?_
  intro p e s m args below meth c C hr hlocks
  refine av_eq (lv2 := [(0, am_R 74), (1, am_I a1), (2, am_I a2), (3, am_I a3), (4, am_I a4), (5, am_I a5)]) rfl rfl rfl rfl ?_
  unfold sf_X10_begin at hs
  refine av_aload_n (pc := 0) (j := 0) C dX10_begin_0 rfl rfl ?_
  refine av_dup (pc := 1) C dX10_begin_1 rfl ?_
  refine av_getI (pc := 2) (k := 52) (n := 4788) C fl_X10_215 sk_74 rfl rfl dX10_begin_2 ?_
  refine av_iconst (pc := 5) C dX10_begin_5 rfl ?_
  refine av_iadd (pc := 6) C dX10_begin_6 ?_
  obtain ⟨S1, eS1, hs⟩ := am_let_of hs
  refine av_putI (pc := 7) (k := 52) (n := 4788) C fp_X10_215 sk_74 rfl rfl dX10_begin_7 ?_
  refine av_eq rfl rfl rfl eS1 ?_
  refine av_aload_n (pc := 10) (j := 0) C dX10_begin_10 rfl rfl ?_
  refine av_getR (pc := 11) (k := 47) (r := 116) C fl_X10_134 sk_74 rfl dX10_begin_11 ?_
  refine av_aload_n (pc := 14) (j := 0) C dX10_begin_14 rfl rfl ?_
  refine av_getI (pc := 15) (k := 52) (n := 4788) C fl_X10_215 sk_74 rfl rfl dX10_begin_15 ?_
  refine av_iload_n (pc := 18) (j := 1) C dX10_begin_18 rfl rfl ?_
  obtain ⟨hb, hs⟩ := am_gd_of hs
  obtain ⟨S2, eS2, hs⟩ := am_let_of hs
  refine av_iast (pc := 19) C sk_116 hb dX10_begin_19 ?_
  refine av_eq rfl rfl rfl eS2 ?_
  refine av_aload_n (pc := 20) (j := 0) C dX10_begin_20 rfl rfl ?_
  refine av_getR (pc := 21) (k := 48) (r := 117) C fl_X10_137 sk_74 rfl dX10_begin_21 ?_
  refine av_aload_n (pc := 24) (j := 0) C dX10_begin_24 rfl rfl ?_
  refine av_getI (pc := 25) (k := 52) (n := 4788) C fl_X10_215 sk_74 rfl rfl dX10_begin_25 ?_
  refine av_iload_n (pc := 28) (j := 2) C dX10_begin_28 rfl rfl ?_
  obtain ⟨hb, hs⟩ := am_gd_of hs
  obtain ⟨S3, eS3, hs⟩ := am_let_of hs
  refine av_iast (pc := 29) C sk_117 hb dX10_begin_29 ?_
  refine av_eq rfl rfl rfl eS3 ?_
  refine av_aload_n (pc := 30) (j := 0) C dX10_begin_30 rfl rfl ?_
  refine av_getR (pc := 31) (k := 49) (r := 118) C fl_X10_140 sk_74 rfl dX10_begin_31 ?_
  refine av_aload_n (pc := 34) (j := 0) C dX10_begin_34 rfl rfl ?_
  refine av_getI (pc := 35) (k := 52) (n := 4788) C fl_X10_215 sk_74 rfl rfl dX10_begin_35 ?_
  refine av_iload_n (pc := 38) (j := 3) C dX10_begin_38 rfl rfl ?_
  obtain ⟨hb, hs⟩ := am_gd_of hs
  obtain ⟨S4, eS4, hs⟩ := am_let_of hs
  refine av_iast (pc := 39) C sk_118 hb dX10_begin_39 ?_
  refine av_eq rfl rfl rfl eS4 ?_
  refine av_aload_n (pc := 40) (j := 0) C dX10_begin_40 rfl rfl ?_
  refine av_getR (pc := 41) (k := 50) (r := 119) C fl_X10_143 sk_74 rfl dX10_begin_41 ?_
  refine av_aload_n (pc := 44) (j := 0) C dX10_begin_44 rfl rfl ?_
  refine av_getI (pc := 45) (k := 52) (n := 4788) C fl_X10_215 sk_74 rfl rfl dX10_begin_45 ?_
  refine av_iload (pc := 48) (j := 4) C dX10_begin_48 rfl ?_
  obtain ⟨hb, hs⟩ := am_gd_of hs
  obtain ⟨S5, eS5, hs⟩ := am_let_of hs
  refine av_iast (pc := 50) C sk_119 hb dX10_begin_50 ?_
  refine av_eq rfl rfl rfl eS5 ?_
  refine av_aload_n (pc := 51) (j := 0) C dX10_begin_51 rfl rfl ?_
  refine av_getR (pc := 52) (k := 51) (r := 120) C fl_X10_146 sk_74 rfl dX10_begin_52 ?_
  refine av_aload_n (pc := 55) (j := 0) C dX10_begin_55 rfl rfl ?_
  refine av_getI (pc := 56) (k := 52) (n := 4788) C fl_X10_215 sk_74 rfl rfl dX10_begin_56 ?_
  refine av_iload (pc := 59) (j := 5) C dX10_begin_59 rfl ?_
  obtain ⟨hb, hs⟩ := am_gd_of hs
  obtain ⟨S6, eS6, hs⟩ := am_let_of hs
  refine av_iast (pc := 61) C sk_120 hb dX10_begin_61 ?_
  refine av_eq rfl rfl rfl eS6 ?_
  obtain rfl := am_inj1 hs
  exact av_vret C hr hlocks dX10_begin_62
set_option maxHeartbeats 4000000 in
set_option maxRecDepth 100000 in
theorem ct_X10_put (l : Launch) (G : am_G) (a1 : Int) (a2 : Int) (S : am_S) (SZ : am_S) (hs : sf_X10_put a1 a2 S = some SZ) : am_met l yX10_put cX10_put 3 none 0 0 G [am_R 74, am_I a1, am_I a2] S none SZ := by
  refine am_enter ym_X10_put (Nat.le_of_ble_eq_true rfl) ?_
  intro p e s m args below meth c C hr hlocks
  refine av_eq (lv2 := [(0, am_R 74), (1, am_I a1), (2, am_I a2)]) rfl rfl rfl rfl ?_
  unfold sf_X10_put at hs
  refine av_aload_n (pc := 0) (j := 0) C dX10_put_0 rfl rfl ?_
  refine av_getR (pc := 1) (k := 49) (r := 118) C fl_X10_140 sk_74 rfl dX10_put_1 ?_
  refine av_aload_n (pc := 4) (j := 0) C dX10_put_4 rfl rfl ?_
  refine av_getI (pc := 5) (k := 52) (n := 4788) C fl_X10_215 sk_74 rfl rfl dX10_put_5 ?_
  refine av_iload_n (pc := 8) (j := 1) C dX10_put_8 rfl rfl ?_
  obtain ⟨hb, hs⟩ := am_gd_of hs
  obtain ⟨S1, eS1, hs⟩ := am_let_of hs
  refine av_iast (pc := 9) C sk_118 hb dX10_put_9 ?_
  refine av_eq rfl rfl rfl eS1 ?_
  refine av_aload_n (pc := 10) (j := 0) C dX10_put_10 rfl rfl ?_
  refine av_getR (pc := 11) (k := 50) (r := 119) C fl_X10_143 sk_74 rfl dX10_put_11 ?_
  refine av_aload_n (pc := 14) (j := 0) C dX10_put_14 rfl rfl ?_
  refine av_getI (pc := 15) (k := 52) (n := 4788) C fl_X10_215 sk_74 rfl rfl dX10_put_15 ?_
  refine av_iload_n (pc := 18) (j := 2) C dX10_put_18 rfl rfl ?_
  obtain ⟨hb, hs⟩ := am_gd_of hs
  obtain ⟨S2, eS2, hs⟩ := am_let_of hs
  refine av_iast (pc := 19) C sk_119 hb dX10_put_19 ?_
  refine av_eq rfl rfl rfl eS2 ?_
  obtain rfl := am_inj1 hs
  exact av_vret C hr hlocks dX10_put_20
set_option maxHeartbeats 4000000 in
set_option maxRecDepth 100000 in
theorem wk_X10_endOf_7 {p : Program} {l : Launch} {e : Env} {s : State} {m : MethodId} {args : Array Value} {below : List Frame} {meth : Method} {c : Code} {G : am_G} (C : am_C p s m args c cX10_endOf 6 RX10 G) (hr : meth.sig.returnType = (some .int)) (hlocks : meth.locks = false) : ∀ (fu : Nat) (b1 : Int) (b3 : Int) (b4 : Int) (S : am_S) (x : Int) (SZ : am_S), sf_X10_endOf_7 fu b1 b3 b4 S = some (x, SZ) → am_V p l e (am_rm 0 0) s m args below meth c (MQ below (am_Q G (some (am_I x)) SZ) args s 0 0 (am_A G)) G (am_A G) s.heap 6 0 0 7 [(0, am_R 74), (1, am_I b1), (3, am_I b3), (4, am_I b4)] [] S := by
  intro fu
  induction fu with
  | zero => intro b1 b3 b4 S x SZ hs; cases hs
  | succ fu ih =>
    intro b1 b3 b4 S x SZ hs
    unfold sf_X10_endOf_7 at hs
    refine av_iload (pc := 7) (j := 3) C dX10_endOf_7 rfl ?_
    refine av_aload_n (pc := 9) (j := 0) C dX10_endOf_9 rfl rfl ?_
    refine av_getR (pc := 10) (k := 25) (r := 98) C fl_X10_80 sk_74 rfl dX10_endOf_10 ?_
    refine av_iload_n (pc := 13) (j := 1) C dX10_endOf_13 rfl rfl ?_
    obtain ⟨hb, hs⟩ := am_gd_of hs
    refine av_iald (pc := 14) C sk_98 hb dX10_endOf_14 ?_
    refine av_icmp_ge (pc := 15) (tgt := 78) C dX10_endOf_15 (by decide) (fun hc => ?_) (fun hc => ?_)
    · rw [if_pos hc] at hs
      refine av_iconst (pc := 78) C dX10_endOf_78 rfl ?_
      obtain ⟨rfl, rfl⟩ := am_inj2 hs
      exact av_iret C hr hlocks dX10_endOf_79
    · rw [if_neg hc] at hs
      refine av_aload_n (pc := 18) (j := 0) C dX10_endOf_18 rfl rfl ?_
      refine av_getR (pc := 19) (k := 26) (r := 99) C fl_X10_83 sk_74 rfl dX10_endOf_19 ?_
      refine av_bipush (pc := 22) C dX10_endOf_22 rfl ?_
      refine av_iload_n (pc := 24) (j := 1) C dX10_endOf_24 rfl rfl ?_
      refine av_imul (pc := 25) C dX10_endOf_25 ?_
      refine av_iload (pc := 26) (j := 3) C dX10_endOf_26 rfl ?_
      refine av_iadd (pc := 28) C dX10_endOf_28 ?_
      obtain ⟨hb, hs⟩ := am_gd_of hs
      refine av_iald (pc := 29) C sk_99 hb dX10_endOf_29 ?_
      refine av_istore (pc := 30) (i := 5) (lv2 := [(5, am_I (S.2 99 (Int.toNat (am_w32 ((am_w32 (10 * b1)) + b4))))), (0, am_R 74), (1, am_I b1), (3, am_I b3), (4, am_I b4)]) C dX10_endOf_30 (by decide) rfl ?_
      refine av_iload (pc := 32) (j := 0) C dX10_endOf_32 rfl ?_
      refine av_bipush (pc := 34) C dX10_endOf_34 rfl ?_
      refine av_icmp_ne (pc := 36) (tgt := 46) C dX10_endOf_36 (by decide) (fun hc => ?_) (fun hc => ?_)
      · rw [if_neg hc] at hs
        refine av_iload_n (pc := 46) (j := 3) C dX10_endOf_46 rfl rfl ?_
        refine av_iload (pc := 47) (j := 0) C dX10_endOf_47 rfl ?_
        refine av_bipush (pc := 49) C dX10_endOf_49 rfl ?_
        refine av_icmp_ne (pc := 51) (tgt := 58) C dX10_endOf_51 (by decide) (fun hc => ?_) (fun hc => ?_)
        · rw [if_neg hc] at hs
          refine av_iload (pc := 58) (j := 0) C dX10_endOf_58 rfl ?_
          refine av_bipush (pc := 60) C dX10_endOf_60 rfl ?_
          refine av_icmp_ne (pc := 62) (tgt := 69) C dX10_endOf_62 (by decide) (fun hc => ?_) (fun hc => ?_)
          · rw [if_neg hc] at hs
            refine av_iconst (pc := 69) C dX10_endOf_69 rfl ?_
            refine av_iadd (pc := 70) C dX10_endOf_70 ?_
            refine av_istore_n (pc := 71) (i := 3) (lv2 := [(3, am_I (am_w32 (b3 + 0))), (5, am_I (S.2 99 (Int.toNat (am_w32 ((am_w32 (10 * b1)) + b4))))), (0, am_R 74), (1, am_I b1), (4, am_I b4)]) C dX10_endOf_71 rfl (by decide) rfl ?_
            refine av_iinc (pc := 72) (j := 4) (lv2 := [(4, am_I (am_w32 (b4 + 1))), (3, am_I (am_w32 (b3 + 0))), (5, am_I (S.2 99 (Int.toNat (am_w32 ((am_w32 (10 * b1)) + b4))))), (0, am_R 74), (1, am_I b1)]) C dX10_endOf_72 rfl (by decide) rfl ?_
            refine av_goto (pc := 75) (tgt := 7) C dX10_endOf_75 (by decide) ?_
            refine av_lvsub (lv2 := [(0, am_R 74), (1, am_I b1), (3, am_I (am_w32 (b3 + 0))), (4, am_I (am_w32 (b4 + 1)))]) [3, 4, 1, 0] rfl ?_
            exact ih b1 (am_w32 (b3 + 0)) (am_w32 (b4 + 1)) S x SZ hs
          · rw [if_pos (Decidable.not_not.mp hc)] at hs
            refine av_iconst (pc := 65) C dX10_endOf_65 rfl ?_
            refine av_goto (pc := 66) (tgt := 70) C dX10_endOf_66 (by decide) ?_
            refine av_iadd (pc := 70) C dX10_endOf_70 ?_
            refine av_istore_n (pc := 71) (i := 3) (lv2 := [(3, am_I (am_w32 (b3 + (-1)))), (5, am_I (S.2 99 (Int.toNat (am_w32 ((am_w32 (10 * b1)) + b4))))), (0, am_R 74), (1, am_I b1), (4, am_I b4)]) C dX10_endOf_71 rfl (by decide) rfl ?_
            refine av_iinc (pc := 72) (j := 4) (lv2 := [(4, am_I (am_w32 (b4 + 1))), (3, am_I (am_w32 (b3 + (-1)))), (5, am_I (S.2 99 (Int.toNat (am_w32 ((am_w32 (10 * b1)) + b4))))), (0, am_R 74), (1, am_I b1)]) C dX10_endOf_72 rfl (by decide) rfl ?_
            refine av_goto (pc := 75) (tgt := 7) C dX10_endOf_75 (by decide) ?_
            refine av_lvsub (lv2 := [(0, am_R 74), (1, am_I b1), (3, am_I (am_w32 (b3 + (-1)))), (4, am_I (am_w32 (b4 + 1)))]) [3, 4, 1, 0] rfl ?_
            exact ih b1 (am_w32 (b3 + (-1))) (am_w32 (b4 + 1)) S x SZ hs
        · rw [if_pos (Decidable.not_not.mp hc)] at hs
          refine av_iconst (pc := 54) C dX10_endOf_54 rfl ?_
          refine av_goto (pc := 55) (tgt := 70) C dX10_endOf_55 (by decide) ?_
          refine av_iadd (pc := 70) C dX10_endOf_70 ?_
          refine av_istore_n (pc := 71) (i := 3) (lv2 := [(3, am_I (am_w32 (b3 + 1))), (5, am_I (S.2 99 (Int.toNat (am_w32 ((am_w32 (10 * b1)) + b4))))), (0, am_R 74), (1, am_I b1), (4, am_I b4)]) C dX10_endOf_71 rfl (by decide) rfl ?_
          refine av_iinc (pc := 72) (j := 4) (lv2 := [(4, am_I (am_w32 (b4 + 1))), (3, am_I (am_w32 (b3 + 1))), (5, am_I (S.2 99 (Int.toNat (am_w32 ((am_w32 (10 * b1)) + b4))))), (0, am_R 74), (1, am_I b1)]) C dX10_endOf_72 rfl (by decide) rfl ?_
          refine av_goto (pc := 75) (tgt := 7) C dX10_endOf_75 (by decide) ?_
          refine av_lvsub (lv2 := [(0, am_R 74), (1, am_I b1), (3, am_I (am_w32 (b3 + 1))), (4, am_I (am_w32 (b4 + 1)))]) [3, 4, 1, 0] rfl ?_
          exact ih b1 (am_w32 (b3 + 1)) (am_w32 (b4 + 1)) S x SZ hs
      · rw [if_pos (Decidable.not_not.mp hc)] at hs
        refine av_iload_n (pc := 39) (j := 3) C dX10_endOf_39 rfl rfl ?_
        refine av_if_ne (pc := 40) (tgt := 46) C dX10_endOf_40 (by decide) (fun hc => ?_) (fun hc => ?_)
        · rw [if_neg hc] at hs
          refine av_iload_n (pc := 46) (j := 3) C dX10_endOf_46 rfl rfl ?_
          refine av_iload (pc := 47) (j := 0) C dX10_endOf_47 rfl ?_
          refine av_bipush (pc := 49) C dX10_endOf_49 rfl ?_
          refine av_icmp_ne (pc := 51) (tgt := 58) C dX10_endOf_51 (by decide) (fun hc => ?_) (fun hc => ?_)
          · rw [if_neg hc] at hs
            refine av_iload (pc := 58) (j := 0) C dX10_endOf_58 rfl ?_
            refine av_bipush (pc := 60) C dX10_endOf_60 rfl ?_
            refine av_icmp_ne (pc := 62) (tgt := 69) C dX10_endOf_62 (by decide) (fun hc => ?_) (fun hc => ?_)
            · rw [if_neg hc] at hs
              refine av_iconst (pc := 69) C dX10_endOf_69 rfl ?_
              refine av_iadd (pc := 70) C dX10_endOf_70 ?_
              refine av_istore_n (pc := 71) (i := 3) (lv2 := [(3, am_I (am_w32 (b3 + 0))), (5, am_I (S.2 99 (Int.toNat (am_w32 ((am_w32 (10 * b1)) + b4))))), (0, am_R 74), (1, am_I b1), (4, am_I b4)]) C dX10_endOf_71 rfl (by decide) rfl ?_
              refine av_iinc (pc := 72) (j := 4) (lv2 := [(4, am_I (am_w32 (b4 + 1))), (3, am_I (am_w32 (b3 + 0))), (5, am_I (S.2 99 (Int.toNat (am_w32 ((am_w32 (10 * b1)) + b4))))), (0, am_R 74), (1, am_I b1)]) C dX10_endOf_72 rfl (by decide) rfl ?_
              refine av_goto (pc := 75) (tgt := 7) C dX10_endOf_75 (by decide) ?_
              refine av_lvsub (lv2 := [(0, am_R 74), (1, am_I b1), (3, am_I (am_w32 (b3 + 0))), (4, am_I (am_w32 (b4 + 1)))]) [3, 4, 1, 0] rfl ?_
              exact ih b1 (am_w32 (b3 + 0)) (am_w32 (b4 + 1)) S x SZ hs
            · rw [if_pos (Decidable.not_not.mp hc)] at hs
              refine av_iconst (pc := 65) C dX10_endOf_65 rfl ?_
              refine av_goto (pc := 66) (tgt := 70) C dX10_endOf_66 (by decide) ?_
              refine av_iadd (pc := 70) C dX10_endOf_70 ?_
              refine av_istore_n (pc := 71) (i := 3) (lv2 := [(3, am_I (am_w32 (b3 + (-1)))), (5, am_I (S.2 99 (Int.toNat (am_w32 ((am_w32 (10 * b1)) + b4))))), (0, am_R 74), (1, am_I b1), (4, am_I b4)]) C dX10_endOf_71 rfl (by decide) rfl ?_
              refine av_iinc (pc := 72) (j := 4) (lv2 := [(4, am_I (am_w32 (b4 + 1))), (3, am_I (am_w32 (b3 + (-1)))), (5, am_I (S.2 99 (Int.toNat (am_w32 ((am_w32 (10 * b1)) + b4))))), (0, am_R 74), (1, am_I b1)]) C dX10_endOf_72 rfl (by decide) rfl ?_
              refine av_goto (pc := 75) (tgt := 7) C dX10_endOf_75 (by decide) ?_
              refine av_lvsub (lv2 := [(0, am_R 74), (1, am_I b1), (3, am_I (am_w32 (b3 + (-1)))), (4, am_I (am_w32 (b4 + 1)))]) [3, 4, 1, 0] rfl ?_
              exact ih b1 (am_w32 (b3 + (-1))) (am_w32 (b4 + 1)) S x SZ hs
          · rw [if_pos (Decidable.not_not.mp hc)] at hs
            refine av_iconst (pc := 54) C dX10_endOf_54 rfl ?_
            refine av_goto (pc := 55) (tgt := 70) C dX10_endOf_55 (by decide) ?_
            refine av_iadd (pc := 70) C dX10_endOf_70 ?_
            refine av_istore_n (pc := 71) (i := 3) (lv2 := [(3, am_I (am_w32 (b3 + 1))), (5, am_I (S.2 99 (Int.toNat (am_w32 ((am_w32 (10 * b1)) + b4))))), (0, am_R 74), (1, am_I b1), (4, am_I b4)]) C dX10_endOf_71 rfl (by decide) rfl ?_
            refine av_iinc (pc := 72) (j := 4) (lv2 := [(4, am_I (am_w32 (b4 + 1))), (3, am_I (am_w32 (b3 + 1))), (5, am_I (S.2 99 (Int.toNat (am_w32 ((am_w32 (10 * b1)) + b4))))), (0, am_R 74), (1, am_I b1)]) C dX10_endOf_72 rfl (by decide) rfl ?_
            refine av_goto (pc := 75) (tgt := 7) C dX10_endOf_75 (by decide) ?_
            refine av_lvsub (lv2 := [(0, am_R 74), (1, am_I b1), (3, am_I (am_w32 (b3 + 1))), (4, am_I (am_w32 (b4 + 1)))]) [3, 4, 1, 0] rfl ?_
            exact ih b1 (am_w32 (b3 + 1)) (am_w32 (b4 + 1)) S x SZ hs
        · rw [if_pos (Decidable.not_not.mp hc)] at hs
          refine av_iload (pc := 43) (j := 4) C dX10_endOf_43 rfl ?_
          obtain ⟨rfl, rfl⟩ := am_inj2 hs
          exact av_iret C hr hlocks dX10_endOf_45
set_option maxHeartbeats 4000000 in
set_option maxRecDepth 100000 in
theorem ct_X10_endOf (l : Launch) (G : am_G) (a1 : Int) (a2 : Int) (S : am_S) (x : Int) (SZ : am_S) (hs : sf_X10_endOf a1 a2 S = some (x, SZ)) : am_met l yX10_endOf cX10_endOf 6 (some .int) 0 0 G [am_R 74, am_I a1, am_I a2] S (some (am_I x)) SZ := by
  refine am_enter ym_X10_endOf (Nat.le_of_ble_eq_true rfl) ?_
  intro p e s m args below meth c C hr hlocks
  refine av_eq (lv2 := [(0, am_R 74), (1, am_I a1), (2, am_I a2)]) rfl rfl rfl rfl ?_
  unfold sf_X10_endOf at hs
  refine av_iconst (pc := 0) C dX10_endOf_0 rfl ?_
  refine av_istore_n (pc := 1) (i := 3) (lv2 := [(3, am_I 0), (0, am_R 74), (1, am_I a1), (2, am_I a2)]) C dX10_endOf_1 rfl (by decide) rfl ?_
  refine av_iload_n (pc := 2) (j := 3) C dX10_endOf_2 rfl rfl ?_
  refine av_iconst (pc := 3) C dX10_endOf_3 rfl ?_
  refine av_iadd (pc := 4) C dX10_endOf_4 ?_
  refine av_istore (pc := 5) (i := 4) (lv2 := [(4, am_I (am_w32 (a2 + 1))), (3, am_I 0), (0, am_R 74), (1, am_I a1), (2, am_I a2)]) C dX10_endOf_5 (by decide) rfl ?_
  refine av_lvsub (lv2 := [(0, am_R 74), (1, am_I a1), (3, am_I 0), (4, am_I (am_w32 (a2 + 1)))]) [2, 3, 1, 0] rfl ?_
  exact wk_X10_endOf_7 C hr hlocks 1000 a1 0 (am_w32 (a2 + 1)) S x SZ hs
set_option maxHeartbeats 4000000 in
set_option maxRecDepth 100000 in
theorem ct_X10_finish (l : Launch) (G : am_G) (a1 : Int) (a2 : Int) (a3 : Int) (S : am_S) (SZ : am_S) (hs : sf_X10_finish a1 a2 a3 S = some SZ) : am_met l yX10_finish cX10_finish 5 none 4 100 G [am_R 74, am_I a1, am_I a2, am_I a3] S none SZ := by
  refine am_enter ym_X10_finish (Nat.le_of_ble_eq_true rfl) ?_
  intro p e s m args below meth c C hr hlocks
  refine av_eq (lv2 := [(0, am_R 74), (1, am_I a1), (2, am_I a2), (3, am_I a3)]) rfl rfl rfl rfl ?_
  unfold sf_X10_finish at hs
  refine av_aload_n (pc := 0) (j := 0) C dX10_finish_0 rfl rfl ?_
  refine av_getR (pc := 1) (k := 51) (r := 120) C fl_X10_146 sk_74 rfl dX10_finish_1 ?_
  refine av_aload_n (pc := 4) (j := 0) C dX10_finish_4 rfl rfl ?_
  refine av_getI (pc := 5) (k := 52) (n := 4788) C fl_X10_215 sk_74 rfl rfl dX10_finish_5 ?_
  obtain ⟨hb, hs⟩ := am_gd_of hs
  refine av_iald (pc := 8) C sk_120 hb dX10_finish_8 ?_
  refine av_istore (pc := 9) (i := 4) (lv2 := [(4, am_I (S.2 120 (Int.toNat (S.1 4788)))), (0, am_R 74), (1, am_I a1), (2, am_I a2), (3, am_I a3)]) C dX10_finish_9 (by decide) rfl ?_
  refine av_aload_n (pc := 11) (j := 1) C dX10_finish_11 rfl rfl ?_
  refine av_dup (pc := 12) C dX10_finish_12 rfl ?_
  refine av_getI (pc := 13) (k := 52) (n := 4788) C fl_X10_215 sk_74 rfl rfl dX10_finish_13 ?_
  refine av_iconst (pc := 16) C dX10_finish_16 rfl ?_
  refine av_isub (pc := 17) C dX10_finish_17 ?_
  obtain ⟨S1, eS1, hs⟩ := am_let_of hs
  refine av_putI (pc := 18) (k := 52) (n := 4788) C fp_X10_215 sk_74 rfl rfl dX10_finish_18 ?_
  refine av_eq rfl rfl rfl eS1 ?_
  refine av_iload (pc := 21) (j := 0) C dX10_finish_21 rfl ?_
  refine av_if_lt (pc := 23) (tgt := 37) C dX10_finish_23 (by decide) (fun hc => ?_) (fun hc => ?_)
  · rw [if_pos hc] at hs
    refine av_aload_n (pc := 37) (j := 1) C dX10_finish_37 rfl rfl ?_
    refine av_iload_n (pc := 38) (j := 2) C dX10_finish_38 rfl rfl ?_
    obtain ⟨hz, hs⟩ := am_gz_of hs
    obtain ⟨S2, eS2, hs⟩ := am_let_of hs
    refine av_putZ (pc := 39) (k := 56) (n := 4792) C fp_X10_234 sk_74 rfl rfl hz dX10_finish_39 ?_
    refine av_eq rfl rfl rfl eS2 ?_
    refine av_aload_n (pc := 42) (j := 1) C dX10_finish_42 rfl rfl ?_
    refine av_iload_n (pc := 43) (j := 3) C dX10_finish_43 rfl rfl ?_
    obtain ⟨S3, eS3, hs⟩ := am_let_of hs
    refine av_putI (pc := 44) (k := 54) (n := 4790) C fp_X10_238 sk_74 rfl rfl dX10_finish_44 ?_
    refine av_eq rfl rfl rfl eS3 ?_
    refine av_aload_n (pc := 47) (j := 1) C dX10_finish_47 rfl rfl ?_
    refine av_iload_n (pc := 48) (j := 4) C dX10_finish_48 rfl rfl ?_
    obtain ⟨S4, eS4, hs⟩ := am_let_of hs
    refine av_putI (pc := 49) (k := 55) (n := 4791) C fp_X10_241 sk_74 rfl rfl dX10_finish_49 ?_
    refine av_eq rfl rfl rfl eS4 ?_
    obtain rfl := am_inj1 hs
    exact av_vret C hr hlocks dX10_finish_52
  · rw [if_neg hc] at hs
    refine av_aload_n (pc := 26) (j := 1) C dX10_finish_26 rfl rfl ?_
    refine av_iload (pc := 27) (j := 0) C dX10_finish_27 rfl ?_
    refine av_iload_n (pc := 29) (j := 2) C dX10_finish_29 rfl rfl ?_
    refine av_iload_n (pc := 30) (j := 3) C dX10_finish_30 rfl rfl ?_
    refine av_iload_n (pc := 31) (j := 4) C dX10_finish_31 rfl rfl ?_
    refine av_iconst (pc := 32) C dX10_finish_32 rfl ?_
    obtain ⟨S5, hc6, hs⟩ := am_b1_of hs
    refine av_eq (st2 := [am_I 0, am_I a3, am_I a2, am_I a1, am_I (S.2 120 (Int.toNat (S.1 4788))), am_R 74]) rfl rfl rfl rfl (av_callV (pc := 33) (as := [am_I (S.2 120 (Int.toNat (S.1 4788))), am_I a1, am_I a2, am_I a3, am_I 0]) (rest := []) C (ct_X10_endBy l G (S.2 120 (Int.toNat (S.1 4788))) a1 a2 a3 0 S1 S5 hc6) ym_X10_endBy si_X10_230 im_X10_endBy se_X10_endBy sk_74 rfl ⟨Nat.le_of_ble_eq_true rfl, Nat.le_of_ble_eq_true rfl⟩ rfl rfl (Nat.le_of_ble_eq_true rfl) dX10_finish_33 ⟨Nat.le_refl _, Nat.le_refl _⟩ (fun hrv => av_eq (st2 := []) rfl rfl rfl rfl ?_))
    obtain rfl := am_inj1 hs
    exact av_vret C hr hlocks dX10_finish_36
set_option maxHeartbeats 4000000 in
set_option maxRecDepth 100000 in
theorem wk_X10_fling_35 {p : Program} {l : Launch} {e : Env} {s : State} {m : MethodId} {args : Array Value} {below : List Frame} {meth : Method} {c : Code} {G : am_G} (C : am_C p s m args c cX10_fling 7 RX10 G) (hr : meth.sig.returnType = none) (hlocks : meth.locks = false) : ∀ (fu : Nat) (b1 : Int) (b2 : Int) (b3 : Int) (b4 : Int) (b5 : Int) (S : am_S) (SZ : am_S), sf_X10_fling_35 fu b1 b2 b3 b4 b5 S = some SZ → am_V p l e (am_rm 5 124) s m args below meth c (MQ below (am_Q G none SZ) args s 0 0 (am_A G)) G (am_A G) s.heap 7 0 0 35 [(0, am_R 74), (1, am_I b1), (2, am_I b2), (3, am_I b3), (4, am_I b4), (5, am_I b5)] [] S := by
  intro fu
  induction fu with
  | zero => intro b1 b2 b3 b4 b5 S SZ hs; cases hs
  | succ fu ih =>
    intro b1 b2 b3 b4 b5 S SZ hs
    unfold sf_X10_fling_35 at hs
    refine av_iload (pc := 35) (j := 5) C dX10_fling_35 rfl ?_
    refine av_if_lt (pc := 37) (tgt := 110) C dX10_fling_37 (by decide) (fun hc => ?_) (fun hc => ?_)
    · rw [if_pos hc] at hs
      refine av_aload_n (pc := 110) (j := 0) C dX10_fling_110 rfl rfl ?_
      refine av_iconst (pc := 111) C dX10_fling_111 rfl ?_
      refine av_iload_n (pc := 112) (j := 1) C dX10_fling_112 rfl rfl ?_
      refine av_iload_n (pc := 113) (j := 2) C dX10_fling_113 rfl rfl ?_
      obtain ⟨S3, hc4, hs⟩ := am_b1_of hs
      refine av_eq (st2 := [am_I b2, am_I b1, am_I 1, am_R 74]) rfl rfl rfl rfl (av_callV (pc := 114) (as := [am_I 1, am_I b1, am_I b2]) (rest := []) C (ct_X10_finish l G 1 b1 b2 S S3 hc4) ym_X10_finish si_X10_226 im_X10_finish se_X10_finish sk_74 rfl ⟨Nat.le_of_ble_eq_true rfl, Nat.le_of_ble_eq_true rfl⟩ rfl rfl (Nat.le_of_ble_eq_true rfl) dX10_fling_114 ⟨Nat.le_refl _, Nat.le_refl _⟩ (fun hrv => av_eq (st2 := []) rfl rfl rfl rfl ?_))
      obtain rfl := am_inj1 hs
      exact av_vret C hr hlocks dX10_fling_117
    · rw [if_neg hc] at hs
      refine av_iload (pc := 40) (j := 5) C dX10_fling_40 rfl ?_
      refine av_aload_n (pc := 42) (j := 0) C dX10_fling_42 rfl rfl ?_
      refine av_getR (pc := 43) (k := 25) (r := 98) C fl_X10_80 sk_74 rfl dX10_fling_43 ?_
      refine av_iload_n (pc := 46) (j := 3) C dX10_fling_46 rfl rfl ?_
      obtain ⟨hb, hs⟩ := am_gd_of hs
      refine av_iald (pc := 47) C sk_98 hb dX10_fling_47 ?_
      refine av_icmp_ge (pc := 48) (tgt := 104) C dX10_fling_48 (by decide) (fun hc => ?_) (fun hc => ?_)
      · rw [if_pos hc] at hs
        refine av_iinc (pc := 104) (j := 5) (lv2 := [(5, am_I (am_w32 (b5 + (-1)))), (0, am_R 74), (1, am_I b1), (2, am_I b2), (3, am_I b3), (4, am_I b4)]) C dX10_fling_104 rfl (by decide) rfl ?_
        refine av_goto (pc := 107) (tgt := 35) C dX10_fling_107 (by decide) ?_
        refine av_lvsub (lv2 := [(0, am_R 74), (1, am_I b1), (2, am_I b2), (3, am_I b3), (4, am_I b4), (5, am_I (am_w32 (b5 + (-1))))]) [1, 2, 3, 4, 5, 0] rfl ?_
        exact ih b1 b2 b3 b4 (am_w32 (b5 + (-1))) S SZ hs
      · rw [if_neg hc] at hs
        refine av_aload_n (pc := 51) (j := 0) C dX10_fling_51 rfl rfl ?_
        refine av_getR (pc := 52) (k := 26) (r := 99) C fl_X10_83 sk_74 rfl dX10_fling_52 ?_
        refine av_bipush (pc := 55) C dX10_fling_55 rfl ?_
        refine av_iload_n (pc := 57) (j := 3) C dX10_fling_57 rfl rfl ?_
        refine av_imul (pc := 58) C dX10_fling_58 ?_
        refine av_iload (pc := 59) (j := 5) C dX10_fling_59 rfl ?_
        refine av_iadd (pc := 61) C dX10_fling_61 ?_
        obtain ⟨hb, hs⟩ := am_gd_of hs
        refine av_iald (pc := 62) C sk_99 hb dX10_fling_62 ?_
        refine av_bipush (pc := 63) C dX10_fling_63 rfl ?_
        refine av_icmp_eq (pc := 65) (tgt := 71) C dX10_fling_65 (by decide) (fun hc => ?_) (fun hc => ?_)
        · rw [if_pos hc] at hs
          refine av_aload_n (pc := 71) (j := 0) C dX10_fling_71 rfl rfl ?_
          refine av_iload_n (pc := 72) (j := 3) C dX10_fling_72 rfl rfl ?_
          refine av_iload (pc := 73) (j := 5) C dX10_fling_73 rfl ?_
          obtain ⟨x6, S5, hc7, hs⟩ := am_b2_of hs
          refine av_eq (st2 := [am_I b5, am_I b3, am_R 74]) rfl rfl rfl rfl (av_callV (pc := 75) (as := [am_I b3, am_I b5]) (rest := []) C (ct_X10_endOf l G b3 b5 S x6 S5 hc7) ym_X10_endOf si_X10_222 im_X10_endOf se_X10_endOf sk_74 rfl ⟨Nat.le_of_ble_eq_true rfl, Nat.le_of_ble_eq_true rfl⟩ rfl rfl (Nat.le_of_ble_eq_true rfl) dX10_fling_75 ⟨Nat.le_refl _, Nat.le_refl _⟩ (fun hrv => av_eq (st2 := [am_I x6]) rfl rfl rfl rfl ?_))
          refine av_istore (pc := 78) (i := 6) (lv2 := [(6, am_I x6), (0, am_R 74), (1, am_I b1), (2, am_I b2), (3, am_I b3), (4, am_I b4), (5, am_I b5)]) C dX10_fling_78 (by decide) rfl ?_
          refine av_iload (pc := 80) (j := 0) C dX10_fling_80 rfl ?_
          refine av_iload (pc := 82) (j := 5) C dX10_fling_82 rfl ?_
          refine av_icmp_gt (pc := 84) (tgt := 90) C dX10_fling_84 (by decide) (fun hc => ?_) (fun hc => ?_)
          · rw [if_pos hc] at hs
            refine av_aload_n (pc := 90) (j := 1) C dX10_fling_90 rfl rfl ?_
            refine av_getR (pc := 91) (k := 48) (r := 117) C fl_X10_137 sk_74 rfl dX10_fling_91 ?_
            refine av_aload_n (pc := 94) (j := 1) C dX10_fling_94 rfl rfl ?_
            refine av_getI (pc := 95) (k := 52) (n := 4788) C fl_X10_215 sk_74 rfl rfl dX10_fling_95 ?_
            refine av_iload (pc := 98) (j := 0) C dX10_fling_98 rfl ?_
            refine av_iconst (pc := 100) C dX10_fling_100 rfl ?_
            refine av_iadd (pc := 101) C dX10_fling_101 ?_
            obtain ⟨hb, hs⟩ := am_gd_of hs
            obtain ⟨S8, eS8, hs⟩ := am_let_of hs
            refine av_iast (pc := 102) C sk_117 hb dX10_fling_102 ?_
            refine av_eq rfl rfl rfl eS8 ?_
            obtain rfl := am_inj1 hs
            exact av_vret C hr hlocks dX10_fling_103
          · rw [if_neg hc] at hs
            refine av_goto (pc := 87) (tgt := 104) C dX10_fling_87 (by decide) ?_
            refine av_iinc (pc := 104) (j := 6) (lv2 := [(5, am_I (am_w32 (b5 + (-1)))), (6, am_I x6), (0, am_R 74), (1, am_I b1), (2, am_I b2), (3, am_I b3), (4, am_I b4)]) C dX10_fling_104 rfl (by decide) rfl ?_
            refine av_goto (pc := 107) (tgt := 35) C dX10_fling_107 (by decide) ?_
            refine av_lvsub (lv2 := [(0, am_R 74), (1, am_I b1), (2, am_I b2), (3, am_I b3), (4, am_I b4), (5, am_I (am_w32 (b5 + (-1))))]) [2, 3, 4, 5, 6, 0] rfl ?_
            exact ih b1 b2 b3 b4 (am_w32 (b5 + (-1))) S5 SZ hs
        · rw [if_neg hc] at hs
          refine av_goto (pc := 68) (tgt := 104) C dX10_fling_68 (by decide) ?_
          refine av_iinc (pc := 104) (j := 5) (lv2 := [(5, am_I (am_w32 (b5 + (-1)))), (0, am_R 74), (1, am_I b1), (2, am_I b2), (3, am_I b3), (4, am_I b4)]) C dX10_fling_104 rfl (by decide) rfl ?_
          refine av_goto (pc := 107) (tgt := 35) C dX10_fling_107 (by decide) ?_
          refine av_lvsub (lv2 := [(0, am_R 74), (1, am_I b1), (2, am_I b2), (3, am_I b3), (4, am_I b4), (5, am_I (am_w32 (b5 + (-1))))]) [1, 2, 3, 4, 5, 0] rfl ?_
          exact ih b1 b2 b3 b4 (am_w32 (b5 + (-1))) S SZ hs
set_option maxHeartbeats 4000000 in
set_option maxRecDepth 100000 in
theorem ct_X10_fling (l : Launch) (G : am_G) (a1 : Int) (a2 : Int) (S : am_S) (SZ : am_S) (hs : sf_X10_fling a1 a2 S = some SZ) : am_met l yX10_fling cX10_fling 7 none 5 124 G [am_R 74, am_I a1, am_I a2] S none SZ := by
  refine am_enter ym_X10_fling (Nat.le_of_ble_eq_true rfl) ?_
  intro p e s m args below meth c C hr hlocks
  refine av_eq (lv2 := [(0, am_R 74), (1, am_I a1), (2, am_I a2)]) rfl rfl rfl rfl ?_
  unfold sf_X10_fling at hs
  refine av_aload_n (pc := 0) (j := 0) C dX10_fling_0 rfl rfl ?_
  refine av_getR (pc := 1) (k := 47) (r := 116) C fl_X10_134 sk_74 rfl dX10_fling_1 ?_
  refine av_aload_n (pc := 4) (j := 0) C dX10_fling_4 rfl rfl ?_
  refine av_getI (pc := 5) (k := 52) (n := 4788) C fl_X10_215 sk_74 rfl rfl dX10_fling_5 ?_
  obtain ⟨hb, hs⟩ := am_gd_of hs
  refine av_iald (pc := 8) C sk_116 hb dX10_fling_8 ?_
  refine av_istore_n (pc := 9) (i := 3) (lv2 := [(3, am_I (S.2 116 (Int.toNat (S.1 4788)))), (0, am_R 74), (1, am_I a1), (2, am_I a2)]) C dX10_fling_9 rfl (by decide) rfl ?_
  refine av_aload_n (pc := 10) (j := 1) C dX10_fling_10 rfl rfl ?_
  refine av_getR (pc := 11) (k := 48) (r := 117) C fl_X10_137 sk_74 rfl dX10_fling_11 ?_
  refine av_aload_n (pc := 14) (j := 1) C dX10_fling_14 rfl rfl ?_
  refine av_getI (pc := 15) (k := 52) (n := 4788) C fl_X10_215 sk_74 rfl rfl dX10_fling_15 ?_
  obtain ⟨hb, hs⟩ := am_gd_of hs
  refine av_iald (pc := 18) C sk_117 hb dX10_fling_18 ?_
  refine av_iconst (pc := 19) C dX10_fling_19 rfl ?_
  refine av_isub (pc := 20) C dX10_fling_20 ?_
  refine av_istore (pc := 21) (i := 4) (lv2 := [(4, am_I (am_w32 ((S.2 117 (Int.toNat (S.1 4788))) - 1))), (3, am_I (S.2 116 (Int.toNat (S.1 4788)))), (0, am_R 74), (1, am_I a1), (2, am_I a2)]) C dX10_fling_21 (by decide) rfl ?_
  refine av_aload_n (pc := 23) (j := 2) C dX10_fling_23 rfl rfl ?_
  refine av_iload_n (pc := 24) (j := 3) C dX10_fling_24 rfl rfl ?_
  refine av_iload_n (pc := 25) (j := 4) C dX10_fling_25 rfl rfl ?_
  obtain ⟨S1, hc2, hs⟩ := am_b1_of hs
  refine av_eq (st2 := [am_I a2, am_I a1, am_R 74]) rfl rfl rfl rfl (av_callV (pc := 26) (as := [am_I a1, am_I a2]) (rest := []) C (ct_X10_put l G a1 a2 S S1 hc2) ym_X10_put si_X10_218 im_X10_put se_X10_put sk_74 rfl ⟨Nat.le_of_ble_eq_true rfl, Nat.le_of_ble_eq_true rfl⟩ rfl rfl (Nat.le_of_ble_eq_true rfl) dX10_fling_26 ⟨Nat.le_refl _, Nat.le_refl _⟩ (fun hrv => av_eq (st2 := []) rfl rfl rfl rfl ?_))
  refine av_iload (pc := 29) (j := 0) C dX10_fling_29 rfl ?_
  refine av_iconst (pc := 31) C dX10_fling_31 rfl ?_
  refine av_isub (pc := 32) C dX10_fling_32 ?_
  refine av_istore (pc := 33) (i := 5) (lv2 := [(5, am_I (am_w32 ((am_w32 ((S.2 117 (Int.toNat (S.1 4788))) - 1)) - 1))), (4, am_I (am_w32 ((S.2 117 (Int.toNat (S.1 4788))) - 1))), (3, am_I (S.2 116 (Int.toNat (S.1 4788)))), (0, am_R 74), (1, am_I a1), (2, am_I a2)]) C dX10_fling_33 (by decide) rfl ?_
  refine av_lvsub (lv2 := [(0, am_R 74), (1, am_I a1), (2, am_I a2), (3, am_I (S.2 116 (Int.toNat (S.1 4788)))), (4, am_I (am_w32 ((S.2 117 (Int.toNat (S.1 4788))) - 1))), (5, am_I (am_w32 ((am_w32 ((S.2 117 (Int.toNat (S.1 4788))) - 1)) - 1)))]) [3, 4, 5, 2, 1, 0] rfl ?_
  exact wk_X10_fling_35 C hr hlocks 1000 a1 a2 (S.2 116 (Int.toNat (S.1 4788))) (am_w32 ((S.2 117 (Int.toNat (S.1 4788))) - 1)) (am_w32 ((am_w32 ((S.2 117 (Int.toNat (S.1 4788))) - 1)) - 1)) S1 SZ hs
set_option maxHeartbeats 4000000 in
set_option maxRecDepth 100000 in
theorem ct_X10_note (l : Launch) (G : am_G) (a1 : Int) (a2 : Int) (S : am_S) (SZ : am_S) (hs : sf_X10_note a1 a2 S = some SZ) : am_met l yX10_note cX10_note 3 none 0 0 G [am_R 74, am_I a1, am_I a2] S none SZ := by
  refine am_enter ym_X10_note (Nat.le_of_ble_eq_true rfl) ?_
  intro p e s m args below meth c C hr hlocks
  refine av_eq (lv2 := [(0, am_R 74), (1, am_I a1), (2, am_I a2)]) rfl rfl rfl rfl ?_
  unfold sf_X10_note at hs
  refine av_aload_n (pc := 0) (j := 0) C dX10_note_0 rfl rfl ?_
  refine av_getR (pc := 1) (k := 43) (r := 113) C fl_X10_125 sk_74 rfl dX10_note_1 ?_
  refine av_aload_n (pc := 4) (j := 0) C dX10_note_4 rfl rfl ?_
  refine av_getI (pc := 5) (k := 46) (n := 4782) C fl_X10_168 sk_74 rfl rfl dX10_note_5 ?_
  refine av_bipush (pc := 8) C dX10_note_8 rfl ?_
  refine av_irem (pc := 10) C dX10_note_10 (by decide) ?_
  refine av_iload_n (pc := 11) (j := 1) C dX10_note_11 rfl rfl ?_
  obtain ⟨hb, hs⟩ := am_gd_of hs
  obtain ⟨S1, eS1, hs⟩ := am_let_of hs
  refine av_iast (pc := 12) C sk_113 hb dX10_note_12 ?_
  refine av_eq rfl rfl rfl eS1 ?_
  refine av_aload_n (pc := 13) (j := 0) C dX10_note_13 rfl rfl ?_
  refine av_getR (pc := 14) (k := 44) (r := 114) C fl_X10_128 sk_74 rfl dX10_note_14 ?_
  refine av_aload_n (pc := 17) (j := 0) C dX10_note_17 rfl rfl ?_
  refine av_getI (pc := 18) (k := 46) (n := 4782) C fl_X10_168 sk_74 rfl rfl dX10_note_18 ?_
  refine av_bipush (pc := 21) C dX10_note_21 rfl ?_
  refine av_irem (pc := 23) C dX10_note_23 (by decide) ?_
  refine av_iload_n (pc := 24) (j := 2) C dX10_note_24 rfl rfl ?_
  obtain ⟨hb, hs⟩ := am_gd_of hs
  obtain ⟨S2, eS2, hs⟩ := am_let_of hs
  refine av_iast (pc := 25) C sk_114 hb dX10_note_25 ?_
  refine av_eq rfl rfl rfl eS2 ?_
  refine av_aload_n (pc := 26) (j := 0) C dX10_note_26 rfl rfl ?_
  refine av_getR (pc := 27) (k := 45) (r := 115) C fl_X10_131 sk_74 rfl dX10_note_27 ?_
  refine av_aload_n (pc := 30) (j := 0) C dX10_note_30 rfl rfl ?_
  refine av_getI (pc := 31) (k := 46) (n := 4782) C fl_X10_168 sk_74 rfl rfl dX10_note_31 ?_
  refine av_bipush (pc := 34) C dX10_note_34 rfl ?_
  refine av_irem (pc := 36) C dX10_note_36 (by decide) ?_
  refine av_aload_n (pc := 37) (j := 0) C dX10_note_37 rfl rfl ?_
  refine av_getI (pc := 38) (k := 42) (n := 4778) C fl_X10_165 sk_74 rfl rfl dX10_note_38 ?_
  obtain ⟨hb, hs⟩ := am_gd_of hs
  obtain ⟨S3, eS3, hs⟩ := am_let_of hs
  refine av_iast (pc := 41) C sk_115 hb dX10_note_41 ?_
  refine av_eq rfl rfl rfl eS3 ?_
  refine av_aload_n (pc := 42) (j := 0) C dX10_note_42 rfl rfl ?_
  refine av_dup (pc := 43) C dX10_note_43 rfl ?_
  refine av_getI (pc := 44) (k := 46) (n := 4782) C fl_X10_168 sk_74 rfl rfl dX10_note_44 ?_
  refine av_iconst (pc := 47) C dX10_note_47 rfl ?_
  refine av_iadd (pc := 48) C dX10_note_48 ?_
  obtain ⟨S4, eS4, hs⟩ := am_let_of hs
  refine av_putI (pc := 49) (k := 46) (n := 4782) C fp_X10_168 sk_74 rfl rfl dX10_note_49 ?_
  refine av_eq rfl rfl rfl eS4 ?_
  obtain rfl := am_inj1 hs
  exact av_vret C hr hlocks dX10_note_52
set_option maxHeartbeats 4000000 in
set_option maxRecDepth 100000 in
theorem wk_X10_awaits_86 {p : Program} {l : Launch} {e : Env} {s : State} {m : MethodId} {args : Array Value} {below : List Frame} {meth : Method} {c : Code} {G : am_G} (C : am_C p s m args c cX10_awaits 3 RX10 G) (hr : meth.sig.returnType = none) (hlocks : meth.locks = false) (b1 : Int) (b2 : Int) (S : am_S) (SZ : am_S) (hs : sf_X10_awaits_86 b1 b2 S = some SZ) : am_V p l e (am_rm 6 150) s m args below meth c (MQ below (am_Q G none SZ) args s 0 0 (am_A G)) G (am_A G) s.heap 3 0 0 86 [(0, am_R 74), (1, am_I b1), (2, am_I b2)] [] S := by
  unfold sf_X10_awaits_86 at hs
  refine av_aload_n (pc := 86) (j := 0) C dX10_awaits_86 rfl rfl ?_
  refine av_getR (pc := 87) (k := 8) (r := 83) C fl_X10_35 sk_74 rfl dX10_awaits_87 ?_
  refine av_iload_n (pc := 90) (j := 1) C dX10_awaits_90 rfl rfl ?_
  refine av_iconst (pc := 91) C dX10_awaits_91 rfl ?_
  obtain ⟨hb, hs⟩ := am_gd_of hs
  obtain ⟨S10, eS10, hs⟩ := am_let_of hs
  refine av_zast (pc := 92) C sk_83 hb (by decide) dX10_awaits_92 ?_
  refine av_eq rfl rfl rfl eS10 ?_
  refine av_aload_n (pc := 93) (j := 0) C dX10_awaits_93 rfl rfl ?_
  refine av_getR (pc := 94) (k := 4) (r := 79) C fl_X10_22 sk_74 rfl dX10_awaits_94 ?_
  refine av_iload_n (pc := 97) (j := 1) C dX10_awaits_97 rfl rfl ?_
  refine av_aload_n (pc := 98) (j := 0) C dX10_awaits_98 rfl rfl ?_
  refine av_getR (pc := 99) (k := 47) (r := 116) C fl_X10_134 sk_74 rfl dX10_awaits_99 ?_
  refine av_aload_n (pc := 102) (j := 0) C dX10_awaits_102 rfl rfl ?_
  refine av_getI (pc := 103) (k := 52) (n := 4788) C fl_X10_215 sk_74 rfl rfl dX10_awaits_103 ?_
  obtain ⟨hb, hs⟩ := am_gd_of hs
  refine av_iald (pc := 106) C sk_116 hb dX10_awaits_106 ?_
  obtain ⟨hb, hs⟩ := am_gd_of hs
  obtain ⟨S11, eS11, hs⟩ := am_let_of hs
  refine av_iast (pc := 107) C sk_79 hb dX10_awaits_107 ?_
  refine av_eq rfl rfl rfl eS11 ?_
  refine av_aload_n (pc := 108) (j := 0) C dX10_awaits_108 rfl rfl ?_
  refine av_getR (pc := 109) (k := 5) (r := 80) C fl_X10_25 sk_74 rfl dX10_awaits_109 ?_
  refine av_iload_n (pc := 112) (j := 1) C dX10_awaits_112 rfl rfl ?_
  refine av_aload_n (pc := 113) (j := 0) C dX10_awaits_113 rfl rfl ?_
  refine av_getR (pc := 114) (k := 48) (r := 117) C fl_X10_137 sk_74 rfl dX10_awaits_114 ?_
  refine av_aload_n (pc := 117) (j := 0) C dX10_awaits_117 rfl rfl ?_
  refine av_getI (pc := 118) (k := 52) (n := 4788) C fl_X10_215 sk_74 rfl rfl dX10_awaits_118 ?_
  obtain ⟨hb, hs⟩ := am_gd_of hs
  refine av_iald (pc := 121) C sk_117 hb dX10_awaits_121 ?_
  obtain ⟨hb, hs⟩ := am_gd_of hs
  obtain ⟨S12, eS12, hs⟩ := am_let_of hs
  refine av_iast (pc := 122) C sk_80 hb dX10_awaits_122 ?_
  refine av_eq rfl rfl rfl eS12 ?_
  refine av_aload_n (pc := 123) (j := 0) C dX10_awaits_123 rfl rfl ?_
  refine av_dup (pc := 124) C dX10_awaits_124 rfl ?_
  refine av_getI (pc := 125) (k := 52) (n := 4788) C fl_X10_215 sk_74 rfl rfl dX10_awaits_125 ?_
  refine av_iconst (pc := 128) C dX10_awaits_128 rfl ?_
  refine av_isub (pc := 129) C dX10_awaits_129 ?_
  obtain ⟨S13, eS13, hs⟩ := am_let_of hs
  refine av_putI (pc := 130) (k := 52) (n := 4788) C fp_X10_215 sk_74 rfl rfl dX10_awaits_130 ?_
  refine av_eq rfl rfl rfl eS13 ?_
  refine av_aload_n (pc := 133) (j := 0) C dX10_awaits_133 rfl rfl ?_
  refine av_iload_n (pc := 134) (j := 2) C dX10_awaits_134 rfl rfl ?_
  refine av_iconst (pc := 135) C dX10_awaits_135 rfl ?_
  refine av_iload_n (pc := 136) (j := 1) C dX10_awaits_136 rfl rfl ?_
  refine av_iconst (pc := 137) C dX10_awaits_137 rfl ?_
  refine av_iconst (pc := 138) C dX10_awaits_138 rfl ?_
  obtain ⟨S14, hc15, hs⟩ := am_b1_of hs
  refine av_eq (st2 := [am_I 0, am_I 0, am_I b1, am_I 4, am_I b2, am_R 74]) rfl rfl rfl rfl (av_callV (pc := 139) (as := [am_I b2, am_I 4, am_I b1, am_I 0, am_I 0]) (rest := []) C (ct_X10_waitFor l G b2 4 b1 0 0 S13 S14 hc15) ym_X10_waitFor si_X10_211 im_X10_waitFor se_X10_waitFor sk_74 rfl ⟨Nat.le_of_ble_eq_true rfl, Nat.le_of_ble_eq_true rfl⟩ rfl rfl (Nat.le_of_ble_eq_true rfl) dX10_awaits_139 ⟨Nat.le_refl _, Nat.le_refl _⟩ (fun hrv => av_eq (st2 := []) rfl rfl rfl rfl ?_))
  obtain rfl := am_inj1 hs
  exact av_vret C hr hlocks dX10_awaits_142
set_option maxHeartbeats 4000000 in
set_option maxRecDepth 100000 in
theorem ct_X10_awaits (l : Launch) (G : am_G) (S : am_S) (SZ : am_S) (hs : sf_X10_awaits  S = some SZ) : am_met l yX10_awaits cX10_awaits 3 none 6 150 G [am_R 74] S none SZ := by
  refine am_enter ym_X10_awaits (Nat.le_of_ble_eq_true rfl) ?_
  intro p e s m args below meth c C hr hlocks
  refine av_eq (lv2 := [(0, am_R 74)]) rfl rfl rfl rfl ?_
  unfold sf_X10_awaits at hs
  refine av_aload_n (pc := 0) (j := 0) C dX10_awaits_0 rfl rfl ?_
  refine av_getR (pc := 1) (k := 51) (r := 120) C fl_X10_146 sk_74 rfl dX10_awaits_1 ?_
  refine av_aload_n (pc := 4) (j := 0) C dX10_awaits_4 rfl rfl ?_
  refine av_getI (pc := 5) (k := 52) (n := 4788) C fl_X10_215 sk_74 rfl rfl dX10_awaits_5 ?_
  obtain ⟨hb, hs⟩ := am_gd_of hs
  refine av_iald (pc := 8) C sk_120 hb dX10_awaits_8 ?_
  refine av_istore_n (pc := 9) (i := 1) (lv2 := [(1, am_I (S.2 120 (Int.toNat (S.1 4788)))), (0, am_R 74)]) C dX10_awaits_9 rfl (by decide) rfl ?_
  refine av_aload_n (pc := 10) (j := 1) C dX10_awaits_10 rfl rfl ?_
  refine av_getR (pc := 11) (k := 50) (r := 119) C fl_X10_143 sk_74 rfl dX10_awaits_11 ?_
  refine av_aload_n (pc := 14) (j := 1) C dX10_awaits_14 rfl rfl ?_
  refine av_getI (pc := 15) (k := 52) (n := 4788) C fl_X10_215 sk_74 rfl rfl dX10_awaits_15 ?_
  obtain ⟨hb, hs⟩ := am_gd_of hs
  refine av_iald (pc := 18) C sk_119 hb dX10_awaits_18 ?_
  refine av_istore_n (pc := 19) (i := 2) (lv2 := [(2, am_I (S.2 119 (Int.toNat (S.1 4788)))), (1, am_I (S.2 120 (Int.toNat (S.1 4788)))), (0, am_R 74)]) C dX10_awaits_19 rfl (by decide) rfl ?_
  refine av_iload_n (pc := 20) (j := 1) C dX10_awaits_20 rfl rfl ?_
  refine av_if_ge (pc := 21) (tgt := 32) C dX10_awaits_21 (by decide) (fun hc => ?_) (fun hc => ?_)
  · rw [if_pos hc] at hs
    refine av_aload_n (pc := 32) (j := 2) C dX10_awaits_32 rfl rfl ?_
    refine av_getR (pc := 33) (k := 49) (r := 118) C fl_X10_140 sk_74 rfl dX10_awaits_33 ?_
    refine av_aload_n (pc := 36) (j := 2) C dX10_awaits_36 rfl rfl ?_
    refine av_getI (pc := 37) (k := 52) (n := 4788) C fl_X10_215 sk_74 rfl rfl dX10_awaits_37 ?_
    obtain ⟨hb, hs⟩ := am_gd_of hs
    refine av_iald (pc := 40) C sk_118 hb dX10_awaits_40 ?_
    refine av_iconst (pc := 41) C dX10_awaits_41 rfl ?_
    refine av_icmp_eq (pc := 42) (tgt := 86) C dX10_awaits_42 (by decide) (fun hc => ?_) (fun hc => ?_)
    · rw [if_pos hc] at hs
      refine av_lvsub (lv2 := [(0, am_R 74), (1, am_I (S.2 120 (Int.toNat (S.1 4788)))), (2, am_I (S.2 119 (Int.toNat (S.1 4788))))]) [2, 1, 0] rfl ?_
      exact wk_X10_awaits_86 C hr hlocks (S.2 120 (Int.toNat (S.1 4788))) (S.2 119 (Int.toNat (S.1 4788))) S SZ hs
    · rw [if_neg hc] at hs
      refine av_aload_n (pc := 45) (j := 2) C dX10_awaits_45 rfl rfl ?_
      obtain ⟨x2, S1, hc3, hs⟩ := am_b2_of hs
      refine av_eq (st2 := [am_R 74]) rfl rfl rfl rfl (av_callV (pc := 46) (as := []) (rest := []) C (ct_X10_promise l G  S x2 S1 hc3) ym_X10_promise si_X10_207 im_X10_promise se_X10_promise sk_74 rfl ⟨Nat.le_of_ble_eq_true rfl, Nat.le_of_ble_eq_true rfl⟩ rfl rfl (Nat.le_of_ble_eq_true rfl) dX10_awaits_46 ⟨Nat.le_refl _, Nat.le_refl _⟩ (fun hrv => av_eq (st2 := [am_I x2]) rfl rfl rfl rfl ?_))
      refine av_istore_n (pc := 49) (i := 2) (lv2 := [(2, am_I x2), (1, am_I (S.2 120 (Int.toNat (S.1 4788)))), (0, am_R 74)]) C dX10_awaits_49 rfl (by decide) rfl ?_
      refine av_iload_n (pc := 50) (j := 0) C dX10_awaits_50 rfl rfl ?_
      refine av_if_ge (pc := 51) (tgt := 62) C dX10_awaits_51 (by decide) (fun hc => ?_) (fun hc => ?_)
      · rw [if_pos hc] at hs
        refine av_aload_n (pc := 62) (j := 2) C dX10_awaits_62 rfl rfl ?_
        refine av_iload_n (pc := 63) (j := 0) C dX10_awaits_63 rfl rfl ?_
        refine av_aload_n (pc := 64) (j := 2) C dX10_awaits_64 rfl rfl ?_
        refine av_getR (pc := 65) (k := 49) (r := 118) C fl_X10_140 sk_74 rfl dX10_awaits_65 ?_
        refine av_aload_n (pc := 68) (j := 2) C dX10_awaits_68 rfl rfl ?_
        refine av_getI (pc := 69) (k := 52) (n := 4788) C fl_X10_215 sk_74 rfl rfl dX10_awaits_69 ?_
        obtain ⟨hb, hs⟩ := am_gd_of hs
        refine av_iald (pc := 72) C sk_118 hb dX10_awaits_72 ?_
        refine av_aload_n (pc := 73) (j := 2) C dX10_awaits_73 rfl rfl ?_
        refine av_getR (pc := 74) (k := 50) (r := 119) C fl_X10_143 sk_74 rfl dX10_awaits_74 ?_
        refine av_aload_n (pc := 77) (j := 2) C dX10_awaits_77 rfl rfl ?_
        refine av_getI (pc := 78) (k := 52) (n := 4788) C fl_X10_215 sk_74 rfl rfl dX10_awaits_78 ?_
        obtain ⟨hb, hs⟩ := am_gd_of hs
        refine av_iald (pc := 81) C sk_119 hb dX10_awaits_81 ?_
        refine av_iconst (pc := 82) C dX10_awaits_82 rfl ?_
        obtain ⟨S4, hc5, hs⟩ := am_b1_of hs
        refine av_eq (st2 := [am_I 0, am_I (S1.2 119 (Int.toNat (S1.1 4788))), am_I (S1.2 118 (Int.toNat (S1.1 4788))), am_I x2, am_R 74]) rfl rfl rfl rfl (av_callV (pc := 83) (as := [am_I x2, am_I (S1.2 118 (Int.toNat (S1.1 4788))), am_I (S1.2 119 (Int.toNat (S1.1 4788))), am_I 0]) (rest := []) C (ct_X10_resolveBy l G x2 (S1.2 118 (Int.toNat (S1.1 4788))) (S1.2 119 (Int.toNat (S1.1 4788))) 0 S1 S4 hc5) ym_X10_resolveBy si_X10_201 im_X10_resolveBy se_X10_resolveBy sk_74 rfl ⟨Nat.le_of_ble_eq_true rfl, Nat.le_of_ble_eq_true rfl⟩ rfl rfl (Nat.le_of_ble_eq_true rfl) dX10_awaits_83 ⟨Nat.le_refl _, Nat.le_refl _⟩ (fun hrv => av_eq (st2 := []) rfl rfl rfl rfl ?_))
        refine av_lvsub (lv2 := [(0, am_R 74), (1, am_I (S.2 120 (Int.toNat (S.1 4788)))), (2, am_I x2)]) [2, 1, 0] rfl ?_
        exact wk_X10_awaits_86 C hr hlocks (S.2 120 (Int.toNat (S.1 4788))) x2 S4 SZ hs
      · rw [if_neg hc] at hs
        refine av_aload_n (pc := 54) (j := 2) C dX10_awaits_54 rfl rfl ?_
        refine av_iconst (pc := 55) C dX10_awaits_55 rfl ?_
        refine av_bipush (pc := 56) C dX10_awaits_56 rfl ?_
        obtain ⟨S6, hc7, hs⟩ := am_b1_of hs
        refine av_eq (st2 := [am_I (-4), am_I 0, am_R 74]) rfl rfl rfl rfl (av_callV (pc := 58) (as := [am_I 0, am_I (-4)]) (rest := []) C (ct_X10_fling l G 0 (-4) S1 S6 hc7) ym_X10_fling si_X10_244 im_X10_fling se_X10_fling sk_74 rfl ⟨Nat.le_of_ble_eq_true rfl, Nat.le_of_ble_eq_true rfl⟩ rfl rfl (Nat.le_of_ble_eq_true rfl) dX10_awaits_58 ⟨Nat.le_refl _, Nat.le_refl _⟩ (fun hrv => av_eq (st2 := []) rfl rfl rfl rfl ?_))
        obtain rfl := am_inj1 hs
        exact av_vret C hr hlocks dX10_awaits_61
  · rw [if_neg hc] at hs
    refine av_aload_n (pc := 24) (j := 2) C dX10_awaits_24 rfl rfl ?_
    refine av_iconst (pc := 25) C dX10_awaits_25 rfl ?_
    refine av_bipush (pc := 26) C dX10_awaits_26 rfl ?_
    obtain ⟨S8, hc9, hs⟩ := am_b1_of hs
    refine av_eq (st2 := [am_I (-2), am_I 0, am_R 74]) rfl rfl rfl rfl (av_callV (pc := 28) (as := [am_I 0, am_I (-2)]) (rest := []) C (ct_X10_fling l G 0 (-2) S S8 hc9) ym_X10_fling si_X10_244 im_X10_fling se_X10_fling sk_74 rfl ⟨Nat.le_of_ble_eq_true rfl, Nat.le_of_ble_eq_true rfl⟩ rfl rfl (Nat.le_of_ble_eq_true rfl) dX10_awaits_28 ⟨Nat.le_refl _, Nat.le_refl _⟩ (fun hrv => av_eq (st2 := []) rfl rfl rfl rfl ?_))
    obtain rfl := am_inj1 hs
    exact av_vret C hr hlocks dX10_awaits_31
set_option maxHeartbeats 4000000 in
set_option maxRecDepth 100000 in
theorem ct_X10_make (l : Launch) (G : am_G) (S : am_S) (x : Int) (SZ : am_S) (hs : sf_X10_make  S = some (x, SZ)) : am_met l yX10_make cX10_make 2 (some .int) 6 150 G [am_R 74] S (some (am_I x)) SZ := by
  refine am_enter ym_X10_make (Nat.le_of_ble_eq_true rfl) ?_
  intro p e s m args below meth c C hr hlocks
  refine av_eq (lv2 := [(0, am_R 74)]) rfl rfl rfl rfl ?_
  unfold sf_X10_make at hs
  refine av_aload_n (pc := 0) (j := 0) C dX10_make_0 rfl rfl ?_
  obtain ⟨x2, S1, hc3, hs⟩ := am_b2_of hs
  refine av_eq (st2 := [am_R 74]) rfl rfl rfl rfl (av_callV (pc := 1) (as := []) (rest := []) C (ct_X10_promise l G  S x2 S1 hc3) ym_X10_promise si_X10_207 im_X10_promise se_X10_promise sk_74 rfl ⟨Nat.le_of_ble_eq_true rfl, Nat.le_of_ble_eq_true rfl⟩ rfl rfl (Nat.le_of_ble_eq_true rfl) dX10_make_1 ⟨Nat.le_refl _, Nat.le_refl _⟩ (fun hrv => av_eq (st2 := [am_I x2]) rfl rfl rfl rfl ?_))
  refine av_istore_n (pc := 4) (i := 1) (lv2 := [(1, am_I x2), (0, am_R 74)]) C dX10_make_4 rfl (by decide) rfl ?_
  refine av_iload_n (pc := 5) (j := 0) C dX10_make_5 rfl rfl ?_
  refine av_if_ge (pc := 6) (tgt := 16) C dX10_make_6 (by decide) (fun hc => ?_) (fun hc => ?_)
  · rw [if_pos hc] at hs
    refine av_iload_n (pc := 16) (j := 0) C dX10_make_16 rfl rfl ?_
    obtain ⟨rfl, rfl⟩ := am_inj2 hs
    exact av_iret C hr hlocks dX10_make_17
  · rw [if_neg hc] at hs
    refine av_aload_n (pc := 9) (j := 1) C dX10_make_9 rfl rfl ?_
    refine av_iconst (pc := 10) C dX10_make_10 rfl ?_
    refine av_bipush (pc := 11) C dX10_make_11 rfl ?_
    obtain ⟨S4, hc5, hs⟩ := am_b1_of hs
    refine av_eq (st2 := [am_I (-4), am_I 0, am_R 74]) rfl rfl rfl rfl (av_callV (pc := 13) (as := [am_I 0, am_I (-4)]) (rest := []) C (ct_X10_fling l G 0 (-4) S1 S4 hc5) ym_X10_fling si_X10_244 im_X10_fling se_X10_fling sk_74 rfl ⟨Nat.le_of_ble_eq_true rfl, Nat.le_of_ble_eq_true rfl⟩ rfl rfl (Nat.le_of_ble_eq_true rfl) dX10_make_13 ⟨Nat.le_refl _, Nat.le_refl _⟩ (fun hrv => av_eq (st2 := []) rfl rfl rfl rfl ?_))
    refine av_iload_n (pc := 16) (j := 0) C dX10_make_16 rfl rfl ?_
    obtain ⟨rfl, rfl⟩ := am_inj2 hs
    exact av_iret C hr hlocks dX10_make_17
set_option maxHeartbeats 4000000 in
set_option maxRecDepth 100000 in
theorem wk_X10_task_26 {p : Program} {l : Launch} {e : Env} {s : State} {m : MethodId} {args : Array Value} {below : List Frame} {meth : Method} {c : Code} {G : am_G} (C : am_C p s m args c cX10_task 6 RX10 G) (hr : meth.sig.returnType = (some .boolean)) (hlocks : meth.locks = false) (b1 : Int) (b2 : Int) (b3 : Int) (b4 : Int) (b5 : Int) (S : am_S) (x : Int) (SZ : am_S) (hs : sf_X10_task_26 b1 b2 b3 b4 b5 S = some (x, SZ)) : am_V p l e (am_rm 0 0) s m args below meth c (MQ below (am_Q G (some (am_I x)) SZ) args s 0 0 (am_A G)) G (am_A G) s.heap 6 0 0 26 [(0, am_R 74), (1, am_I b1), (2, am_I b2), (3, am_I b3), (4, am_I b4), (5, am_I b5)] [] S := by
  unfold sf_X10_task_26 at hs
  refine av_iload (pc := 26) (j := 5) C dX10_task_26 rfl ?_
  refine av_bipush (pc := 28) C dX10_task_28 rfl ?_
  refine av_icmp_ne (pc := 30) (tgt := 35) C dX10_task_30 (by decide) (fun hc => ?_) (fun hc => ?_)
  · rw [if_neg hc] at hs
    refine av_aload_n (pc := 35) (j := 0) C dX10_task_35 rfl rfl ?_
    refine av_getR (pc := 36) (k := 36) (r := 108) C fl_X10_110 sk_74 rfl dX10_task_36 ?_
    refine av_iload (pc := 39) (j := 5) C dX10_task_39 rfl ?_
    refine av_aload_n (pc := 41) (j := 0) C dX10_task_41 rfl rfl ?_
    refine av_getI (pc := 42) (k := 41) (n := 4777) C fl_X10_162 sk_74 rfl rfl dX10_task_42 ?_
    refine av_iload (pc := 45) (j := 4) C dX10_task_45 rfl ?_
    refine av_iadd (pc := 47) C dX10_task_47 ?_
    obtain ⟨hb, hs⟩ := am_gd_of hs
    obtain ⟨S1, eS1, hs⟩ := am_let_of hs
    refine av_iast (pc := 48) C sk_108 hb dX10_task_48 ?_
    refine av_eq rfl rfl rfl eS1 ?_
    refine av_aload_n (pc := 49) (j := 0) C dX10_task_49 rfl rfl ?_
    refine av_getR (pc := 50) (k := 37) (r := 109) C fl_X10_113 sk_74 rfl dX10_task_50 ?_
    refine av_iload (pc := 53) (j := 5) C dX10_task_53 rfl ?_
    refine av_aload_n (pc := 55) (j := 0) C dX10_task_55 rfl rfl ?_
    refine av_dup (pc := 56) C dX10_task_56 rfl ?_
    refine av_getI (pc := 57) (k := 19) (n := 4755) C fl_X10_156 sk_74 rfl rfl dX10_task_57 ?_
    refine av_iconst (pc := 60) C dX10_task_60 rfl ?_
    refine av_iadd (pc := 61) C dX10_task_61 ?_
    refine av_dup_x1 (pc := 62) C dX10_task_62 rfl rfl ?_
    obtain ⟨S2, eS2, hs⟩ := am_let_of hs
    refine av_putI (pc := 63) (k := 19) (n := 4755) C fp_X10_156 sk_74 rfl rfl dX10_task_63 ?_
    refine av_eq rfl rfl rfl eS2 ?_
    obtain ⟨hb, hs⟩ := am_gd_of hs
    obtain ⟨S3, eS3, hs⟩ := am_let_of hs
    refine av_iast (pc := 66) C sk_109 hb dX10_task_66 ?_
    refine av_eq rfl rfl rfl eS3 ?_
    refine av_aload_n (pc := 67) (j := 0) C dX10_task_67 rfl rfl ?_
    refine av_getR (pc := 68) (k := 38) (r := 110) C fl_X10_116 sk_74 rfl dX10_task_68 ?_
    refine av_iload (pc := 71) (j := 5) C dX10_task_71 rfl ?_
    refine av_iload_n (pc := 73) (j := 1) C dX10_task_73 rfl rfl ?_
    obtain ⟨hb, hs⟩ := am_gd_of hs
    obtain ⟨S4, eS4, hs⟩ := am_let_of hs
    refine av_iast (pc := 74) C sk_110 hb dX10_task_74 ?_
    refine av_eq rfl rfl rfl eS4 ?_
    refine av_aload_n (pc := 75) (j := 0) C dX10_task_75 rfl rfl ?_
    refine av_getR (pc := 76) (k := 39) (r := 111) C fl_X10_119 sk_74 rfl dX10_task_76 ?_
    refine av_iload (pc := 79) (j := 5) C dX10_task_79 rfl ?_
    refine av_iload_n (pc := 81) (j := 2) C dX10_task_81 rfl rfl ?_
    obtain ⟨hb, hs⟩ := am_gd_of hs
    obtain ⟨S5, eS5, hs⟩ := am_let_of hs
    refine av_iast (pc := 82) C sk_111 hb dX10_task_82 ?_
    refine av_eq rfl rfl rfl eS5 ?_
    refine av_aload_n (pc := 83) (j := 0) C dX10_task_83 rfl rfl ?_
    refine av_getR (pc := 84) (k := 40) (r := 112) C fl_X10_122 sk_74 rfl dX10_task_84 ?_
    refine av_iload (pc := 87) (j := 5) C dX10_task_87 rfl ?_
    refine av_iload_n (pc := 89) (j := 3) C dX10_task_89 rfl rfl ?_
    obtain ⟨hb, hs⟩ := am_gd_of hs
    obtain ⟨S6, eS6, hs⟩ := am_let_of hs
    refine av_iast (pc := 90) C sk_112 hb dX10_task_90 ?_
    refine av_eq rfl rfl rfl eS6 ?_
    refine av_iconst (pc := 91) C dX10_task_91 rfl ?_
    obtain ⟨rfl, rfl⟩ := am_inj2 hs
    exact av_zret C (by decide) hr hlocks dX10_task_92
  · rw [if_pos (Decidable.not_not.mp hc)] at hs
    refine av_iconst (pc := 33) C dX10_task_33 rfl ?_
    obtain ⟨rfl, rfl⟩ := am_inj2 hs
    exact av_zret C (by decide) hr hlocks dX10_task_34
set_option maxHeartbeats 4000000 in
set_option maxRecDepth 100000 in
theorem wk_X10_task_3 {p : Program} {l : Launch} {e : Env} {s : State} {m : MethodId} {args : Array Value} {below : List Frame} {meth : Method} {c : Code} {G : am_G} (C : am_C p s m args c cX10_task 6 RX10 G) (hr : meth.sig.returnType = (some .boolean)) (hlocks : meth.locks = false) : ∀ (fu : Nat) (b1 : Int) (b2 : Int) (b3 : Int) (b4 : Int) (b5 : Int) (S : am_S) (x : Int) (SZ : am_S), sf_X10_task_3 fu b1 b2 b3 b4 b5 S = some (x, SZ) → am_V p l e (am_rm 0 0) s m args below meth c (MQ below (am_Q G (some (am_I x)) SZ) args s 0 0 (am_A G)) G (am_A G) s.heap 6 0 0 3 [(0, am_R 74), (1, am_I b1), (2, am_I b2), (3, am_I b3), (4, am_I b4), (5, am_I b5)] [] S := by
  intro fu
  induction fu with
  | zero => intro b1 b2 b3 b4 b5 S x SZ hs; cases hs
  | succ fu ih =>
    intro b1 b2 b3 b4 b5 S x SZ hs
    unfold sf_X10_task_3 at hs
    refine av_iload (pc := 3) (j := 5) C dX10_task_3 rfl ?_
    refine av_bipush (pc := 5) C dX10_task_5 rfl ?_
    refine av_icmp_ge (pc := 7) (tgt := 26) C dX10_task_7 (by decide) (fun hc => ?_) (fun hc => ?_)
    · rw [if_pos hc] at hs
      exact wk_X10_task_26 C hr hlocks b1 b2 b3 b4 b5 S x SZ hs
    · rw [if_neg hc] at hs
      refine av_aload_n (pc := 10) (j := 0) C dX10_task_10 rfl rfl ?_
      refine av_getR (pc := 11) (k := 36) (r := 108) C fl_X10_110 sk_74 rfl dX10_task_11 ?_
      refine av_iload (pc := 14) (j := 5) C dX10_task_14 rfl ?_
      obtain ⟨hb, hs⟩ := am_gd_of hs
      refine av_iald (pc := 16) C sk_108 hb dX10_task_16 ?_
      refine av_if_lt (pc := 17) (tgt := 26) C dX10_task_17 (by decide) (fun hc => ?_) (fun hc => ?_)
      · rw [if_pos hc] at hs
        exact wk_X10_task_26 C hr hlocks b1 b2 b3 b4 b5 S x SZ hs
      · rw [if_neg hc] at hs
        refine av_iinc (pc := 20) (j := 5) (lv2 := [(5, am_I (am_w32 (b5 + 1))), (0, am_R 74), (1, am_I b1), (2, am_I b2), (3, am_I b3), (4, am_I b4)]) C dX10_task_20 rfl (by decide) rfl ?_
        refine av_goto (pc := 23) (tgt := 3) C dX10_task_23 (by decide) ?_
        refine av_lvsub (lv2 := [(0, am_R 74), (1, am_I b1), (2, am_I b2), (3, am_I b3), (4, am_I b4), (5, am_I (am_w32 (b5 + 1)))]) [1, 2, 3, 4, 5, 0] rfl ?_
        exact ih b1 b2 b3 b4 (am_w32 (b5 + 1)) S x SZ hs
set_option maxHeartbeats 4000000 in
set_option maxRecDepth 100000 in
theorem ct_X10_task (l : Launch) (G : am_G) (a1 : Int) (a2 : Int) (a3 : Int) (a4 : Int) (S : am_S) (x : Int) (SZ : am_S) (hs : sf_X10_task a1 a2 a3 a4 S = some (x, SZ)) : am_met l yX10_task cX10_task 6 (some .boolean) 0 0 G [am_R 74, am_I a1, am_I a2, am_I a3, am_I a4] S (some (am_I x)) SZ := by
  refine am_enter ym_X10_task (Nat.le_of_ble_eq_true rfl) ?_
  intro p e s m args below meth c C hr hlocks
  refine av_eq (lv2 := [(0, am_R 74), (1, am_I a1), (2, am_I a2), (3, am_I a3), (4, am_I a4)]) rfl rfl rfl rfl ?_
  unfold sf_X10_task at hs
  refine av_iconst (pc := 0) C dX10_task_0 rfl ?_
  refine av_istore (pc := 1) (i := 5) (lv2 := [(5, am_I 0), (0, am_R 74), (1, am_I a1), (2, am_I a2), (3, am_I a3), (4, am_I a4)]) C dX10_task_1 (by decide) rfl ?_
  refine av_lvsub (lv2 := [(0, am_R 74), (1, am_I a1), (2, am_I a2), (3, am_I a3), (4, am_I a4), (5, am_I 0)]) [1, 2, 3, 4, 5, 0] rfl ?_
  exact wk_X10_task_3 C hr hlocks 1000 a1 a2 a3 a4 0 S x SZ hs
set_option maxHeartbeats 4000000 in
set_option maxRecDepth 100000 in
theorem ct_X10_does (l : Launch) (G : am_G) (a1 : Int) (a2 : Int) (a3 : Int) (S : am_S) (SZ : am_S) (hs : sf_X10_does a1 a2 a3 S = some SZ) : am_met l yX10_does cX10_does 9 none 7 172 G [am_R 74, am_I a1, am_I a2, am_I a3] S none SZ := by
  refine am_enter ym_X10_does (Nat.le_of_ble_eq_true rfl) ?_
  intro p e s m args below meth c C hr hlocks
  refine av_eq (lv2 := [(0, am_R 74), (1, am_I a1), (2, am_I a2), (3, am_I a3)]) rfl rfl rfl rfl ?_
  unfold sf_X10_does at hs
  refine av_aload_n (pc := 0) (j := 0) C dX10_does_0 rfl rfl ?_
  refine av_getR (pc := 1) (k := 49) (r := 118) C fl_X10_140 sk_74 rfl dX10_does_1 ?_
  refine av_aload_n (pc := 4) (j := 0) C dX10_does_4 rfl rfl ?_
  refine av_getI (pc := 5) (k := 52) (n := 4788) C fl_X10_215 sk_74 rfl rfl dX10_does_5 ?_
  obtain ⟨hb, hs⟩ := am_gd_of hs
  refine av_iald (pc := 8) C sk_118 hb dX10_does_8 ?_
  refine av_istore (pc := 9) (i := 4) (lv2 := [(4, am_I (S.2 118 (Int.toNat (S.1 4788)))), (0, am_R 74), (1, am_I a1), (2, am_I a2), (3, am_I a3)]) C dX10_does_9 (by decide) rfl ?_
  refine av_aload_n (pc := 11) (j := 1) C dX10_does_11 rfl rfl ?_
  refine av_getR (pc := 12) (k := 50) (r := 119) C fl_X10_143 sk_74 rfl dX10_does_12 ?_
  refine av_aload_n (pc := 15) (j := 1) C dX10_does_15 rfl rfl ?_
  refine av_getI (pc := 16) (k := 52) (n := 4788) C fl_X10_215 sk_74 rfl rfl dX10_does_16 ?_
  obtain ⟨hb, hs⟩ := am_gd_of hs
  refine av_iald (pc := 19) C sk_119 hb dX10_does_19 ?_
  refine av_istore (pc := 20) (i := 5) (lv2 := [(5, am_I (S.2 119 (Int.toNat (S.1 4788)))), (4, am_I (S.2 118 (Int.toNat (S.1 4788)))), (0, am_R 74), (1, am_I a1), (2, am_I a2), (3, am_I a3)]) C dX10_does_20 (by decide) rfl ?_
  refine av_iload_n (pc := 22) (j := 3) C dX10_does_22 rfl rfl ?_
  have hdef1 : (hs : (some S) = some SZ) → am_V p l e (am_rm 7 172) s m args below meth c (MQ below (am_Q G none SZ) args s 0 0 (am_A G)) G (am_A G) s.heap 9 0 0 392 [(5, am_I (S.2 119 (Int.toNat (S.1 4788)))), (4, am_I (S.2 118 (Int.toNat (S.1 4788)))), (0, am_R 74), (1, am_I a1), (2, am_I a2), (3, am_I a3)] [] S := by
    intro hs
    obtain rfl := am_inj1 hs
    exact av_vret C hr hlocks dX10_does_392
  by_cases hk0 : a1 = 0
  · rw [if_pos hk0] at hs
    refine av_swi (pc := 23) (k := 0) (tgt := 96) C dX10_does_23 (by rw [hk0]; rfl) (by decide) rfl (by decide) ?_
    refine av_aload_n (pc := 96) (j := 2) C dX10_does_96 rfl rfl ?_
    refine av_iconst (pc := 97) C dX10_does_97 rfl ?_
    refine av_iload_n (pc := 98) (j := 5) C dX10_does_98 rfl rfl ?_
    obtain ⟨S2, hc3, hs⟩ := am_b1_of hs
    refine av_eq (st2 := [am_I a3, am_I 0, am_R 74]) rfl rfl rfl rfl (av_callV (pc := 99) (as := [am_I 0, am_I a3]) (rest := []) C (ct_X10_note l G 0 a3 S S2 hc3) ym_X10_note si_X10_247 im_X10_note se_X10_note sk_74 rfl ⟨Nat.le_of_ble_eq_true rfl, Nat.le_of_ble_eq_true rfl⟩ rfl rfl (Nat.le_of_ble_eq_true rfl) dX10_does_99 ⟨Nat.le_refl _, Nat.le_refl _⟩ (fun hrv => av_eq (st2 := []) rfl rfl rfl rfl ?_))
    refine av_goto (pc := 102) (tgt := 392) C dX10_does_102 (by decide) ?_
    obtain rfl := am_inj1 hs
    exact av_vret C hr hlocks dX10_does_392
  · rw [if_neg hk0] at hs
    by_cases hk1 : a1 = 1
    · rw [if_pos hk1] at hs
      refine av_swi (pc := 23) (k := 1) (tgt := 105) C dX10_does_23 (by rw [hk1]; rfl) (by decide) rfl (by decide) ?_
      refine av_aload_n (pc := 105) (j := 2) C dX10_does_105 rfl rfl ?_
      refine av_iload (pc := 106) (j := 1) C dX10_does_106 rfl ?_
      refine av_iload (pc := 108) (j := 0) C dX10_does_108 rfl ?_
      obtain ⟨S4, hc5, hs⟩ := am_b1_of hs
      refine av_eq (st2 := [am_I (S.2 119 (Int.toNat (S.1 4788))), am_I (S.2 118 (Int.toNat (S.1 4788))), am_R 74]) rfl rfl rfl rfl (av_callV (pc := 110) (as := [am_I (S.2 118 (Int.toNat (S.1 4788))), am_I (S.2 119 (Int.toNat (S.1 4788)))]) (rest := []) C (ct_X10_note l G (S.2 118 (Int.toNat (S.1 4788))) (S.2 119 (Int.toNat (S.1 4788))) S S4 hc5) ym_X10_note si_X10_247 im_X10_note se_X10_note sk_74 rfl ⟨Nat.le_of_ble_eq_true rfl, Nat.le_of_ble_eq_true rfl⟩ rfl rfl (Nat.le_of_ble_eq_true rfl) dX10_does_110 ⟨Nat.le_refl _, Nat.le_refl _⟩ (fun hrv => av_eq (st2 := []) rfl rfl rfl rfl ?_))
      refine av_goto (pc := 113) (tgt := 392) C dX10_does_113 (by decide) ?_
      obtain rfl := am_inj1 hs
      exact av_vret C hr hlocks dX10_does_392
    · rw [if_neg hk1] at hs
      by_cases hk2 : a1 = 2
      · rw [if_pos hk2] at hs
        refine av_swi (pc := 23) (k := 2) (tgt := 116) C dX10_does_23 (by rw [hk2]; rfl) (by decide) rfl (by decide) ?_
        refine av_iload_n (pc := 116) (j := 4) C dX10_does_116 rfl rfl ?_
        refine av_iconst (pc := 117) C dX10_does_117 rfl ?_
        refine av_icmp_ne (pc := 118) (tgt := 139) C dX10_does_118 (by decide) (fun hc => ?_) (fun hc => ?_)
        · rw [if_neg hc] at hs
          refine av_aload_n (pc := 139) (j := 2) C dX10_does_139 rfl rfl ?_
          refine av_iload_n (pc := 140) (j := 4) C dX10_does_140 rfl rfl ?_
          refine av_iload_n (pc := 141) (j := 5) C dX10_does_141 rfl rfl ?_
          obtain ⟨S6, hc7, hs⟩ := am_b1_of hs
          refine av_eq (st2 := [am_I a3, am_I a2, am_R 74]) rfl rfl rfl rfl (av_callV (pc := 142) (as := [am_I a2, am_I a3]) (rest := []) C (ct_X10_put l G a2 a3 S S6 hc7) ym_X10_put si_X10_218 im_X10_put se_X10_put sk_74 rfl ⟨Nat.le_of_ble_eq_true rfl, Nat.le_of_ble_eq_true rfl⟩ rfl rfl (Nat.le_of_ble_eq_true rfl) dX10_does_142 ⟨Nat.le_refl _, Nat.le_refl _⟩ (fun hrv => av_eq (st2 := []) rfl rfl rfl rfl ?_))
          refine av_goto (pc := 145) (tgt := 392) C dX10_does_145 (by decide) ?_
          obtain rfl := am_inj1 hs
          exact av_vret C hr hlocks dX10_does_392
        · rw [if_pos (Decidable.not_not.mp hc)] at hs
          refine av_aload_n (pc := 121) (j := 2) C dX10_does_121 rfl rfl ?_
          refine av_iload_n (pc := 122) (j := 5) C dX10_does_122 rfl rfl ?_
          obtain ⟨x9, S8, hc10, hs⟩ := am_b2_of hs
          refine av_eq (st2 := [am_I a3, am_R 74]) rfl rfl rfl rfl (av_callV (pc := 123) (as := [am_I a3]) (rest := []) C (ct_X10_isPromise l G a3 S x9 S8 hc10) ym_X10_isPromise si_X10_175 im_X10_isPromise se_X10_isPromise sk_74 rfl ⟨Nat.le_of_ble_eq_true rfl, Nat.le_of_ble_eq_true rfl⟩ rfl rfl (Nat.le_of_ble_eq_true rfl) dX10_does_123 ⟨Nat.le_refl _, Nat.le_refl _⟩ (fun hrv => av_eq (st2 := [am_I x9]) rfl rfl rfl rfl ?_))
          refine av_if_ne (pc := 126) (tgt := 139) C dX10_does_126 (by decide) (fun hc => ?_) (fun hc => ?_)
          · rw [if_neg hc] at hs
            refine av_aload_n (pc := 139) (j := 2) C dX10_does_139 rfl rfl ?_
            refine av_iload_n (pc := 140) (j := 4) C dX10_does_140 rfl rfl ?_
            refine av_iload_n (pc := 141) (j := 5) C dX10_does_141 rfl rfl ?_
            obtain ⟨S11, hc12, hs⟩ := am_b1_of hs
            refine av_eq (st2 := [am_I a3, am_I a2, am_R 74]) rfl rfl rfl rfl (av_callV (pc := 142) (as := [am_I a2, am_I a3]) (rest := []) C (ct_X10_put l G a2 a3 S8 S11 hc12) ym_X10_put si_X10_218 im_X10_put se_X10_put sk_74 rfl ⟨Nat.le_of_ble_eq_true rfl, Nat.le_of_ble_eq_true rfl⟩ rfl rfl (Nat.le_of_ble_eq_true rfl) dX10_does_142 ⟨Nat.le_refl _, Nat.le_refl _⟩ (fun hrv => av_eq (st2 := []) rfl rfl rfl rfl ?_))
            refine av_goto (pc := 145) (tgt := 392) C dX10_does_145 (by decide) ?_
            obtain rfl := am_inj1 hs
            exact av_vret C hr hlocks dX10_does_392
          · rw [if_pos (Decidable.not_not.mp hc)] at hs
            refine av_aload_n (pc := 129) (j := 2) C dX10_does_129 rfl rfl ?_
            refine av_iconst (pc := 130) C dX10_does_130 rfl ?_
            refine av_bipush (pc := 131) C dX10_does_131 rfl ?_
            obtain ⟨S13, hc14, hs⟩ := am_b1_of hs
            refine av_eq (st2 := [am_I (-3), am_I 0, am_R 74]) rfl rfl rfl rfl (av_callV (pc := 133) (as := [am_I 0, am_I (-3)]) (rest := []) C (ct_X10_fling l G 0 (-3) S8 S13 hc14) ym_X10_fling si_X10_244 im_X10_fling se_X10_fling sk_74 rfl ⟨Nat.le_of_ble_eq_true rfl, Nat.le_of_ble_eq_true rfl⟩ rfl rfl (Nat.le_of_ble_eq_true rfl) dX10_does_133 ⟨Nat.le_refl _, Nat.le_refl _⟩ (fun hrv => av_eq (st2 := []) rfl rfl rfl rfl ?_))
            refine av_goto (pc := 136) (tgt := 392) C dX10_does_136 (by decide) ?_
            obtain rfl := am_inj1 hs
            exact av_vret C hr hlocks dX10_does_392
      · rw [if_neg hk2] at hs
        by_cases hk3 : a1 = 3
        · rw [if_pos hk3] at hs
          refine av_swi (pc := 23) (k := 3) (tgt := 148) C dX10_does_23 (by rw [hk3]; rfl) (by decide) rfl (by decide) ?_
          refine av_aload_n (pc := 148) (j := 2) C dX10_does_148 rfl rfl ?_
          refine av_iconst (pc := 149) C dX10_does_149 rfl ?_
          refine av_iload (pc := 150) (j := 1) C dX10_does_150 rfl ?_
          refine av_iload (pc := 152) (j := 0) C dX10_does_152 rfl ?_
          obtain ⟨S15, hc16, hs⟩ := am_b1_of hs
          refine av_eq (st2 := [am_I (S.2 119 (Int.toNat (S.1 4788))), am_I (S.2 118 (Int.toNat (S.1 4788))), am_I 0, am_R 74]) rfl rfl rfl rfl (av_callV (pc := 154) (as := [am_I 0, am_I (S.2 118 (Int.toNat (S.1 4788))), am_I (S.2 119 (Int.toNat (S.1 4788)))]) (rest := []) C (ct_X10_finish l G 0 (S.2 118 (Int.toNat (S.1 4788))) (S.2 119 (Int.toNat (S.1 4788))) S S15 hc16) ym_X10_finish si_X10_226 im_X10_finish se_X10_finish sk_74 rfl ⟨Nat.le_of_ble_eq_true rfl, Nat.le_of_ble_eq_true rfl⟩ rfl rfl (Nat.le_of_ble_eq_true rfl) dX10_does_154 ⟨Nat.le_refl _, Nat.le_refl _⟩ (fun hrv => av_eq (st2 := []) rfl rfl rfl rfl ?_))
          refine av_goto (pc := 157) (tgt := 392) C dX10_does_157 (by decide) ?_
          obtain rfl := am_inj1 hs
          exact av_vret C hr hlocks dX10_does_392
        · rw [if_neg hk3] at hs
          by_cases hk4 : a1 = 4
          · rw [if_pos hk4] at hs
            refine av_swi (pc := 23) (k := 4) (tgt := 160) C dX10_does_23 (by rw [hk4]; rfl) (by decide) rfl (by decide) ?_
            refine av_aload_n (pc := 160) (j := 2) C dX10_does_160 rfl rfl ?_
            refine av_iload (pc := 161) (j := 1) C dX10_does_161 rfl ?_
            refine av_iload (pc := 163) (j := 0) C dX10_does_163 rfl ?_
            obtain ⟨S17, hc18, hs⟩ := am_b1_of hs
            refine av_eq (st2 := [am_I (S.2 119 (Int.toNat (S.1 4788))), am_I (S.2 118 (Int.toNat (S.1 4788))), am_R 74]) rfl rfl rfl rfl (av_callV (pc := 165) (as := [am_I (S.2 118 (Int.toNat (S.1 4788))), am_I (S.2 119 (Int.toNat (S.1 4788)))]) (rest := []) C (ct_X10_fling l G (S.2 118 (Int.toNat (S.1 4788))) (S.2 119 (Int.toNat (S.1 4788))) S S17 hc18) ym_X10_fling si_X10_244 im_X10_fling se_X10_fling sk_74 rfl ⟨Nat.le_of_ble_eq_true rfl, Nat.le_of_ble_eq_true rfl⟩ rfl rfl (Nat.le_of_ble_eq_true rfl) dX10_does_165 ⟨Nat.le_refl _, Nat.le_refl _⟩ (fun hrv => av_eq (st2 := []) rfl rfl rfl rfl ?_))
            refine av_goto (pc := 168) (tgt := 392) C dX10_does_168 (by decide) ?_
            obtain rfl := am_inj1 hs
            exact av_vret C hr hlocks dX10_does_392
          · rw [if_neg hk4] at hs
            by_cases hk5 : a1 = 5
            · rw [if_pos hk5] at hs
              refine av_swi (pc := 23) (k := 5) (tgt := 171) C dX10_does_23 (by rw [hk5]; rfl) (by decide) rfl (by decide) ?_
              refine av_aload_n (pc := 171) (j := 2) C dX10_does_171 rfl rfl ?_
              obtain ⟨S19, hc20, hs⟩ := am_b1_of hs
              refine av_eq (st2 := [am_R 74]) rfl rfl rfl rfl (av_callV (pc := 172) (as := []) (rest := []) C (ct_X10_awaits l G  S S19 hc20) ym_X10_awaits si_X10_250 im_X10_awaits se_X10_awaits sk_74 rfl ⟨Nat.le_of_ble_eq_true rfl, Nat.le_of_ble_eq_true rfl⟩ rfl rfl (Nat.le_of_ble_eq_true rfl) dX10_does_172 ⟨Nat.le_refl _, Nat.le_refl _⟩ (fun hrv => av_eq (st2 := []) rfl rfl rfl rfl ?_))
              refine av_goto (pc := 175) (tgt := 392) C dX10_does_175 (by decide) ?_
              obtain rfl := am_inj1 hs
              exact av_vret C hr hlocks dX10_does_392
            · rw [if_neg hk5] at hs
              by_cases hk6 : a1 = 6
              · refine av_swi (pc := 23) (k := 6) (tgt := 392) C dX10_does_23 (by rw [hk6]; rfl) (by decide) rfl (by decide) ?_
                rw [if_neg (show ¬ a1 = 8 by omega)] at hs
                rw [if_neg (show ¬ a1 = 9 by omega)] at hs
                rw [if_neg (show ¬ a1 = 10 by omega)] at hs
                rw [if_neg (show ¬ a1 = 11 by omega)] at hs
                rw [if_neg (show ¬ a1 = 12 by omega)] at hs
                rw [if_neg (show ¬ a1 = 13 by omega)] at hs
                rw [if_neg (show ¬ a1 = 14 by omega)] at hs
                exact hdef1 hs
              · skip
                by_cases hk7 : a1 = 7
                · refine av_swi (pc := 23) (k := 7) (tgt := 392) C dX10_does_23 (by rw [hk7]; rfl) (by decide) rfl (by decide) ?_
                  rw [if_neg (show ¬ a1 = 8 by omega)] at hs
                  rw [if_neg (show ¬ a1 = 9 by omega)] at hs
                  rw [if_neg (show ¬ a1 = 10 by omega)] at hs
                  rw [if_neg (show ¬ a1 = 11 by omega)] at hs
                  rw [if_neg (show ¬ a1 = 12 by omega)] at hs
                  rw [if_neg (show ¬ a1 = 13 by omega)] at hs
                  rw [if_neg (show ¬ a1 = 14 by omega)] at hs
                  exact hdef1 hs
                · skip
                  by_cases hk8 : a1 = 8
                  · rw [if_pos hk8] at hs
                    refine av_swi (pc := 23) (k := 8) (tgt := 178) C dX10_does_23 (by rw [hk8]; rfl) (by decide) rfl (by decide) ?_
                    refine av_aload_n (pc := 178) (j := 2) C dX10_does_178 rfl rfl ?_
                    obtain ⟨x22, S21, hc23, hs⟩ := am_b2_of hs
                    refine av_eq (st2 := [am_R 74]) rfl rfl rfl rfl (av_callV (pc := 179) (as := []) (rest := []) C (ct_X10_make l G  S x22 S21 hc23) ym_X10_make si_X10_253 im_X10_make se_X10_make sk_74 rfl ⟨Nat.le_of_ble_eq_true rfl, Nat.le_of_ble_eq_true rfl⟩ rfl rfl (Nat.le_of_ble_eq_true rfl) dX10_does_179 ⟨Nat.le_refl _, Nat.le_refl _⟩ (fun hrv => av_eq (st2 := [am_I x22]) rfl rfl rfl rfl ?_))
                    refine av_istore (pc := 182) (i := 6) (lv2 := [(6, am_I x22), (5, am_I (S.2 119 (Int.toNat (S.1 4788)))), (4, am_I (S.2 118 (Int.toNat (S.1 4788)))), (0, am_R 74), (1, am_I a1), (2, am_I a2), (3, am_I a3)]) C dX10_does_182 (by decide) rfl ?_
                    refine av_iload (pc := 184) (j := 0) C dX10_does_184 rfl ?_
                    refine av_if_ge (pc := 186) (tgt := 192) C dX10_does_186 (by decide) (fun hc => ?_) (fun hc => ?_)
                    · rw [if_pos hc] at hs
                      refine av_aload_n (pc := 192) (j := 3) C dX10_does_192 rfl rfl ?_
                      refine av_iconst (pc := 193) C dX10_does_193 rfl ?_
                      refine av_iload (pc := 194) (j := 0) C dX10_does_194 rfl ?_
                      obtain ⟨S24, hc25, hs⟩ := am_b1_of hs
                      refine av_eq (st2 := [am_I x22, am_I 1, am_R 74]) rfl rfl rfl rfl (av_callV (pc := 196) (as := [am_I 1, am_I x22]) (rest := []) C (ct_X10_put l G 1 x22 S21 S24 hc25) ym_X10_put si_X10_218 im_X10_put se_X10_put sk_74 rfl ⟨Nat.le_of_ble_eq_true rfl, Nat.le_of_ble_eq_true rfl⟩ rfl rfl (Nat.le_of_ble_eq_true rfl) dX10_does_196 ⟨Nat.le_refl _, Nat.le_refl _⟩ (fun hrv => av_eq (st2 := []) rfl rfl rfl rfl ?_))
                      refine av_aload_n (pc := 199) (j := 3) C dX10_does_199 rfl rfl ?_
                      refine av_iload_n (pc := 200) (j := 6) C dX10_does_200 rfl rfl ?_
                      refine av_iconst (pc := 201) C dX10_does_201 rfl ?_
                      refine av_iload (pc := 202) (j := 2) C dX10_does_202 rfl ?_
                      refine av_iload (pc := 204) (j := 1) C dX10_does_204 rfl ?_
                      refine av_iload (pc := 206) (j := 0) C dX10_does_206 rfl ?_
                      obtain ⟨S26, hc27, hs⟩ := am_b1_of hs
                      refine av_eq (st2 := [am_I x22, am_I (S.2 119 (Int.toNat (S.1 4788))), am_I (S.2 118 (Int.toNat (S.1 4788))), am_I 0, am_I a3, am_R 74]) rfl rfl rfl rfl (av_callV (pc := 208) (as := [am_I a3, am_I 0, am_I (S.2 118 (Int.toNat (S.1 4788))), am_I (S.2 119 (Int.toNat (S.1 4788))), am_I x22]) (rest := []) C (ct_X10_begin l G a3 0 (S.2 118 (Int.toNat (S.1 4788))) (S.2 119 (Int.toNat (S.1 4788))) x22 S24 S26 hc27) ym_X10_begin si_X10_256 im_X10_begin se_X10_begin sk_74 rfl ⟨Nat.le_of_ble_eq_true rfl, Nat.le_of_ble_eq_true rfl⟩ rfl rfl (Nat.le_of_ble_eq_true rfl) dX10_does_208 ⟨Nat.le_refl _, Nat.le_refl _⟩ (fun hrv => av_eq (st2 := []) rfl rfl rfl rfl ?_))
                      refine av_goto (pc := 211) (tgt := 392) C dX10_does_211 (by decide) ?_
                      obtain rfl := am_inj1 hs
                      exact av_vret C hr hlocks dX10_does_392
                    · rw [if_neg hc] at hs
                      refine av_goto (pc := 189) (tgt := 392) C dX10_does_189 (by decide) ?_
                      obtain rfl := am_inj1 hs
                      exact av_vret C hr hlocks dX10_does_392
                  · rw [if_neg hk8] at hs
                    by_cases hk9 : a1 = 9
                    · rw [if_pos hk9] at hs
                      refine av_swi (pc := 23) (k := 9) (tgt := 214) C dX10_does_23 (by rw [hk9]; rfl) (by decide) rfl (by decide) ?_
                      refine av_aload_n (pc := 214) (j := 2) C dX10_does_214 rfl rfl ?_
                      refine av_iload_n (pc := 215) (j := 5) C dX10_does_215 rfl rfl ?_
                      obtain ⟨x29, S28, hc30, hs⟩ := am_b2_of hs
                      refine av_eq (st2 := [am_I a3, am_R 74]) rfl rfl rfl rfl (av_callV (pc := 216) (as := [am_I a3]) (rest := []) C (ct_X10_isPromise l G a3 S x29 S28 hc30) ym_X10_isPromise si_X10_175 im_X10_isPromise se_X10_isPromise sk_74 rfl ⟨Nat.le_of_ble_eq_true rfl, Nat.le_of_ble_eq_true rfl⟩ rfl rfl (Nat.le_of_ble_eq_true rfl) dX10_does_216 ⟨Nat.le_refl _, Nat.le_refl _⟩ (fun hrv => av_eq (st2 := [am_I x29]) rfl rfl rfl rfl ?_))
                      refine av_if_ne (pc := 219) (tgt := 232) C dX10_does_219 (by decide) (fun hc => ?_) (fun hc => ?_)
                      · rw [if_neg hc] at hs
                        refine av_aload_n (pc := 232) (j := 2) C dX10_does_232 rfl rfl ?_
                        refine av_iload_n (pc := 233) (j := 5) C dX10_does_233 rfl rfl ?_
                        refine av_iload_n (pc := 234) (j := 3) C dX10_does_234 rfl rfl ?_
                        refine av_bipush (pc := 235) C dX10_does_235 rfl ?_
                        refine av_icmp_ne (pc := 237) (tgt := 244) C dX10_does_237 (by decide) (fun hc => ?_) (fun hc => ?_)
                        · rw [if_neg hc] at hs
                          refine av_iconst (pc := 244) C dX10_does_244 rfl ?_
                          refine av_iload (pc := 245) (j := 1) C dX10_does_245 rfl ?_
                          refine av_iload (pc := 247) (j := 0) C dX10_does_247 rfl ?_
                          refine av_iconst (pc := 249) C dX10_does_249 rfl ?_
                          obtain ⟨S31, hc32, hs⟩ := am_b1_of hs
                          refine av_eq (st2 := [am_I 0, am_I (S.2 119 (Int.toNat (S.1 4788))), am_I (S.2 118 (Int.toNat (S.1 4788))), am_I 0, am_I a3, am_R 74]) rfl rfl rfl rfl (av_callV (pc := 250) (as := [am_I a3, am_I 0, am_I (S.2 118 (Int.toNat (S.1 4788))), am_I (S.2 119 (Int.toNat (S.1 4788))), am_I 0]) (rest := []) C (ct_X10_endBy l G a3 0 (S.2 118 (Int.toNat (S.1 4788))) (S.2 119 (Int.toNat (S.1 4788))) 0 S28 S31 hc32) ym_X10_endBy si_X10_230 im_X10_endBy se_X10_endBy sk_74 rfl ⟨Nat.le_of_ble_eq_true rfl, Nat.le_of_ble_eq_true rfl⟩ rfl rfl (Nat.le_of_ble_eq_true rfl) dX10_does_250 ⟨Nat.le_refl _, Nat.le_refl _⟩ (fun hrv => av_eq (st2 := []) rfl rfl rfl rfl ?_))
                          refine av_goto (pc := 253) (tgt := 392) C dX10_does_253 (by decide) ?_
                          obtain rfl := am_inj1 hs
                          exact av_vret C hr hlocks dX10_does_392
                        · rw [if_pos (Decidable.not_not.mp hc)] at hs
                          refine av_iconst (pc := 240) C dX10_does_240 rfl ?_
                          refine av_goto (pc := 241) (tgt := 245) C dX10_does_241 (by decide) ?_
                          refine av_iload (pc := 245) (j := 1) C dX10_does_245 rfl ?_
                          refine av_iload (pc := 247) (j := 0) C dX10_does_247 rfl ?_
                          refine av_iconst (pc := 249) C dX10_does_249 rfl ?_
                          obtain ⟨S33, hc34, hs⟩ := am_b1_of hs
                          refine av_eq (st2 := [am_I 0, am_I (S.2 119 (Int.toNat (S.1 4788))), am_I (S.2 118 (Int.toNat (S.1 4788))), am_I 1, am_I a3, am_R 74]) rfl rfl rfl rfl (av_callV (pc := 250) (as := [am_I a3, am_I 1, am_I (S.2 118 (Int.toNat (S.1 4788))), am_I (S.2 119 (Int.toNat (S.1 4788))), am_I 0]) (rest := []) C (ct_X10_endBy l G a3 1 (S.2 118 (Int.toNat (S.1 4788))) (S.2 119 (Int.toNat (S.1 4788))) 0 S28 S33 hc34) ym_X10_endBy si_X10_230 im_X10_endBy se_X10_endBy sk_74 rfl ⟨Nat.le_of_ble_eq_true rfl, Nat.le_of_ble_eq_true rfl⟩ rfl rfl (Nat.le_of_ble_eq_true rfl) dX10_does_250 ⟨Nat.le_refl _, Nat.le_refl _⟩ (fun hrv => av_eq (st2 := []) rfl rfl rfl rfl ?_))
                          refine av_goto (pc := 253) (tgt := 392) C dX10_does_253 (by decide) ?_
                          obtain rfl := am_inj1 hs
                          exact av_vret C hr hlocks dX10_does_392
                      · rw [if_pos (Decidable.not_not.mp hc)] at hs
                        refine av_aload_n (pc := 222) (j := 2) C dX10_does_222 rfl rfl ?_
                        refine av_iconst (pc := 223) C dX10_does_223 rfl ?_
                        refine av_bipush (pc := 224) C dX10_does_224 rfl ?_
                        obtain ⟨S35, hc36, hs⟩ := am_b1_of hs
                        refine av_eq (st2 := [am_I (-3), am_I 0, am_R 74]) rfl rfl rfl rfl (av_callV (pc := 226) (as := [am_I 0, am_I (-3)]) (rest := []) C (ct_X10_fling l G 0 (-3) S28 S35 hc36) ym_X10_fling si_X10_244 im_X10_fling se_X10_fling sk_74 rfl ⟨Nat.le_of_ble_eq_true rfl, Nat.le_of_ble_eq_true rfl⟩ rfl rfl (Nat.le_of_ble_eq_true rfl) dX10_does_226 ⟨Nat.le_refl _, Nat.le_refl _⟩ (fun hrv => av_eq (st2 := []) rfl rfl rfl rfl ?_))
                        refine av_goto (pc := 229) (tgt := 392) C dX10_does_229 (by decide) ?_
                        obtain rfl := am_inj1 hs
                        exact av_vret C hr hlocks dX10_does_392
                    · rw [if_neg hk9] at hs
                      by_cases hk10 : a1 = 10
                      · rw [if_pos hk10] at hs
                        refine av_swi (pc := 23) (k := 10) (tgt := 214) C dX10_does_23 (by rw [hk10]; rfl) (by decide) rfl (by decide) ?_
                        refine av_aload_n (pc := 214) (j := 2) C dX10_does_214 rfl rfl ?_
                        refine av_iload_n (pc := 215) (j := 5) C dX10_does_215 rfl rfl ?_
                        obtain ⟨x38, S37, hc39, hs⟩ := am_b2_of hs
                        refine av_eq (st2 := [am_I a3, am_R 74]) rfl rfl rfl rfl (av_callV (pc := 216) (as := [am_I a3]) (rest := []) C (ct_X10_isPromise l G a3 S x38 S37 hc39) ym_X10_isPromise si_X10_175 im_X10_isPromise se_X10_isPromise sk_74 rfl ⟨Nat.le_of_ble_eq_true rfl, Nat.le_of_ble_eq_true rfl⟩ rfl rfl (Nat.le_of_ble_eq_true rfl) dX10_does_216 ⟨Nat.le_refl _, Nat.le_refl _⟩ (fun hrv => av_eq (st2 := [am_I x38]) rfl rfl rfl rfl ?_))
                        refine av_if_ne (pc := 219) (tgt := 232) C dX10_does_219 (by decide) (fun hc => ?_) (fun hc => ?_)
                        · rw [if_neg hc] at hs
                          refine av_aload_n (pc := 232) (j := 2) C dX10_does_232 rfl rfl ?_
                          refine av_iload_n (pc := 233) (j := 5) C dX10_does_233 rfl rfl ?_
                          refine av_iload_n (pc := 234) (j := 3) C dX10_does_234 rfl rfl ?_
                          refine av_bipush (pc := 235) C dX10_does_235 rfl ?_
                          refine av_icmp_ne (pc := 237) (tgt := 244) C dX10_does_237 (by decide) (fun hc => ?_) (fun hc => ?_)
                          · rw [if_neg hc] at hs
                            refine av_iconst (pc := 244) C dX10_does_244 rfl ?_
                            refine av_iload (pc := 245) (j := 1) C dX10_does_245 rfl ?_
                            refine av_iload (pc := 247) (j := 0) C dX10_does_247 rfl ?_
                            refine av_iconst (pc := 249) C dX10_does_249 rfl ?_
                            obtain ⟨S40, hc41, hs⟩ := am_b1_of hs
                            refine av_eq (st2 := [am_I 0, am_I (S.2 119 (Int.toNat (S.1 4788))), am_I (S.2 118 (Int.toNat (S.1 4788))), am_I 0, am_I a3, am_R 74]) rfl rfl rfl rfl (av_callV (pc := 250) (as := [am_I a3, am_I 0, am_I (S.2 118 (Int.toNat (S.1 4788))), am_I (S.2 119 (Int.toNat (S.1 4788))), am_I 0]) (rest := []) C (ct_X10_endBy l G a3 0 (S.2 118 (Int.toNat (S.1 4788))) (S.2 119 (Int.toNat (S.1 4788))) 0 S37 S40 hc41) ym_X10_endBy si_X10_230 im_X10_endBy se_X10_endBy sk_74 rfl ⟨Nat.le_of_ble_eq_true rfl, Nat.le_of_ble_eq_true rfl⟩ rfl rfl (Nat.le_of_ble_eq_true rfl) dX10_does_250 ⟨Nat.le_refl _, Nat.le_refl _⟩ (fun hrv => av_eq (st2 := []) rfl rfl rfl rfl ?_))
                            refine av_goto (pc := 253) (tgt := 392) C dX10_does_253 (by decide) ?_
                            obtain rfl := am_inj1 hs
                            exact av_vret C hr hlocks dX10_does_392
                          · rw [if_pos (Decidable.not_not.mp hc)] at hs
                            refine av_iconst (pc := 240) C dX10_does_240 rfl ?_
                            refine av_goto (pc := 241) (tgt := 245) C dX10_does_241 (by decide) ?_
                            refine av_iload (pc := 245) (j := 1) C dX10_does_245 rfl ?_
                            refine av_iload (pc := 247) (j := 0) C dX10_does_247 rfl ?_
                            refine av_iconst (pc := 249) C dX10_does_249 rfl ?_
                            obtain ⟨S42, hc43, hs⟩ := am_b1_of hs
                            refine av_eq (st2 := [am_I 0, am_I (S.2 119 (Int.toNat (S.1 4788))), am_I (S.2 118 (Int.toNat (S.1 4788))), am_I 1, am_I a3, am_R 74]) rfl rfl rfl rfl (av_callV (pc := 250) (as := [am_I a3, am_I 1, am_I (S.2 118 (Int.toNat (S.1 4788))), am_I (S.2 119 (Int.toNat (S.1 4788))), am_I 0]) (rest := []) C (ct_X10_endBy l G a3 1 (S.2 118 (Int.toNat (S.1 4788))) (S.2 119 (Int.toNat (S.1 4788))) 0 S37 S42 hc43) ym_X10_endBy si_X10_230 im_X10_endBy se_X10_endBy sk_74 rfl ⟨Nat.le_of_ble_eq_true rfl, Nat.le_of_ble_eq_true rfl⟩ rfl rfl (Nat.le_of_ble_eq_true rfl) dX10_does_250 ⟨Nat.le_refl _, Nat.le_refl _⟩ (fun hrv => av_eq (st2 := []) rfl rfl rfl rfl ?_))
                            refine av_goto (pc := 253) (tgt := 392) C dX10_does_253 (by decide) ?_
                            obtain rfl := am_inj1 hs
                            exact av_vret C hr hlocks dX10_does_392
                        · rw [if_pos (Decidable.not_not.mp hc)] at hs
                          refine av_aload_n (pc := 222) (j := 2) C dX10_does_222 rfl rfl ?_
                          refine av_iconst (pc := 223) C dX10_does_223 rfl ?_
                          refine av_bipush (pc := 224) C dX10_does_224 rfl ?_
                          obtain ⟨S44, hc45, hs⟩ := am_b1_of hs
                          refine av_eq (st2 := [am_I (-3), am_I 0, am_R 74]) rfl rfl rfl rfl (av_callV (pc := 226) (as := [am_I 0, am_I (-3)]) (rest := []) C (ct_X10_fling l G 0 (-3) S37 S44 hc45) ym_X10_fling si_X10_244 im_X10_fling se_X10_fling sk_74 rfl ⟨Nat.le_of_ble_eq_true rfl, Nat.le_of_ble_eq_true rfl⟩ rfl rfl (Nat.le_of_ble_eq_true rfl) dX10_does_226 ⟨Nat.le_refl _, Nat.le_refl _⟩ (fun hrv => av_eq (st2 := []) rfl rfl rfl rfl ?_))
                          refine av_goto (pc := 229) (tgt := 392) C dX10_does_229 (by decide) ?_
                          obtain rfl := am_inj1 hs
                          exact av_vret C hr hlocks dX10_does_392
                      · rw [if_neg hk10] at hs
                        by_cases hk11 : a1 = 11
                        · rw [if_pos hk11] at hs
                          refine av_swi (pc := 23) (k := 11) (tgt := 256) C dX10_does_23 (by rw [hk11]; rfl) (by decide) rfl (by decide) ?_
                          refine av_iload (pc := 256) (j := 1) C dX10_does_256 rfl ?_
                          refine av_iconst (pc := 258) C dX10_does_258 rfl ?_
                          refine av_icmp_eq (pc := 259) (tgt := 272) C dX10_does_259 (by decide) (fun hc => ?_) (fun hc => ?_)
                          · rw [if_pos hc] at hs
                            refine av_aload_n (pc := 272) (j := 2) C dX10_does_272 rfl rfl ?_
                            obtain ⟨x47, S46, hc48, hs⟩ := am_b2_of hs
                            refine av_eq (st2 := [am_R 74]) rfl rfl rfl rfl (av_callV (pc := 273) (as := []) (rest := []) C (ct_X10_make l G  S x47 S46 hc48) ym_X10_make si_X10_253 im_X10_make se_X10_make sk_74 rfl ⟨Nat.le_of_ble_eq_true rfl, Nat.le_of_ble_eq_true rfl⟩ rfl rfl (Nat.le_of_ble_eq_true rfl) dX10_does_273 ⟨Nat.le_refl _, Nat.le_refl _⟩ (fun hrv => av_eq (st2 := [am_I x47]) rfl rfl rfl rfl ?_))
                            refine av_istore (pc := 276) (i := 7) (lv2 := [(7, am_I x47), (5, am_I (S.2 119 (Int.toNat (S.1 4788)))), (4, am_I (S.2 118 (Int.toNat (S.1 4788)))), (0, am_R 74), (1, am_I a1), (2, am_I a2), (3, am_I a3)]) C dX10_does_276 (by decide) rfl ?_
                            refine av_iload (pc := 278) (j := 0) C dX10_does_278 rfl ?_
                            refine av_if_ge (pc := 280) (tgt := 286) C dX10_does_280 (by decide) (fun hc => ?_) (fun hc => ?_)
                            · rw [if_pos hc] at hs
                              refine av_aload_n (pc := 286) (j := 3) C dX10_does_286 rfl rfl ?_
                              refine av_iload (pc := 287) (j := 1) C dX10_does_287 rfl ?_
                              refine av_iconst (pc := 289) C dX10_does_289 rfl ?_
                              refine av_iload_n (pc := 290) (j := 6) C dX10_does_290 rfl rfl ?_
                              refine av_iconst (pc := 291) C dX10_does_291 rfl ?_
                              refine av_iload (pc := 292) (j := 0) C dX10_does_292 rfl ?_
                              obtain ⟨S49, hc50, hs⟩ := am_b1_of hs
                              refine av_eq (st2 := [am_I x47, am_I (-1), am_I a3, am_I 1, am_I (S.2 119 (Int.toNat (S.1 4788))), am_R 74]) rfl rfl rfl rfl (av_callV (pc := 294) (as := [am_I (S.2 119 (Int.toNat (S.1 4788))), am_I 1, am_I a3, am_I (-1), am_I x47]) (rest := []) C (ct_X10_waitFor l G (S.2 119 (Int.toNat (S.1 4788))) 1 a3 (-1) x47 S46 S49 hc50) ym_X10_waitFor si_X10_211 im_X10_waitFor se_X10_waitFor sk_74 rfl ⟨Nat.le_of_ble_eq_true rfl, Nat.le_of_ble_eq_true rfl⟩ rfl rfl (Nat.le_of_ble_eq_true rfl) dX10_does_294 ⟨Nat.le_refl _, Nat.le_refl _⟩ (fun hrv => av_eq (st2 := []) rfl rfl rfl rfl ?_))
                              refine av_aload_n (pc := 297) (j := 3) C dX10_does_297 rfl rfl ?_
                              refine av_iconst (pc := 298) C dX10_does_298 rfl ?_
                              refine av_iload (pc := 299) (j := 0) C dX10_does_299 rfl ?_
                              obtain ⟨S51, hc52, hs⟩ := am_b1_of hs
                              refine av_eq (st2 := [am_I x47, am_I 1, am_R 74]) rfl rfl rfl rfl (av_callV (pc := 301) (as := [am_I 1, am_I x47]) (rest := []) C (ct_X10_put l G 1 x47 S49 S51 hc52) ym_X10_put si_X10_218 im_X10_put se_X10_put sk_74 rfl ⟨Nat.le_of_ble_eq_true rfl, Nat.le_of_ble_eq_true rfl⟩ rfl rfl (Nat.le_of_ble_eq_true rfl) dX10_does_301 ⟨Nat.le_refl _, Nat.le_refl _⟩ (fun hrv => av_eq (st2 := []) rfl rfl rfl rfl ?_))
                              refine av_goto (pc := 304) (tgt := 392) C dX10_does_304 (by decide) ?_
                              obtain rfl := am_inj1 hs
                              exact av_vret C hr hlocks dX10_does_392
                            · rw [if_neg hc] at hs
                              refine av_goto (pc := 283) (tgt := 392) C dX10_does_283 (by decide) ?_
                              obtain rfl := am_inj1 hs
                              exact av_vret C hr hlocks dX10_does_392
                          · rw [if_neg hc] at hs
                            refine av_aload_n (pc := 262) (j := 2) C dX10_does_262 rfl rfl ?_
                            refine av_iconst (pc := 263) C dX10_does_263 rfl ?_
                            refine av_bipush (pc := 264) C dX10_does_264 rfl ?_
                            obtain ⟨S53, hc54, hs⟩ := am_b1_of hs
                            refine av_eq (st2 := [am_I (-3), am_I 0, am_R 74]) rfl rfl rfl rfl (av_callV (pc := 266) (as := [am_I 0, am_I (-3)]) (rest := []) C (ct_X10_fling l G 0 (-3) S S53 hc54) ym_X10_fling si_X10_244 im_X10_fling se_X10_fling sk_74 rfl ⟨Nat.le_of_ble_eq_true rfl, Nat.le_of_ble_eq_true rfl⟩ rfl rfl (Nat.le_of_ble_eq_true rfl) dX10_does_266 ⟨Nat.le_refl _, Nat.le_refl _⟩ (fun hrv => av_eq (st2 := []) rfl rfl rfl rfl ?_))
                            refine av_goto (pc := 269) (tgt := 392) C dX10_does_269 (by decide) ?_
                            obtain rfl := am_inj1 hs
                            exact av_vret C hr hlocks dX10_does_392
                        · rw [if_neg hk11] at hs
                          by_cases hk12 : a1 = 12
                          · rw [if_pos hk12] at hs
                            refine av_swi (pc := 23) (k := 12) (tgt := 307) C dX10_does_23 (by rw [hk12]; rfl) (by decide) rfl (by decide) ?_
                            refine av_aload_n (pc := 307) (j := 2) C dX10_does_307 rfl rfl ?_
                            refine av_iload_n (pc := 308) (j := 5) C dX10_does_308 rfl rfl ?_
                            refine av_iload (pc := 309) (j := 1) C dX10_does_309 rfl ?_
                            refine av_iload (pc := 311) (j := 0) C dX10_does_311 rfl ?_
                            refine av_iconst (pc := 313) C dX10_does_313 rfl ?_
                            obtain ⟨x56, S55, hc57, hs⟩ := am_b2_of hs
                            refine av_eq (st2 := [am_I 5, am_I (S.2 119 (Int.toNat (S.1 4788))), am_I (S.2 118 (Int.toNat (S.1 4788))), am_I a3, am_R 74]) rfl rfl rfl rfl (av_callV (pc := 314) (as := [am_I a3, am_I (S.2 118 (Int.toNat (S.1 4788))), am_I (S.2 119 (Int.toNat (S.1 4788))), am_I 5]) (rest := []) C (ct_X10_task l G a3 (S.2 118 (Int.toNat (S.1 4788))) (S.2 119 (Int.toNat (S.1 4788))) 5 S x56 S55 hc57) ym_X10_task si_X10_259 im_X10_task se_X10_task sk_74 rfl ⟨Nat.le_of_ble_eq_true rfl, Nat.le_of_ble_eq_true rfl⟩ rfl rfl (Nat.le_of_ble_eq_true rfl) dX10_does_314 ⟨Nat.le_refl _, Nat.le_refl _⟩ (fun hrv => av_eq (st2 := [am_I x56]) rfl rfl rfl rfl ?_))
                            refine av_istore (pc := 317) (i := 8) (lv2 := [(8, am_I x56), (5, am_I (S.2 119 (Int.toNat (S.1 4788)))), (4, am_I (S.2 118 (Int.toNat (S.1 4788)))), (0, am_R 74), (1, am_I a1), (2, am_I a2), (3, am_I a3)]) C dX10_does_317 (by decide) rfl ?_
                            refine av_iload (pc := 319) (j := 0) C dX10_does_319 rfl ?_
                            refine av_if_ne (pc := 321) (tgt := 392) C dX10_does_321 (by decide) (fun hc => ?_) (fun hc => ?_)
                            · rw [if_neg hc] at hs
                              obtain rfl := am_inj1 hs
                              exact av_vret C hr hlocks dX10_does_392
                            · rw [if_pos (Decidable.not_not.mp hc)] at hs
                              refine av_aload_n (pc := 324) (j := 3) C dX10_does_324 rfl rfl ?_
                              refine av_iconst (pc := 325) C dX10_does_325 rfl ?_
                              refine av_bipush (pc := 326) C dX10_does_326 rfl ?_
                              obtain ⟨S58, hc59, hs⟩ := am_b1_of hs
                              refine av_eq (st2 := [am_I (-4), am_I 0, am_R 74]) rfl rfl rfl rfl (av_callV (pc := 328) (as := [am_I 0, am_I (-4)]) (rest := []) C (ct_X10_fling l G 0 (-4) S55 S58 hc59) ym_X10_fling si_X10_244 im_X10_fling se_X10_fling sk_74 rfl ⟨Nat.le_of_ble_eq_true rfl, Nat.le_of_ble_eq_true rfl⟩ rfl rfl (Nat.le_of_ble_eq_true rfl) dX10_does_328 ⟨Nat.le_refl _, Nat.le_refl _⟩ (fun hrv => av_eq (st2 := []) rfl rfl rfl rfl ?_))
                              refine av_goto (pc := 331) (tgt := 392) C dX10_does_331 (by decide) ?_
                              obtain rfl := am_inj1 hs
                              exact av_vret C hr hlocks dX10_does_392
                          · rw [if_neg hk12] at hs
                            by_cases hk13 : a1 = 13
                            · rw [if_pos hk13] at hs
                              refine av_swi (pc := 23) (k := 13) (tgt := 334) C dX10_does_23 (by rw [hk13]; rfl) (by decide) rfl (by decide) ?_
                              refine av_iload (pc := 334) (j := 1) C dX10_does_334 rfl ?_
                              refine av_if_ne (pc := 336) (tgt := 392) C dX10_does_336 (by decide) (fun hc => ?_) (fun hc => ?_)
                              · rw [if_neg hc] at hs
                                obtain rfl := am_inj1 hs
                                exact av_vret C hr hlocks dX10_does_392
                              · rw [if_pos (Decidable.not_not.mp hc)] at hs
                                refine av_iload (pc := 339) (j := 0) C dX10_does_339 rfl ?_
                                refine av_if_ne (pc := 341) (tgt := 392) C dX10_does_341 (by decide) (fun hc => ?_) (fun hc => ?_)
                                · rw [if_neg hc] at hs
                                  obtain rfl := am_inj1 hs
                                  exact av_vret C hr hlocks dX10_does_392
                                · rw [if_pos (Decidable.not_not.mp hc)] at hs
                                  refine av_aload_n (pc := 344) (j := 2) C dX10_does_344 rfl rfl ?_
                                  refine av_getR (pc := 345) (k := 48) (r := 117) C fl_X10_137 sk_74 rfl dX10_does_345 ?_
                                  refine av_aload_n (pc := 348) (j := 2) C dX10_does_348 rfl rfl ?_
                                  refine av_getI (pc := 349) (k := 52) (n := 4788) C fl_X10_215 sk_74 rfl rfl dX10_does_349 ?_
                                  refine av_iload_n (pc := 352) (j := 5) C dX10_does_352 rfl rfl ?_
                                  obtain ⟨hb, hs⟩ := am_gd_of hs
                                  obtain ⟨S60, eS60, hs⟩ := am_let_of hs
                                  refine av_iast (pc := 353) C sk_117 hb dX10_does_353 ?_
                                  refine av_eq rfl rfl rfl eS60 ?_
                                  refine av_goto (pc := 354) (tgt := 392) C dX10_does_354 (by decide) ?_
                                  obtain rfl := am_inj1 hs
                                  exact av_vret C hr hlocks dX10_does_392
                            · rw [if_neg hk13] at hs
                              by_cases hk14 : a1 = 14
                              · rw [if_pos hk14] at hs
                                refine av_swi (pc := 23) (k := 14) (tgt := 357) C dX10_does_23 (by rw [hk14]; rfl) (by decide) rfl (by decide) ?_
                                refine av_iload (pc := 357) (j := 1) C dX10_does_357 rfl ?_
                                refine av_if_ne (pc := 359) (tgt := 392) C dX10_does_359 (by decide) (fun hc => ?_) (fun hc => ?_)
                                · rw [if_neg hc] at hs
                                  obtain rfl := am_inj1 hs
                                  exact av_vret C hr hlocks dX10_does_392
                                · rw [if_pos (Decidable.not_not.mp hc)] at hs
                                  refine av_iload (pc := 362) (j := 0) C dX10_does_362 rfl ?_
                                  refine av_if_gt (pc := 364) (tgt := 370) C dX10_does_364 (by decide) (fun hc => ?_) (fun hc => ?_)
                                  · rw [if_pos hc] at hs
                                    refine av_aload_n (pc := 370) (j := 2) C dX10_does_370 rfl rfl ?_
                                    refine av_iconst (pc := 371) C dX10_does_371 rfl ?_
                                    refine av_iload (pc := 372) (j := 0) C dX10_does_372 rfl ?_
                                    refine av_iconst (pc := 374) C dX10_does_374 rfl ?_
                                    refine av_isub (pc := 375) C dX10_does_375 ?_
                                    obtain ⟨S61, hc62, hs⟩ := am_b1_of hs
                                    refine av_eq (st2 := [am_I (am_w32 ((S.2 119 (Int.toNat (S.1 4788))) - 1)), am_I 0, am_R 74]) rfl rfl rfl rfl (av_callV (pc := 376) (as := [am_I 0, am_I (am_w32 ((S.2 119 (Int.toNat (S.1 4788))) - 1))]) (rest := []) C (ct_X10_put l G 0 (am_w32 ((S.2 119 (Int.toNat (S.1 4788))) - 1)) S S61 hc62) ym_X10_put si_X10_218 im_X10_put se_X10_put sk_74 rfl ⟨Nat.le_of_ble_eq_true rfl, Nat.le_of_ble_eq_true rfl⟩ rfl rfl (Nat.le_of_ble_eq_true rfl) dX10_does_376 ⟨Nat.le_refl _, Nat.le_refl _⟩ (fun hrv => av_eq (st2 := []) rfl rfl rfl rfl ?_))
                                    refine av_aload_n (pc := 379) (j := 2) C dX10_does_379 rfl rfl ?_
                                    refine av_getR (pc := 380) (k := 48) (r := 117) C fl_X10_137 sk_74 rfl dX10_does_380 ?_
                                    refine av_aload_n (pc := 383) (j := 2) C dX10_does_383 rfl rfl ?_
                                    refine av_getI (pc := 384) (k := 52) (n := 4788) C fl_X10_215 sk_74 rfl rfl dX10_does_384 ?_
                                    refine av_iload_n (pc := 387) (j := 5) C dX10_does_387 rfl rfl ?_
                                    obtain ⟨hb, hs⟩ := am_gd_of hs
                                    obtain ⟨S63, eS63, hs⟩ := am_let_of hs
                                    refine av_iast (pc := 388) C sk_117 hb dX10_does_388 ?_
                                    refine av_eq rfl rfl rfl eS63 ?_
                                    refine av_goto (pc := 389) (tgt := 392) C dX10_does_389 (by decide) ?_
                                    obtain rfl := am_inj1 hs
                                    exact av_vret C hr hlocks dX10_does_392
                                  · rw [if_neg hc] at hs
                                    refine av_goto (pc := 367) (tgt := 392) C dX10_does_367 (by decide) ?_
                                    obtain rfl := am_inj1 hs
                                    exact av_vret C hr hlocks dX10_does_392
                              · rw [if_neg hk14] at hs
                                refine av_swo (pc := 23) (tgt := 392) C dX10_does_23 (by omega) (by decide) ?_
                                exact hdef1 hs
