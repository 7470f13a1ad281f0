set_option maxHeartbeats 4000000 in
set_option maxRecDepth 100000 in
theorem ct_X10_done (l : Launch) (G : am_G) (a1 : Int) (a2 : Int) (a3 : Int) (S : am_S) (SZ : am_S) (hs : sf_X10_done a1 a2 a3 S = some SZ) : am_met l yX10_done cX10_done 4 none 9 223 G [am_R 74, am_I a1, am_I a2, am_I a3] S none SZ := by
  refine am_enter ym_X10_done (Nat.le_of_ble_eq_true rfl) ?_
  intro p e s m args below meth c C hr hlocks
  refine av_eq (lv2 := [(0, am_R 74), (1, am_I a1), (2, am_I a2), (3, am_I a3)]) rfl rfl rfl rfl ?_
  unfold sf_X10_done at hs
  refine av_aload_n (pc := 0) (j := 0) C dX10_done_0 rfl rfl ?_
  refine av_iload_n (pc := 1) (j := 1) C dX10_done_1 rfl rfl ?_
  refine av_iconst (pc := 2) C dX10_done_2 rfl ?_
  refine av_iload_n (pc := 3) (j := 2) C dX10_done_3 rfl rfl ?_
  refine av_iload_n (pc := 4) (j := 3) C dX10_done_4 rfl rfl ?_
  refine av_iconst (pc := 5) C dX10_done_5 rfl ?_
  obtain ⟨S1, hc2, hs⟩ := am_b1_of hs
  refine av_eq (st2 := [am_I (-1), am_I a3, am_I a2, am_I 0, am_I a1, am_R 74]) rfl rfl rfl rfl (av_callV (pc := 6) (as := [am_I a1, am_I 0, am_I a2, am_I a3, am_I (-1)]) (rest := []) C (ct_X10_begin l G a1 0 a2 a3 (-1) S S1 hc2) ym_X10_begin si_X10_256 im_X10_begin se_X10_begin sk_74 rfl ⟨Nat.le_of_ble_eq_true rfl, Nat.le_of_ble_eq_true rfl⟩ rfl rfl (Nat.le_of_ble_eq_true rfl) dX10_done_6 ⟨Nat.le_refl _, Nat.le_refl _⟩ (fun hrv => av_eq (st2 := []) rfl rfl rfl rfl ?_))
  refine av_aload_n (pc := 9) (j := 0) C dX10_done_9 rfl rfl ?_
  obtain ⟨S3, hc4, hs⟩ := am_b1_of hs
  refine av_eq (st2 := [am_R 74]) rfl rfl rfl rfl (av_callV (pc := 10) (as := []) (rest := []) C (ct_X10_go l G  S1 S3 hc4) ym_X10_go si_X10_270 im_X10_go se_X10_go sk_74 rfl ⟨Nat.le_of_ble_eq_true rfl, Nat.le_of_ble_eq_true rfl⟩ rfl rfl (Nat.le_of_ble_eq_true rfl) dX10_done_10 ⟨Nat.le_refl _, Nat.le_refl _⟩ (fun hrv => av_eq (st2 := []) rfl rfl rfl rfl ?_))
  obtain rfl := am_inj1 hs
  exact av_vret C hr hlocks dX10_done_13
set_option maxHeartbeats 4000000 in
set_option maxRecDepth 100000 in
theorem wk_X10_job_200 {p : Program} {l : Launch} {e : Env} {s : State} {m : MethodId} {args : Array Value} {below : List Frame} {meth : Method} {c : Code} {G : am_G} (C : am_C p s m args c cX10_job 10 RX10 G) (hr : meth.sig.returnType = none) (hlocks : meth.locks = false) (b1 : Int) (b4 : Int) (b5 : Int) (b6 : Int) (t0 : Int) (S : am_S) (SZ : am_S) (hs : sf_X10_job_200 b1 b4 b5 b6 t0 S = some SZ) : am_V p l e (am_rm 10 246) s m args below meth c (MQ below (am_Q G none SZ) args s 0 0 (am_A G)) G (am_A G) s.heap 10 0 0 200 [(0, am_R 74), (1, am_I b1), (4, am_I b4), (5, am_I b5), (6, am_I b6)] [am_I t0] S := by
  unfold sf_X10_job_200 at hs
  refine av_istore (pc := 200) (i := 8) (lv2 := [(8, am_I t0), (0, am_R 74), (1, am_I b1), (4, am_I b4), (5, am_I b5), (6, am_I b6)]) C dX10_job_200 (by decide) rfl ?_
  refine av_aload_n (pc := 202) (j := 1) C dX10_job_202 rfl rfl ?_
  refine av_getR (pc := 203) (k := 15) (r := 89) C fl_X10_53 sk_74 rfl dX10_job_203 ?_
  refine av_iload_n (pc := 206) (j := 2) C dX10_job_206 rfl rfl ?_
  obtain ⟨hb, hs⟩ := am_gd_of hs
  refine av_iald (pc := 207) C sk_89 hb dX10_job_207 ?_
  refine av_istore (pc := 208) (i := 9) (lv2 := [(9, am_I (S.2 89 (Int.toNat b1))), (8, am_I t0), (0, am_R 74), (1, am_I b1), (4, am_I b4), (5, am_I b5), (6, am_I b6)]) C dX10_job_208 (by decide) rfl ?_
  refine av_iload (pc := 210) (j := 1) C dX10_job_210 rfl ?_
  refine av_if_ge (pc := 212) (tgt := 231) C dX10_job_212 (by decide) (fun hc => ?_) (fun hc => ?_)
  · rw [if_pos hc] at hs
    refine av_aload_n (pc := 231) (j := 2) C dX10_job_231 rfl rfl ?_
    refine av_iload (pc := 232) (j := 1) C dX10_job_232 rfl ?_
    refine av_iload (pc := 234) (j := 4) C dX10_job_234 rfl ?_
    refine av_iload (pc := 236) (j := 5) C dX10_job_236 rfl ?_
    obtain ⟨S18, hc19, hs⟩ := am_b1_of hs
    refine av_eq (st2 := [am_I b5, am_I b4, am_I t0, am_R 74]) rfl rfl rfl rfl (av_callV (pc := 238) (as := [am_I t0, am_I b4, am_I b5]) (rest := []) C (ct_X10_done l G t0 b4 b5 S S18 hc19) ym_X10_done si_X10_282 im_X10_done se_X10_done sk_74 rfl ⟨Nat.le_of_ble_eq_true rfl, Nat.le_of_ble_eq_true rfl⟩ rfl rfl (Nat.le_of_ble_eq_true rfl) dX10_job_238 ⟨Nat.le_refl _, Nat.le_refl _⟩ (fun hrv => av_eq (st2 := []) rfl rfl rfl rfl ?_))
    refine av_aload_n (pc := 241) (j := 2) C dX10_job_241 rfl rfl ?_
    refine av_iload (pc := 242) (j := 0) C dX10_job_242 rfl ?_
    refine av_aload_n (pc := 244) (j := 2) C dX10_job_244 rfl rfl ?_
    refine av_getI (pc := 245) (k := 56) (n := 4792) C fl_X10_234 sk_74 rfl rfl dX10_job_245 ?_
    refine av_aload_n (pc := 248) (j := 2) C dX10_job_248 rfl rfl ?_
    refine av_getI (pc := 249) (k := 54) (n := 4790) C fl_X10_238 sk_74 rfl rfl dX10_job_249 ?_
    refine av_aload_n (pc := 252) (j := 2) C dX10_job_252 rfl rfl ?_
    refine av_getI (pc := 253) (k := 55) (n := 4791) C fl_X10_241 sk_74 rfl rfl dX10_job_253 ?_
    refine av_iconst (pc := 256) C dX10_job_256 rfl ?_
    obtain ⟨S20, hc21, hs⟩ := am_b1_of hs
    refine av_eq (st2 := [am_I 0, am_I (S18.1 4791), am_I (S18.1 4790), am_I (S18.1 4792), am_I (S.2 89 (Int.toNat b1)), am_R 74]) rfl rfl rfl rfl (av_callV (pc := 257) (as := [am_I (S.2 89 (Int.toNat b1)), am_I (S18.1 4792), am_I (S18.1 4790), am_I (S18.1 4791), am_I 0]) (rest := []) C (ct_X10_endBy l G (S.2 89 (Int.toNat b1)) (S18.1 4792) (S18.1 4790) (S18.1 4791) 0 S18 S20 hc21) ym_X10_endBy si_X10_230 im_X10_endBy se_X10_endBy sk_74 rfl ⟨Nat.le_of_ble_eq_true rfl, Nat.le_of_ble_eq_true rfl⟩ rfl rfl (Nat.le_of_ble_eq_true rfl) dX10_job_257 ⟨Nat.le_refl _, Nat.le_refl _⟩ (fun hrv => av_eq (st2 := []) rfl rfl rfl rfl ?_))
    obtain rfl := am_inj1 hs
    exact av_vret C hr hlocks dX10_job_260
  · rw [if_neg hc] at hs
    refine av_aload_n (pc := 215) (j := 2) C dX10_job_215 rfl rfl ?_
    refine av_iload (pc := 216) (j := 0) C dX10_job_216 rfl ?_
    refine av_iload (pc := 218) (j := 6) C dX10_job_218 rfl ?_
    refine av_iload (pc := 220) (j := 4) C dX10_job_220 rfl ?_
    refine av_iload (pc := 222) (j := 5) C dX10_job_222 rfl ?_
    refine av_iconst (pc := 224) C dX10_job_224 rfl ?_
    obtain ⟨S22, hc23, hs⟩ := am_b1_of hs
    refine av_eq (st2 := [am_I 0, am_I b5, am_I b4, am_I b6, am_I (S.2 89 (Int.toNat b1)), am_R 74]) rfl rfl rfl rfl (av_callV (pc := 225) (as := [am_I (S.2 89 (Int.toNat b1)), am_I b6, am_I b4, am_I b5, am_I 0]) (rest := []) C (ct_X10_endBy l G (S.2 89 (Int.toNat b1)) b6 b4 b5 0 S S22 hc23) ym_X10_endBy si_X10_230 im_X10_endBy se_X10_endBy sk_74 rfl ⟨Nat.le_of_ble_eq_true rfl, Nat.le_of_ble_eq_true rfl⟩ rfl rfl (Nat.le_of_ble_eq_true rfl) dX10_job_225 ⟨Nat.le_refl _, Nat.le_refl _⟩ (fun hrv => av_eq (st2 := []) rfl rfl rfl rfl ?_))
    refine av_goto (pc := 228) (tgt := 260) C dX10_job_228 (by decide) ?_
    obtain rfl := am_inj1 hs
    exact av_vret C hr hlocks dX10_job_260
set_option maxHeartbeats 4000000 in
set_option maxRecDepth 100000 in
theorem wk_X10_job_45 {p : Program} {l : Launch} {e : Env} {s : State} {m : MethodId} {args : Array Value} {below : List Frame} {meth : Method} {c : Code} {G : am_G} (C : am_C p s m args c cX10_job 10 RX10 G) (hr : meth.sig.returnType = none) (hlocks : meth.locks = false) (b1 : Int) (b2 : Int) (b3 : Int) (b4 : Int) (b5 : Int) (t0 : Int) (S : am_S) (SZ : am_S) (hs : sf_X10_job_45 b1 b2 b3 b4 b5 t0 S = some SZ) : am_V p l e (am_rm 10 246) s m args below meth c (MQ below (am_Q G none SZ) args s 0 0 (am_A G)) G (am_A G) s.heap 10 0 0 45 [(0, am_R 74), (1, am_I b1), (2, am_I b2), (3, am_I b3), (4, am_I b4), (5, am_I b5)] [am_I t0] S := by
  unfold sf_X10_job_45 at hs
  refine av_istore (pc := 45) (i := 6) (lv2 := [(6, am_I t0), (0, am_R 74), (1, am_I b1), (2, am_I b2), (3, am_I b3), (4, am_I b4), (5, am_I b5)]) C dX10_job_45 (by decide) rfl ?_
  refine av_aload_n (pc := 47) (j := 1) C dX10_job_47 rfl rfl ?_
  refine av_getR (pc := 48) (k := 10) (r := 84) C fl_X10_38 sk_74 rfl dX10_job_48 ?_
  refine av_iload_n (pc := 51) (j := 2) C dX10_job_51 rfl rfl ?_
  obtain ⟨hb, hs⟩ := am_gd_of hs
  refine av_iald (pc := 52) C sk_84 hb dX10_job_52 ?_
  refine av_istore (pc := 53) (i := 7) (lv2 := [(7, am_I (S.2 84 (Int.toNat b1))), (6, am_I t0), (0, am_R 74), (1, am_I b1), (2, am_I b2), (3, am_I b3), (4, am_I b4), (5, am_I b5)]) C dX10_job_53 (by decide) rfl ?_
  refine av_aload_n (pc := 55) (j := 2) C dX10_job_55 rfl rfl ?_
  refine av_getR (pc := 56) (k := 10) (r := 84) C fl_X10_38 sk_74 rfl dX10_job_56 ?_
  refine av_iload_n (pc := 59) (j := 3) C dX10_job_59 rfl rfl ?_
  refine av_iconst (pc := 60) C dX10_job_60 rfl ?_
  obtain ⟨hb, hs⟩ := am_gd_of hs
  obtain ⟨S1, eS1, hs⟩ := am_let_of hs
  refine av_iast (pc := 61) C sk_84 hb dX10_job_61 ?_
  refine av_eq rfl rfl rfl eS1 ?_
  refine av_iload (pc := 62) (j := 0) C dX10_job_62 rfl ?_
  have hdef2 : (hs : (if t0 = 0 then (sf_X10_job_200 b1 b4 b5 t0 b2 S1) else (sf_X10_job_200 b1 b4 b5 t0 b3 S1)) = some SZ) → am_V p l e (am_rm 10 246) s m args below meth c (MQ below (am_Q G none SZ) args s 0 0 (am_A G)) G (am_A G) s.heap 10 0 0 190 [(7, am_I (S.2 84 (Int.toNat b1))), (6, am_I t0), (0, am_R 74), (1, am_I b1), (2, am_I b2), (3, am_I b3), (4, am_I b4), (5, am_I b5)] [] S1 := by
    intro hs
    refine av_iload (pc := 190) (j := 1) C dX10_job_190 rfl ?_
    refine av_if_eq (pc := 192) (tgt := 199) C dX10_job_192 (by decide) (fun hc => ?_) (fun hc => ?_)
    · rw [if_pos hc] at hs
      refine av_iload_n (pc := 199) (j := 4) C dX10_job_199 rfl rfl ?_
      refine av_lvsub (lv2 := [(0, am_R 74), (1, am_I b1), (4, am_I b4), (5, am_I b5), (6, am_I t0)]) [2, 3, 6, 7, 1] rfl ?_
      exact wk_X10_job_200 C hr hlocks b1 b4 b5 t0 b2 S1 SZ hs
    · rw [if_neg hc] at hs
      refine av_iload_n (pc := 195) (j := 5) C dX10_job_195 rfl rfl ?_
      refine av_goto (pc := 196) (tgt := 200) C dX10_job_196 (by decide) ?_
      refine av_lvsub (lv2 := [(0, am_R 74), (1, am_I b1), (4, am_I b4), (5, am_I b5), (6, am_I t0)]) [2, 3, 6, 7, 1] rfl ?_
      exact wk_X10_job_200 C hr hlocks b1 b4 b5 t0 b3 S1 SZ hs
  by_cases hk0 : (S.2 84 (Int.toNat b1)) = 2
  · rw [if_pos hk0] at hs
    refine av_swi (pc := 64) (k := 0) (tgt := 108) C dX10_job_64 (by rw [hk0]; rfl) (by decide) rfl (by decide) ?_
    refine av_aload_n (pc := 108) (j := 2) C dX10_job_108 rfl rfl ?_
    refine av_iload_n (pc := 109) (j := 4) C dX10_job_109 rfl rfl ?_
    refine av_iload (pc := 110) (j := 1) C dX10_job_110 rfl ?_
    refine av_iload (pc := 112) (j := 6) C dX10_job_112 rfl ?_
    refine av_iload (pc := 114) (j := 7) C dX10_job_114 rfl ?_
    refine av_iload_n (pc := 116) (j := 5) C dX10_job_116 rfl rfl ?_
    obtain ⟨S3, hc4, hs⟩ := am_b1_of hs
    refine av_eq (st2 := [am_I b3, am_I b5, am_I b4, am_I t0, am_I b2, am_R 74]) rfl rfl rfl rfl (av_callV (pc := 117) (as := [am_I b2, am_I t0, am_I b4, am_I b5, am_I b3]) (rest := []) C (ct_X10_endBy l G b2 t0 b4 b5 b3 S1 S3 hc4) ym_X10_endBy si_X10_230 im_X10_endBy se_X10_endBy sk_74 rfl ⟨Nat.le_of_ble_eq_true rfl, Nat.le_of_ble_eq_true rfl⟩ rfl rfl (Nat.le_of_ble_eq_true rfl) dX10_job_117 ⟨Nat.le_refl _, Nat.le_refl _⟩ (fun hrv => av_eq (st2 := []) rfl rfl rfl rfl ?_))
    refine av_goto (pc := 120) (tgt := 260) C dX10_job_120 (by decide) ?_
    obtain rfl := am_inj1 hs
    exact av_vret C hr hlocks dX10_job_260
  · rw [if_neg hk0] at hs
    by_cases hk1 : (S.2 84 (Int.toNat b1)) = 3
    · rw [if_pos hk1] at hs
      refine av_swi (pc := 64) (k := 1) (tgt := 123) C dX10_job_64 (by rw [hk1]; rfl) (by decide) rfl (by decide) ?_
      refine av_aload_n (pc := 123) (j := 2) C dX10_job_123 rfl rfl ?_
      refine av_iload_n (pc := 124) (j := 4) C dX10_job_124 rfl rfl ?_
      refine av_iload_n (pc := 125) (j := 5) C dX10_job_125 rfl rfl ?_
      refine av_aload_n (pc := 126) (j := 2) C dX10_job_126 rfl rfl ?_
      refine av_getR (pc := 127) (k := 16) (r := 90) C fl_X10_56 sk_74 rfl dX10_job_127 ?_
      refine av_iload_n (pc := 130) (j := 3) C dX10_job_130 rfl rfl ?_
      obtain ⟨hb, hs⟩ := am_gd_of hs
      refine av_iald (pc := 131) C sk_90 hb dX10_job_131 ?_
      refine av_iload (pc := 132) (j := 6) C dX10_job_132 rfl ?_
      refine av_iload (pc := 134) (j := 7) C dX10_job_134 rfl ?_
      obtain ⟨S5, hc6, hs⟩ := am_b1_of hs
      refine av_eq (st2 := [am_I b5, am_I b4, am_I (S1.2 90 (Int.toNat b1)), am_I b3, am_I b2, am_R 74]) rfl rfl rfl rfl (av_callV (pc := 136) (as := [am_I b2, am_I b3, am_I (S1.2 90 (Int.toNat b1)), am_I b4, am_I b5]) (rest := []) C (ct_X10_placed l G b2 b3 (S1.2 90 (Int.toNat b1)) b4 b5 S1 S5 hc6) ym_X10_placed si_X10_279 im_X10_placed se_X10_placed sk_74 rfl ⟨Nat.le_of_ble_eq_true rfl, Nat.le_of_ble_eq_true rfl⟩ rfl rfl (Nat.le_of_ble_eq_true rfl) dX10_job_136 ⟨Nat.le_refl _, Nat.le_refl _⟩ (fun hrv => av_eq (st2 := []) rfl rfl rfl rfl ?_))
      refine av_goto (pc := 139) (tgt := 260) C dX10_job_139 (by decide) ?_
      obtain rfl := am_inj1 hs
      exact av_vret C hr hlocks dX10_job_260
    · rw [if_neg hk1] at hs
      by_cases hk2 : (S.2 84 (Int.toNat b1)) = 4
      · rw [if_pos hk2] at hs
        refine av_swi (pc := 64) (k := 2) (tgt := 142) C dX10_job_64 (by rw [hk2]; rfl) (by decide) rfl (by decide) ?_
        refine av_aload_n (pc := 142) (j := 2) C dX10_job_142 rfl rfl ?_
        refine av_getR (pc := 143) (k := 8) (r := 83) C fl_X10_35 sk_74 rfl dX10_job_143 ?_
        refine av_iload_n (pc := 146) (j := 4) C dX10_job_146 rfl rfl ?_
        refine av_iconst (pc := 147) C dX10_job_147 rfl ?_
        obtain ⟨hb, hs⟩ := am_gd_of hs
        obtain ⟨S7, eS7, hs⟩ := am_let_of hs
        refine av_zast (pc := 148) C sk_83 hb (by decide) dX10_job_148 ?_
        refine av_eq rfl rfl rfl eS7 ?_
        refine av_aload_n (pc := 149) (j := 2) C dX10_job_149 rfl rfl ?_
        refine av_aload_n (pc := 150) (j := 2) C dX10_job_150 rfl rfl ?_
        refine av_getR (pc := 151) (k := 4) (r := 79) C fl_X10_22 sk_74 rfl dX10_job_151 ?_
        refine av_iload_n (pc := 154) (j := 4) C dX10_job_154 rfl rfl ?_
        obtain ⟨hb, hs⟩ := am_gd_of hs
        refine av_iald (pc := 155) C sk_79 hb dX10_job_155 ?_
        refine av_aload_n (pc := 156) (j := 2) C dX10_job_156 rfl rfl ?_
        refine av_getR (pc := 157) (k := 5) (r := 80) C fl_X10_25 sk_74 rfl dX10_job_157 ?_
        refine av_iload_n (pc := 160) (j := 4) C dX10_job_160 rfl rfl ?_
        obtain ⟨hb, hs⟩ := am_gd_of hs
        refine av_iald (pc := 161) C sk_80 hb dX10_job_161 ?_
        refine av_iload (pc := 162) (j := 6) C dX10_job_162 rfl ?_
        refine av_iload (pc := 164) (j := 7) C dX10_job_164 rfl ?_
        refine av_iload_n (pc := 166) (j := 4) C dX10_job_166 rfl rfl ?_
        obtain ⟨S8, hc9, hs⟩ := am_b1_of hs
        refine av_eq (st2 := [am_I b2, am_I b5, am_I b4, am_I (S7.2 80 (Int.toNat b2)), am_I (S7.2 79 (Int.toNat b2)), am_R 74]) rfl rfl rfl rfl (av_callV (pc := 167) (as := [am_I (S7.2 79 (Int.toNat b2)), am_I (S7.2 80 (Int.toNat b2)), am_I b4, am_I b5, am_I b2]) (rest := []) C (ct_X10_begin l G (S7.2 79 (Int.toNat b2)) (S7.2 80 (Int.toNat b2)) b4 b5 b2 S7 S8 hc9) ym_X10_begin si_X10_256 im_X10_begin se_X10_begin sk_74 rfl ⟨Nat.le_of_ble_eq_true rfl, Nat.le_of_ble_eq_true rfl⟩ rfl rfl (Nat.le_of_ble_eq_true rfl) dX10_job_167 ⟨Nat.le_refl _, Nat.le_refl _⟩ (fun hrv => av_eq (st2 := []) rfl rfl rfl rfl ?_))
        refine av_iload (pc := 170) (j := 1) C dX10_job_170 rfl ?_
        refine av_if_eq (pc := 172) (tgt := 183) C dX10_job_172 (by decide) (fun hc => ?_) (fun hc => ?_)
        · rw [if_pos hc] at hs
          refine av_aload_n (pc := 183) (j := 2) C dX10_job_183 rfl rfl ?_
          obtain ⟨S10, hc11, hs⟩ := am_b1_of hs
          refine av_eq (st2 := [am_R 74]) rfl rfl rfl rfl (av_callV (pc := 184) (as := []) (rest := []) C (ct_X10_go l G  S8 S10 hc11) ym_X10_go si_X10_270 im_X10_go se_X10_go sk_74 rfl ⟨Nat.le_of_ble_eq_true rfl, Nat.le_of_ble_eq_true rfl⟩ rfl rfl (Nat.le_of_ble_eq_true rfl) dX10_job_184 ⟨Nat.le_refl _, Nat.le_refl _⟩ (fun hrv => av_eq (st2 := []) rfl rfl rfl rfl ?_))
          refine av_goto (pc := 187) (tgt := 260) C dX10_job_187 (by decide) ?_
          obtain rfl := am_inj1 hs
          exact av_vret C hr hlocks dX10_job_260
        · rw [if_neg hc] at hs
          refine av_aload_n (pc := 175) (j := 2) C dX10_job_175 rfl rfl ?_
          refine av_iload (pc := 176) (j := 6) C dX10_job_176 rfl ?_
          refine av_iload (pc := 178) (j := 7) C dX10_job_178 rfl ?_
          obtain ⟨S12, hc13, hs⟩ := am_b1_of hs
          refine av_eq (st2 := [am_I b5, am_I b4, am_R 74]) rfl rfl rfl rfl (av_callV (pc := 180) (as := [am_I b4, am_I b5]) (rest := []) C (ct_X10_fling l G b4 b5 S8 S12 hc13) ym_X10_fling si_X10_244 im_X10_fling se_X10_fling sk_74 rfl ⟨Nat.le_of_ble_eq_true rfl, Nat.le_of_ble_eq_true rfl⟩ rfl rfl (Nat.le_of_ble_eq_true rfl) dX10_job_180 ⟨Nat.le_refl _, Nat.le_refl _⟩ (fun hrv => av_eq (st2 := []) rfl rfl rfl rfl ?_))
          refine av_aload_n (pc := 183) (j := 2) C dX10_job_183 rfl rfl ?_
          obtain ⟨S14, hc15, hs⟩ := am_b1_of hs
          refine av_eq (st2 := [am_R 74]) rfl rfl rfl rfl (av_callV (pc := 184) (as := []) (rest := []) C (ct_X10_go l G  S12 S14 hc15) ym_X10_go si_X10_270 im_X10_go se_X10_go sk_74 rfl ⟨Nat.le_of_ble_eq_true rfl, Nat.le_of_ble_eq_true rfl⟩ rfl rfl (Nat.le_of_ble_eq_true rfl) dX10_job_184 ⟨Nat.le_refl _, Nat.le_refl _⟩ (fun hrv => av_eq (st2 := []) rfl rfl rfl rfl ?_))
          refine av_goto (pc := 187) (tgt := 260) C dX10_job_187 (by decide) ?_
          obtain rfl := am_inj1 hs
          exact av_vret C hr hlocks dX10_job_260
      · rw [if_neg hk2] at hs
        by_cases hk3 : (S.2 84 (Int.toNat b1)) = 5
        · rw [if_pos hk3] at hs
          refine av_swi (pc := 64) (k := 3) (tgt := 96) C dX10_job_64 (by rw [hk3]; rfl) (by decide) rfl (by decide) ?_
          refine av_aload_n (pc := 96) (j := 2) C dX10_job_96 rfl rfl ?_
          refine av_iload_n (pc := 97) (j := 4) C dX10_job_97 rfl rfl ?_
          refine av_iload (pc := 98) (j := 6) C dX10_job_98 rfl ?_
          refine av_iload (pc := 100) (j := 7) C dX10_job_100 rfl ?_
          obtain ⟨S16, hc17, hs⟩ := am_b1_of hs
          refine av_eq (st2 := [am_I b5, am_I b4, am_I b2, am_R 74]) rfl rfl rfl rfl (av_callV (pc := 102) (as := [am_I b2, am_I b4, am_I b5]) (rest := []) C (ct_X10_adopt l G b2 b4 b5 S1 S16 hc17) ym_X10_adopt si_X10_276 im_X10_adopt se_X10_adopt sk_74 rfl ⟨Nat.le_of_ble_eq_true rfl, Nat.le_of_ble_eq_true rfl⟩ rfl rfl (Nat.le_of_ble_eq_true rfl) dX10_job_102 ⟨Nat.le_refl _, Nat.le_refl _⟩ (fun hrv => av_eq (st2 := []) rfl rfl rfl rfl ?_))
          refine av_goto (pc := 105) (tgt := 260) C dX10_job_105 (by decide) ?_
          obtain rfl := am_inj1 hs
          exact av_vret C hr hlocks dX10_job_260
        · rw [if_neg hk3] at hs
          refine av_swo (pc := 64) (tgt := 190) C dX10_job_64 (by omega) (by decide) ?_
          exact hdef2 hs
set_option maxHeartbeats 4000000 in
set_option maxRecDepth 100000 in
theorem ct_X10_job (l : Launch) (G : am_G) (a1 : Int) (S : am_S) (SZ : am_S) (hs : sf_X10_job a1 S = some SZ) : am_met l yX10_job cX10_job 10 none 10 246 G [am_R 74, am_I a1] S none SZ := by
  refine am_enter ym_X10_job (Nat.le_of_ble_eq_true rfl) ?_
  intro p e s m args below meth c C hr hlocks
  refine av_eq (lv2 := [(0, am_R 74), (1, am_I a1)]) rfl rfl rfl rfl ?_
  unfold sf_X10_job at hs
  refine av_aload_n (pc := 0) (j := 0) C dX10_job_0 rfl rfl ?_
  refine av_getR (pc := 1) (k := 13) (r := 87) C fl_X10_47 sk_74 rfl dX10_job_1 ?_
  refine av_iload_n (pc := 4) (j := 1) C dX10_job_4 rfl rfl ?_
  obtain ⟨hb, hs⟩ := am_gd_of hs
  refine av_iald (pc := 5) C sk_87 hb dX10_job_5 ?_
  refine av_istore_n (pc := 6) (i := 2) (lv2 := [(2, am_I (S.2 87 (Int.toNat a1))), (0, am_R 74), (1, am_I a1)]) C dX10_job_6 rfl (by decide) rfl ?_
  refine av_aload_n (pc := 7) (j := 1) C dX10_job_7 rfl rfl ?_
  refine av_getR (pc := 8) (k := 14) (r := 88) C fl_X10_50 sk_74 rfl dX10_job_8 ?_
  refine av_iload_n (pc := 11) (j := 2) C dX10_job_11 rfl rfl ?_
  obtain ⟨hb, hs⟩ := am_gd_of hs
  refine av_iald (pc := 12) C sk_88 hb dX10_job_12 ?_
  refine av_istore_n (pc := 13) (i := 3) (lv2 := [(3, am_I (S.2 88 (Int.toNat a1))), (2, am_I (S.2 87 (Int.toNat a1))), (0, am_R 74), (1, am_I a1)]) C dX10_job_13 rfl (by decide) rfl ?_
  refine av_aload_n (pc := 14) (j := 2) C dX10_job_14 rfl rfl ?_
  refine av_getR (pc := 15) (k := 17) (r := 91) C fl_X10_59 sk_74 rfl dX10_job_15 ?_
  refine av_iload_n (pc := 18) (j := 3) C dX10_job_18 rfl rfl ?_
  obtain ⟨hb, hs⟩ := am_gd_of hs
  refine av_iald (pc := 19) C sk_91 hb dX10_job_19 ?_
  refine av_istore (pc := 20) (i := 4) (lv2 := [(4, am_I (S.2 91 (Int.toNat a1))), (3, am_I (S.2 88 (Int.toNat a1))), (2, am_I (S.2 87 (Int.toNat a1))), (0, am_R 74), (1, am_I a1)]) C dX10_job_20 (by decide) rfl ?_
  refine av_aload_n (pc := 22) (j := 3) C dX10_job_22 rfl rfl ?_
  refine av_getR (pc := 23) (k := 18) (r := 92) C fl_X10_62 sk_74 rfl dX10_job_23 ?_
  refine av_iload_n (pc := 26) (j := 4) C dX10_job_26 rfl rfl ?_
  obtain ⟨hb, hs⟩ := am_gd_of hs
  refine av_iald (pc := 27) C sk_92 hb dX10_job_27 ?_
  refine av_istore (pc := 28) (i := 5) (lv2 := [(5, am_I (S.2 92 (Int.toNat a1))), (4, am_I (S.2 91 (Int.toNat a1))), (3, am_I (S.2 88 (Int.toNat a1))), (2, am_I (S.2 87 (Int.toNat a1))), (0, am_R 74), (1, am_I a1)]) C dX10_job_28 (by decide) rfl ?_
  refine av_aload_n (pc := 30) (j := 4) C dX10_job_30 rfl rfl ?_
  refine av_getR (pc := 31) (k := 16) (r := 90) C fl_X10_56 sk_74 rfl dX10_job_31 ?_
  refine av_iload_n (pc := 34) (j := 5) C dX10_job_34 rfl rfl ?_
  obtain ⟨hb, hs⟩ := am_gd_of hs
  refine av_iald (pc := 35) C sk_90 hb dX10_job_35 ?_
  refine av_iconst (pc := 36) C dX10_job_36 rfl ?_
  refine av_icmp_ne (pc := 37) (tgt := 44) C dX10_job_37 (by decide) (fun hc => ?_) (fun hc => ?_)
  · rw [if_neg hc] at hs
    refine av_iconst (pc := 44) C dX10_job_44 rfl ?_
    refine av_lvsub (lv2 := [(0, am_R 74), (1, am_I a1), (2, am_I (S.2 87 (Int.toNat a1))), (3, am_I (S.2 88 (Int.toNat a1))), (4, am_I (S.2 91 (Int.toNat a1))), (5, am_I (S.2 92 (Int.toNat a1)))]) [4, 5, 3, 2, 1, 0] rfl ?_
    exact wk_X10_job_45 C hr hlocks a1 (S.2 87 (Int.toNat a1)) (S.2 88 (Int.toNat a1)) (S.2 91 (Int.toNat a1)) (S.2 92 (Int.toNat a1)) 0 S SZ hs
  · rw [if_pos (Decidable.not_not.mp hc)] at hs
    refine av_iconst (pc := 40) C dX10_job_40 rfl ?_
    refine av_goto (pc := 41) (tgt := 45) C dX10_job_41 (by decide) ?_
    refine av_lvsub (lv2 := [(0, am_R 74), (1, am_I a1), (2, am_I (S.2 87 (Int.toNat a1))), (3, am_I (S.2 88 (Int.toNat a1))), (4, am_I (S.2 91 (Int.toNat a1))), (5, am_I (S.2 92 (Int.toNat a1)))]) [4, 5, 3, 2, 1, 0] rfl ?_
    exact wk_X10_job_45 C hr hlocks a1 (S.2 87 (Int.toNat a1)) (S.2 88 (Int.toNat a1)) (S.2 91 (Int.toNat a1)) (S.2 92 (Int.toNat a1)) 1 S SZ hs
set_option maxHeartbeats 4000000 in
set_option maxRecDepth 100000 in
theorem wk_X10_turn_155 {p : Program} {l : Launch} {e : Env} {s : State} {m : MethodId} {args : Array Value} {below : List Frame} {meth : Method} {c : Code} {G : am_G} (C : am_C p s m args c cX10_turn 4 RX10 G) (hr : meth.sig.returnType = (some .boolean)) (hlocks : meth.locks = false) (b2 : Int) (S : am_S) (x : Int) (SZ : am_S) (hs : sf_X10_turn_155 b2 S = some (x, SZ)) : am_V p l e (am_rm 11 275) s m args below meth c (MQ below (am_Q G (some (am_I x)) SZ) args s 0 0 (am_A G)) G (am_A G) s.heap 4 0 0 155 [(0, am_R 74), (2, am_I b2)] [] S := by
  unfold sf_X10_turn_155 at hs
  refine av_aload_n (pc := 155) (j := 0) C dX10_turn_155 rfl rfl ?_
  refine av_getR (pc := 156) (k := 36) (r := 108) C fl_X10_110 sk_74 rfl dX10_turn_156 ?_
  refine av_iload_n (pc := 159) (j := 1) C dX10_turn_159 rfl rfl ?_
  refine av_iconst (pc := 160) C dX10_turn_160 rfl ?_
  obtain ⟨hb, hs⟩ := am_gd_of hs
  obtain ⟨S11, eS11, hs⟩ := am_let_of hs
  refine av_iast (pc := 161) C sk_108 hb dX10_turn_161 ?_
  refine av_eq rfl rfl rfl eS11 ?_
  refine av_aload_n (pc := 162) (j := 0) C dX10_turn_162 rfl rfl ?_
  refine av_aload_n (pc := 163) (j := 0) C dX10_turn_163 rfl rfl ?_
  refine av_getR (pc := 164) (k := 38) (r := 110) C fl_X10_116 sk_74 rfl dX10_turn_164 ?_
  refine av_iload_n (pc := 167) (j := 1) C dX10_turn_167 rfl rfl ?_
  obtain ⟨hb, hs⟩ := am_gd_of hs
  refine av_iald (pc := 168) C sk_110 hb dX10_turn_168 ?_
  refine av_aload_n (pc := 169) (j := 0) C dX10_turn_169 rfl rfl ?_
  refine av_getR (pc := 170) (k := 39) (r := 111) C fl_X10_119 sk_74 rfl dX10_turn_170 ?_
  refine av_iload_n (pc := 173) (j := 1) C dX10_turn_173 rfl rfl ?_
  obtain ⟨hb, hs⟩ := am_gd_of hs
  refine av_iald (pc := 174) C sk_111 hb dX10_turn_174 ?_
  refine av_aload_n (pc := 175) (j := 0) C dX10_turn_175 rfl rfl ?_
  refine av_getR (pc := 176) (k := 40) (r := 112) C fl_X10_122 sk_74 rfl dX10_turn_176 ?_
  refine av_iload_n (pc := 179) (j := 1) C dX10_turn_179 rfl rfl ?_
  obtain ⟨hb, hs⟩ := am_gd_of hs
  refine av_iald (pc := 180) C sk_112 hb dX10_turn_180 ?_
  obtain ⟨S12, hc13, hs⟩ := am_b1_of hs
  refine av_eq (st2 := [am_I (S11.2 112 (Int.toNat b2)), am_I (S11.2 111 (Int.toNat b2)), am_I (S11.2 110 (Int.toNat b2)), am_R 74]) rfl rfl rfl rfl (av_callV (pc := 181) (as := [am_I (S11.2 110 (Int.toNat b2)), am_I (S11.2 111 (Int.toNat b2)), am_I (S11.2 112 (Int.toNat b2))]) (rest := []) C (ct_X10_done l G (S11.2 110 (Int.toNat b2)) (S11.2 111 (Int.toNat b2)) (S11.2 112 (Int.toNat b2)) S11 S12 hc13) ym_X10_done si_X10_282 im_X10_done se_X10_done sk_74 rfl ⟨Nat.le_of_ble_eq_true rfl, Nat.le_of_ble_eq_true rfl⟩ rfl rfl (Nat.le_of_ble_eq_true rfl) dX10_turn_181 ⟨Nat.le_refl _, Nat.le_refl _⟩ (fun hrv => av_eq (st2 := []) rfl rfl rfl rfl ?_))
  refine av_iconst (pc := 184) C dX10_turn_184 rfl ?_
  obtain ⟨rfl, rfl⟩ := am_inj2 hs
  exact av_zret C (by decide) hr hlocks dX10_turn_185
set_option maxHeartbeats 4000000 in
set_option maxRecDepth 100000 in
theorem wk_X10_turn_41 {p : Program} {l : Launch} {e : Env} {s : State} {m : MethodId} {args : Array Value} {below : List Frame} {meth : Method} {c : Code} {G : am_G} (C : am_C p s m args c cX10_turn 4 RX10 G) (hr : meth.sig.returnType = (some .boolean)) (hlocks : meth.locks = false) : ∀ (fu : Nat) (b2 : Int) (b3 : Int) (S : am_S) (x : Int) (SZ : am_S), sf_X10_turn_41 fu b2 b3 S = some (x, SZ) → am_V p l e (am_rm 11 275) s m args below meth c (MQ below (am_Q G (some (am_I x)) SZ) args s 0 0 (am_A G)) G (am_A G) s.heap 4 0 0 41 [(0, am_R 74), (2, am_I b2), (3, am_I b3)] [] S := by
  intro fu
  induction fu with
  | zero => intro b2 b3 S x SZ hs; cases hs
  | succ fu ih =>
    intro b2 b3 S x SZ hs
    unfold sf_X10_turn_41 at hs
    refine av_iload_n (pc := 41) (j := 2) C dX10_turn_41 rfl rfl ?_
    refine av_bipush (pc := 42) C dX10_turn_42 rfl ?_
    refine av_icmp_ge (pc := 44) (tgt := 116) C dX10_turn_44 (by decide) (fun hc => ?_) (fun hc => ?_)
    · rw [if_pos hc] at hs
      refine av_iload_n (pc := 116) (j := 1) C dX10_turn_116 rfl rfl ?_
      refine av_if_ge (pc := 117) (tgt := 122) C dX10_turn_117 (by decide) (fun hc => ?_) (fun hc => ?_)
      · rw [if_pos hc] at hs
        refine av_aload_n (pc := 122) (j := 0) C dX10_turn_122 rfl rfl ?_
        refine av_dup (pc := 123) C dX10_turn_123 rfl ?_
        refine av_getI (pc := 124) (k := 42) (n := 4778) C fl_X10_165 sk_74 rfl rfl dX10_turn_124 ?_
        refine av_iconst (pc := 127) C dX10_turn_127 rfl ?_
        refine av_iadd (pc := 128) C dX10_turn_128 ?_
        obtain ⟨S9, eS9, hs⟩ := am_let_of hs
        refine av_putI (pc := 129) (k := 42) (n := 4778) C fp_X10_165 sk_74 rfl rfl dX10_turn_129 ?_
        refine av_eq rfl rfl rfl eS9 ?_
        refine av_aload_n (pc := 132) (j := 0) C dX10_turn_132 rfl rfl ?_
        refine av_getR (pc := 133) (k := 36) (r := 108) C fl_X10_110 sk_74 rfl dX10_turn_133 ?_
        refine av_iload_n (pc := 136) (j := 1) C dX10_turn_136 rfl rfl ?_
        obtain ⟨hb, hs⟩ := am_gd_of hs
        refine av_iald (pc := 137) C sk_108 hb dX10_turn_137 ?_
        refine av_aload_n (pc := 138) (j := 0) C dX10_turn_138 rfl rfl ?_
        refine av_getI (pc := 139) (k := 41) (n := 4777) C fl_X10_162 sk_74 rfl rfl dX10_turn_139 ?_
        refine av_icmp_le (pc := 142) (tgt := 155) C dX10_turn_142 (by decide) (fun hc => ?_) (fun hc => ?_)
        · rw [if_pos hc] at hs
          refine av_lvsub (lv2 := [(0, am_R 74), (2, am_I b2)]) [0, 1] rfl ?_
          exact wk_X10_turn_155 C hr hlocks b2 S9 x SZ hs
        · rw [if_neg hc] at hs
          refine av_aload_n (pc := 145) (j := 0) C dX10_turn_145 rfl rfl ?_
          refine av_aload_n (pc := 146) (j := 0) C dX10_turn_146 rfl rfl ?_
          refine av_getR (pc := 147) (k := 36) (r := 108) C fl_X10_110 sk_74 rfl dX10_turn_147 ?_
          refine av_iload_n (pc := 150) (j := 1) C dX10_turn_150 rfl rfl ?_
          obtain ⟨hb, hs⟩ := am_gd_of hs
          refine av_iald (pc := 151) C sk_108 hb dX10_turn_151 ?_
          obtain ⟨S10, eS10, hs⟩ := am_let_of hs
          refine av_putI (pc := 152) (k := 41) (n := 4777) C fp_X10_162 sk_74 rfl rfl dX10_turn_152 ?_
          refine av_eq rfl rfl rfl eS10 ?_
          refine av_lvsub (lv2 := [(0, am_R 74), (2, am_I b2)]) [0, 1] rfl ?_
          exact wk_X10_turn_155 C hr hlocks b2 S10 x SZ hs
      · rw [if_neg hc] at hs
        refine av_iconst (pc := 120) C dX10_turn_120 rfl ?_
        obtain ⟨rfl, rfl⟩ := am_inj2 hs
        exact av_zret C (by decide) hr hlocks dX10_turn_121
    · rw [if_neg hc] at hs
      refine av_aload_n (pc := 47) (j := 0) C dX10_turn_47 rfl rfl ?_
      refine av_getR (pc := 48) (k := 36) (r := 108) C fl_X10_110 sk_74 rfl dX10_turn_48 ?_
      refine av_iload_n (pc := 51) (j := 2) C dX10_turn_51 rfl rfl ?_
      obtain ⟨hb, hs⟩ := am_gd_of hs
      refine av_iald (pc := 52) C sk_108 hb dX10_turn_52 ?_
      refine av_if_ge (pc := 53) (tgt := 59) C dX10_turn_53 (by decide) (fun hc => ?_) (fun hc => ?_)
      · rw [if_pos hc] at hs
        refine av_iload_n (pc := 59) (j := 1) C dX10_turn_59 rfl rfl ?_
        refine av_if_lt (pc := 60) (tgt := 108) C dX10_turn_60 (by decide) (fun hc => ?_) (fun hc => ?_)
        · rw [if_pos hc] at hs
          refine av_iload_n (pc := 108) (j := 2) C dX10_turn_108 rfl rfl ?_
          refine av_istore_n (pc := 109) (i := 2) (lv2 := [(2, am_I b3), (0, am_R 74), (3, am_I b3)]) C dX10_turn_109 rfl (by decide) rfl ?_
          refine av_iinc (pc := 110) (j := 2) (lv2 := [(3, am_I (am_w32 (b3 + 1))), (2, am_I b3), (0, am_R 74)]) C dX10_turn_110 rfl (by decide) rfl ?_
          refine av_goto (pc := 113) (tgt := 41) C dX10_turn_113 (by decide) ?_
          refine av_lvsub (lv2 := [(0, am_R 74), (2, am_I b3), (3, am_I (am_w32 (b3 + 1)))]) [2, 1, 0] rfl ?_
          exact ih b3 (am_w32 (b3 + 1)) S x SZ hs
        · rw [if_neg hc] at hs
          refine av_aload_n (pc := 63) (j := 0) C dX10_turn_63 rfl rfl ?_
          refine av_getR (pc := 64) (k := 36) (r := 108) C fl_X10_110 sk_74 rfl dX10_turn_64 ?_
          refine av_iload_n (pc := 67) (j := 2) C dX10_turn_67 rfl rfl ?_
          obtain ⟨hb, hs⟩ := am_gd_of hs
          refine av_iald (pc := 68) C sk_108 hb dX10_turn_68 ?_
          refine av_aload_n (pc := 69) (j := 0) C dX10_turn_69 rfl rfl ?_
          refine av_getR (pc := 70) (k := 36) (r := 108) C fl_X10_110 sk_74 rfl dX10_turn_70 ?_
          refine av_iload_n (pc := 73) (j := 1) C dX10_turn_73 rfl rfl ?_
          obtain ⟨hb, hs⟩ := am_gd_of hs
          refine av_iald (pc := 74) C sk_108 hb dX10_turn_74 ?_
          refine av_icmp_lt (pc := 75) (tgt := 108) C dX10_turn_75 (by decide) (fun hc => ?_) (fun hc => ?_)
          · rw [if_pos hc] at hs
            refine av_iload_n (pc := 108) (j := 2) C dX10_turn_108 rfl rfl ?_
            refine av_istore_n (pc := 109) (i := 2) (lv2 := [(2, am_I b3), (0, am_R 74), (3, am_I b3)]) C dX10_turn_109 rfl (by decide) rfl ?_
            refine av_iinc (pc := 110) (j := 2) (lv2 := [(3, am_I (am_w32 (b3 + 1))), (2, am_I b3), (0, am_R 74)]) C dX10_turn_110 rfl (by decide) rfl ?_
            refine av_goto (pc := 113) (tgt := 41) C dX10_turn_113 (by decide) ?_
            refine av_lvsub (lv2 := [(0, am_R 74), (2, am_I b3), (3, am_I (am_w32 (b3 + 1)))]) [2, 1, 0] rfl ?_
            exact ih b3 (am_w32 (b3 + 1)) S x SZ hs
          · rw [if_neg hc] at hs
            refine av_aload_n (pc := 78) (j := 0) C dX10_turn_78 rfl rfl ?_
            refine av_getR (pc := 79) (k := 36) (r := 108) C fl_X10_110 sk_74 rfl dX10_turn_79 ?_
            refine av_iload_n (pc := 82) (j := 2) C dX10_turn_82 rfl rfl ?_
            obtain ⟨hb, hs⟩ := am_gd_of hs
            refine av_iald (pc := 83) C sk_108 hb dX10_turn_83 ?_
            refine av_aload_n (pc := 84) (j := 0) C dX10_turn_84 rfl rfl ?_
            refine av_getR (pc := 85) (k := 36) (r := 108) C fl_X10_110 sk_74 rfl dX10_turn_85 ?_
            refine av_iload_n (pc := 88) (j := 1) C dX10_turn_88 rfl rfl ?_
            obtain ⟨hb, hs⟩ := am_gd_of hs
            refine av_iald (pc := 89) C sk_108 hb dX10_turn_89 ?_
            refine av_icmp_ne (pc := 90) (tgt := 110) C dX10_turn_90 (by decide) (fun hc => ?_) (fun hc => ?_)
            · rw [if_neg hc] at hs
              refine av_iinc (pc := 110) (j := 2) (lv2 := [(3, am_I (am_w32 (b3 + 1))), (0, am_R 74), (2, am_I b2)]) C dX10_turn_110 rfl (by decide) rfl ?_
              refine av_goto (pc := 113) (tgt := 41) C dX10_turn_113 (by decide) ?_
              refine av_lvsub (lv2 := [(0, am_R 74), (2, am_I b2), (3, am_I (am_w32 (b3 + 1)))]) [1, 2, 0] rfl ?_
              exact ih b2 (am_w32 (b3 + 1)) S x SZ hs
            · rw [if_pos (Decidable.not_not.mp hc)] at hs
              refine av_aload_n (pc := 93) (j := 0) C dX10_turn_93 rfl rfl ?_
              refine av_getR (pc := 94) (k := 37) (r := 109) C fl_X10_113 sk_74 rfl dX10_turn_94 ?_
              refine av_iload_n (pc := 97) (j := 2) C dX10_turn_97 rfl rfl ?_
              obtain ⟨hb, hs⟩ := am_gd_of hs
              refine av_iald (pc := 98) C sk_109 hb dX10_turn_98 ?_
              refine av_aload_n (pc := 99) (j := 0) C dX10_turn_99 rfl rfl ?_
              refine av_getR (pc := 100) (k := 37) (r := 109) C fl_X10_113 sk_74 rfl dX10_turn_100 ?_
              refine av_iload_n (pc := 103) (j := 1) C dX10_turn_103 rfl rfl ?_
              obtain ⟨hb, hs⟩ := am_gd_of hs
              refine av_iald (pc := 104) C sk_109 hb dX10_turn_104 ?_
              refine av_icmp_ge (pc := 105) (tgt := 110) C dX10_turn_105 (by decide) (fun hc => ?_) (fun hc => ?_)
              · rw [if_pos hc] at hs
                refine av_iinc (pc := 110) (j := 2) (lv2 := [(3, am_I (am_w32 (b3 + 1))), (0, am_R 74), (2, am_I b2)]) C dX10_turn_110 rfl (by decide) rfl ?_
                refine av_goto (pc := 113) (tgt := 41) C dX10_turn_113 (by decide) ?_
                refine av_lvsub (lv2 := [(0, am_R 74), (2, am_I b2), (3, am_I (am_w32 (b3 + 1)))]) [1, 2, 0] rfl ?_
                exact ih b2 (am_w32 (b3 + 1)) S x SZ hs
              · rw [if_neg hc] at hs
                refine av_iload_n (pc := 108) (j := 2) C dX10_turn_108 rfl rfl ?_
                refine av_istore_n (pc := 109) (i := 2) (lv2 := [(2, am_I b3), (0, am_R 74), (3, am_I b3)]) C dX10_turn_109 rfl (by decide) rfl ?_
                refine av_iinc (pc := 110) (j := 2) (lv2 := [(3, am_I (am_w32 (b3 + 1))), (2, am_I b3), (0, am_R 74)]) C dX10_turn_110 rfl (by decide) rfl ?_
                refine av_goto (pc := 113) (tgt := 41) C dX10_turn_113 (by decide) ?_
                refine av_lvsub (lv2 := [(0, am_R 74), (2, am_I b3), (3, am_I (am_w32 (b3 + 1)))]) [2, 1, 0] rfl ?_
                exact ih b3 (am_w32 (b3 + 1)) S x SZ hs
      · rw [if_neg hc] at hs
        refine av_goto (pc := 56) (tgt := 110) C dX10_turn_56 (by decide) ?_
        refine av_iinc (pc := 110) (j := 2) (lv2 := [(3, am_I (am_w32 (b3 + 1))), (0, am_R 74), (2, am_I b2)]) C dX10_turn_110 rfl (by decide) rfl ?_
        refine av_goto (pc := 113) (tgt := 41) C dX10_turn_113 (by decide) ?_
        refine av_lvsub (lv2 := [(0, am_R 74), (2, am_I b2), (3, am_I (am_w32 (b3 + 1)))]) [1, 2, 0] rfl ?_
        exact ih b2 (am_w32 (b3 + 1)) S x SZ hs
set_option maxHeartbeats 4000000 in
set_option maxRecDepth 100000 in
theorem ct_X10_turn (l : Launch) (G : am_G) (S : am_S) (x : Int) (SZ : am_S) (hs : sf_X10_turn  S = some (x, SZ)) : am_met l yX10_turn cX10_turn 4 (some .boolean) 11 275 G [am_R 74] S (some (am_I x)) SZ := by
  refine am_enter ym_X10_turn (Nat.le_of_ble_eq_true rfl) ?_
  intro p e s m args below meth c C hr hlocks
  refine av_eq (lv2 := [(0, am_R 74)]) rfl rfl rfl rfl ?_
  unfold sf_X10_turn at hs
  refine av_aload_n (pc := 0) (j := 0) C dX10_turn_0 rfl rfl ?_
  refine av_iconst (pc := 1) C dX10_turn_1 rfl ?_
  obtain ⟨S1, eS1, hs⟩ := am_let_of hs
  refine av_putI (pc := 2) (k := 53) (n := 4789) C fp_X10_263 sk_74 rfl rfl dX10_turn_2 ?_
  refine av_eq rfl rfl rfl eS1 ?_
  refine av_aload_n (pc := 5) (j := 0) C dX10_turn_5 rfl rfl ?_
  refine av_iconst (pc := 6) C dX10_turn_6 rfl ?_
  obtain ⟨S2, eS2, hs⟩ := am_let_of hs
  refine av_putI (pc := 7) (k := 52) (n := 4788) C fp_X10_215 sk_74 rfl rfl dX10_turn_7 ?_
  refine av_eq rfl rfl rfl eS2 ?_
  refine av_aload_n (pc := 10) (j := 0) C dX10_turn_10 rfl rfl ?_
  refine av_iconst (pc := 11) C dX10_turn_11 rfl ?_
  obtain ⟨x4, S3, hc5, hs⟩ := am_b2_of hs
  refine av_eq (st2 := [am_I (-1), am_R 74]) rfl rfl rfl rfl (av_callV (pc := 12) (as := [am_I (-1)]) (rest := []) C (ct_X10_firstOn l G (-1) S2 x4 S3 hc5) ym_X10_firstOn si_X10_179 im_X10_firstOn se_X10_firstOn sk_74 rfl ⟨Nat.le_of_ble_eq_true rfl, Nat.le_of_ble_eq_true rfl⟩ rfl rfl (Nat.le_of_ble_eq_true rfl) dX10_turn_12 ⟨Nat.le_refl _, Nat.le_refl _⟩ (fun hrv => av_eq (st2 := [am_I x4]) rfl rfl rfl rfl ?_))
  refine av_istore_n (pc := 15) (i := 1) (lv2 := [(1, am_I x4), (0, am_R 74)]) C dX10_turn_15 rfl (by decide) rfl ?_
  refine av_iload_n (pc := 16) (j := 0) C dX10_turn_16 rfl rfl ?_
  refine av_if_lt (pc := 17) (tgt := 37) C dX10_turn_17 (by decide) (fun hc => ?_) (fun hc => ?_)
  · rw [if_pos hc] at hs
    refine av_iconst (pc := 37) C dX10_turn_37 rfl ?_
    refine av_istore_n (pc := 38) (i := 2) (lv2 := [(2, am_I (-1)), (1, am_I x4), (0, am_R 74)]) C dX10_turn_38 rfl (by decide) rfl ?_
    refine av_iconst (pc := 39) C dX10_turn_39 rfl ?_
    refine av_istore_n (pc := 40) (i := 3) (lv2 := [(3, am_I 0), (2, am_I (-1)), (1, am_I x4), (0, am_R 74)]) C dX10_turn_40 rfl (by decide) rfl ?_
    refine av_lvsub (lv2 := [(0, am_R 74), (2, am_I (-1)), (3, am_I 0)]) [3, 1, 0] rfl ?_
    exact wk_X10_turn_41 C hr hlocks 1000 (-1) 0 S3 x SZ hs
  · rw [if_neg hc] at hs
    refine av_aload_n (pc := 20) (j := 1) C dX10_turn_20 rfl rfl ?_
    refine av_dup (pc := 21) C dX10_turn_21 rfl ?_
    refine av_getI (pc := 22) (k := 42) (n := 4778) C fl_X10_165 sk_74 rfl rfl dX10_turn_22 ?_
    refine av_iconst (pc := 25) C dX10_turn_25 rfl ?_
    refine av_iadd (pc := 26) C dX10_turn_26 ?_
    obtain ⟨S6, eS6, hs⟩ := am_let_of hs
    refine av_putI (pc := 27) (k := 42) (n := 4778) C fp_X10_165 sk_74 rfl rfl dX10_turn_27 ?_
    refine av_eq rfl rfl rfl eS6 ?_
    refine av_aload_n (pc := 30) (j := 1) C dX10_turn_30 rfl rfl ?_
    refine av_iload_n (pc := 31) (j := 0) C dX10_turn_31 rfl rfl ?_
    obtain ⟨S7, hc8, hs⟩ := am_b1_of hs
    refine av_eq (st2 := [am_I x4, am_R 74]) rfl rfl rfl rfl (av_callV (pc := 32) (as := [am_I x4]) (rest := []) C (ct_X10_job l G x4 S6 S7 hc8) ym_X10_job si_X10_285 im_X10_job se_X10_job sk_74 rfl ⟨Nat.le_of_ble_eq_true rfl, Nat.le_of_ble_eq_true rfl⟩ rfl rfl (Nat.le_of_ble_eq_true rfl) dX10_turn_32 ⟨Nat.le_refl _, Nat.le_refl _⟩ (fun hrv => av_eq (st2 := []) rfl rfl rfl rfl ?_))
    refine av_iconst (pc := 35) C dX10_turn_35 rfl ?_
    obtain ⟨rfl, rfl⟩ := am_inj2 hs
    exact av_zret C (by decide) hr hlocks dX10_turn_36
set_option maxHeartbeats 4000000 in
set_option maxRecDepth 100000 in
theorem wk_X10_run_16 {p : Program} {l : Launch} {e : Env} {s : State} {m : MethodId} {args : Array Value} {below : List Frame} {meth : Method} {c : Code} {G : am_G} (C : am_C p s m args c cX10_run 4 RX10 G) (hr : meth.sig.returnType = (some .int)) (hlocks : meth.locks = false) : ∀ (fu : Nat) (b1 : Int) (b2 : Int) (b3 : Int) (S : am_S) (x : Int) (SZ : am_S), sf_X10_run_16 fu b1 b2 b3 S = some (x, SZ) → am_V p l e (am_rm 12 298) s m args below meth c (MQ below (am_Q G (some (am_I x)) SZ) args s 0 0 (am_A G)) G (am_A G) s.heap 4 0 0 16 [(0, am_R 74), (1, am_I b1), (2, am_I b2), (3, am_I b3)] [] S := by
  intro fu
  induction fu with
  | zero => intro b1 b2 b3 S x SZ hs; cases hs
  | succ fu ih =>
    intro b1 b2 b3 S x SZ hs
    unfold sf_X10_run_16 at hs
    refine av_iload_n (pc := 16) (j := 2) C dX10_run_16 rfl rfl ?_
    refine av_iload_n (pc := 17) (j := 1) C dX10_run_17 rfl rfl ?_
    refine av_icmp_ge (pc := 18) (tgt := 40) C dX10_run_18 (by decide) (fun hc => ?_) (fun hc => ?_)
    · rw [if_pos hc] at hs
      refine av_iload_n (pc := 40) (j := 2) C dX10_run_40 rfl rfl ?_
      obtain ⟨rfl, rfl⟩ := am_inj2 hs
      exact av_iret C hr hlocks dX10_run_41
    · rw [if_neg hc] at hs
      refine av_iload_n (pc := 21) (j := 3) C dX10_run_21 rfl rfl ?_
      refine av_if_eq (pc := 22) (tgt := 40) C dX10_run_22 (by decide) (fun hc => ?_) (fun hc => ?_)
      · rw [if_pos hc] at hs
        refine av_iload_n (pc := 40) (j := 2) C dX10_run_40 rfl rfl ?_
        obtain ⟨rfl, rfl⟩ := am_inj2 hs
        exact av_iret C hr hlocks dX10_run_41
      · rw [if_neg hc] at hs
        refine av_aload_n (pc := 25) (j := 0) C dX10_run_25 rfl rfl ?_
        obtain ⟨x5, S4, hc6, hs⟩ := am_b2_of hs
        refine av_eq (st2 := [am_R 74]) rfl rfl rfl rfl (av_callV (pc := 26) (as := []) (rest := []) C (ct_X10_turn l G  S x5 S4 hc6) ym_X10_turn si_X10_289 im_X10_turn se_X10_turn sk_74 rfl ⟨Nat.le_of_ble_eq_true rfl, Nat.le_of_ble_eq_true rfl⟩ rfl rfl (Nat.le_of_ble_eq_true rfl) dX10_run_26 ⟨Nat.le_refl _, Nat.le_refl _⟩ (fun hrv => av_eq (st2 := [am_I x5]) rfl rfl rfl rfl ?_))
        refine av_istore_n (pc := 29) (i := 3) (lv2 := [(3, am_I x5), (0, am_R 74), (1, am_I b1), (2, am_I b2)]) C dX10_run_29 rfl (by decide) rfl ?_
        refine av_iload_n (pc := 30) (j := 0) C dX10_run_30 rfl rfl ?_
        refine av_if_eq (pc := 31) (tgt := 16) C dX10_run_31 (by decide) (fun hc => ?_) (fun hc => ?_)
        · rw [if_pos hc] at hs
          refine av_lvsub (lv2 := [(0, am_R 74), (1, am_I b1), (2, am_I b2), (3, am_I x5)]) [1, 2, 3, 0] rfl ?_
          exact ih b1 b2 x5 S4 x SZ hs
        · rw [if_neg hc] at hs
          refine av_iinc (pc := 34) (j := 3) (lv2 := [(2, am_I (am_w32 (b2 + 1))), (3, am_I x5), (0, am_R 74), (1, am_I b1)]) C dX10_run_34 rfl (by decide) rfl ?_
          refine av_goto (pc := 37) (tgt := 16) C dX10_run_37 (by decide) ?_
          refine av_lvsub (lv2 := [(0, am_R 74), (1, am_I b1), (2, am_I (am_w32 (b2 + 1))), (3, am_I x5)]) [2, 3, 0, 1] rfl ?_
          exact ih b1 (am_w32 (b2 + 1)) x5 S4 x SZ hs
set_option maxHeartbeats 4000000 in
set_option maxRecDepth 100000 in
theorem ct_X10_run (l : Launch) (G : am_G) (a1 : Int) (S : am_S) (x : Int) (SZ : am_S) (hs : sf_X10_run a1 S = some (x, SZ)) : am_met l yX10_run cX10_run 4 (some .int) 12 298 G [am_R 74, am_I a1] S (some (am_I x)) SZ := by
  refine am_enter ym_X10_run (Nat.le_of_ble_eq_true rfl) ?_
  intro p e s m args below meth c C hr hlocks
  refine av_eq (lv2 := [(0, am_R 74), (1, am_I a1)]) rfl rfl rfl rfl ?_
  unfold sf_X10_run at hs
  refine av_iload_n (pc := 0) (j := 1) C dX10_run_0 rfl rfl ?_
  refine av_iconst (pc := 1) C dX10_run_1 rfl ?_
  refine av_bipush (pc := 2) C dX10_run_2 rfl ?_
  obtain ⟨x2, S1, hc3, hs⟩ := am_b2_of hs
  refine av_eq (st2 := [am_I 60, am_I 0, am_I a1]) rfl rfl rfl rfl (av_callS (pc := 4) (as := [am_I a1, am_I 0, am_I 60]) (rest := []) C (ct_X10_in l G a1 0 60 S x2 S1 hc3) ym_X10_in si_X10_171 st_X10_in ⟨Nat.le_of_ble_eq_true rfl, Nat.le_of_ble_eq_true rfl⟩ rfl rfl (Nat.le_of_ble_eq_true rfl) dX10_run_4 ⟨Nat.le_refl _, Nat.le_refl _⟩ (fun hrv => av_eq (st2 := [am_I x2]) rfl rfl rfl rfl ?_))
  refine av_if_ne (pc := 7) (tgt := 12) C dX10_run_7 (by decide) (fun hc => ?_) (fun hc => ?_)
  · rw [if_neg hc] at hs
    refine av_iconst (pc := 12) C dX10_run_12 rfl ?_
    refine av_istore_n (pc := 13) (i := 2) (lv2 := [(2, am_I 0), (0, am_R 74), (1, am_I a1)]) C dX10_run_13 rfl (by decide) rfl ?_
    refine av_iconst (pc := 14) C dX10_run_14 rfl ?_
    refine av_istore_n (pc := 15) (i := 3) (lv2 := [(3, am_I 1), (2, am_I 0), (0, am_R 74), (1, am_I a1)]) C dX10_run_15 rfl (by decide) rfl ?_
    refine av_lvsub (lv2 := [(0, am_R 74), (1, am_I a1), (2, am_I 0), (3, am_I 1)]) [2, 3, 1, 0] rfl ?_
    exact wk_X10_run_16 C hr hlocks 1000 a1 0 1 S1 x SZ hs
  · rw [if_pos (Decidable.not_not.mp hc)] at hs
    refine av_iconst (pc := 10) C dX10_run_10 rfl ?_
    obtain ⟨rfl, rfl⟩ := am_inj2 hs
    exact av_iret C hr hlocks dX10_run_11
set_option maxHeartbeats 4000000 in
set_option maxRecDepth 100000 in
theorem ct_X10_forget (l : Launch) (G : am_G) (S : am_S) (x : Int) (SZ : am_S) (hs : sf_X10_forget  S = some (x, SZ)) : am_met l yX10_forget cX10_forget 2 (some .int) 1 21 G [am_R 74] S (some (am_I x)) SZ := by
  refine am_enter ym_X10_forget (Nat.le_of_ble_eq_true rfl) ?_
  intro p e s m args below meth c C hr hlocks
  refine av_eq (lv2 := [(0, am_R 74)]) rfl rfl rfl rfl ?_
  unfold sf_X10_forget at hs
  refine av_aload_n (pc := 0) (j := 0) C dX10_forget_0 rfl rfl ?_
  refine av_getI (pc := 1) (k := 9) (n := 4745) C fl_X10_152 sk_74 rfl rfl dX10_forget_1 ?_
  refine av_istore_n (pc := 4) (i := 1) (lv2 := [(1, am_I (S.1 4745)), (0, am_R 74)]) C dX10_forget_4 rfl (by decide) rfl ?_
  refine av_aload_n (pc := 5) (j := 1) C dX10_forget_5 rfl rfl ?_
  obtain ⟨S1, hc2, hs⟩ := am_b1_of hs
  refine av_eq (st2 := [am_R 74]) rfl rfl rfl rfl (av_callV (pc := 6) (as := []) (rest := []) C (ct_X10_clear l G  S S1 hc2) ym_X10_clear si_X10_149 im_X10_clear se_X10_clear sk_74 rfl ⟨Nat.le_of_ble_eq_true rfl, Nat.le_of_ble_eq_true rfl⟩ rfl rfl (Nat.le_of_ble_eq_true rfl) dX10_forget_6 ⟨Nat.le_refl _, Nat.le_refl _⟩ (fun hrv => av_eq (st2 := []) rfl rfl rfl rfl ?_))
  refine av_iload_n (pc := 9) (j := 0) C dX10_forget_9 rfl rfl ?_
  obtain ⟨rfl, rfl⟩ := am_inj2 hs
  exact av_iret C hr hlocks dX10_forget_10
set_option maxHeartbeats 4000000 in
set_option maxRecDepth 100000 in
theorem ct_X10_state (l : Launch) (G : am_G) (a1 : Int) (a2 : Int) (S : am_S) (x : Int) (SZ : am_S) (hs : sf_X10_state a1 a2 S = some (x, SZ)) : am_met l yX10_state cX10_state 3 (some .int) 2 43 G [am_R 74, am_I a1, am_I a2] S (some (am_I x)) SZ := by
  refine am_enter ym_X10_state (Nat.le_of_ble_eq_true rfl) ?_
  intro p e s m args below meth c C hr hlocks
  refine av_eq (lv2 := [(0, am_R 74), (1, am_I a1), (2, am_I a2)]) rfl rfl rfl rfl ?_
  unfold sf_X10_state at hs
  refine av_aload_n (pc := 0) (j := 0) C dX10_state_0 rfl rfl ?_
  refine av_iload_n (pc := 1) (j := 1) C dX10_state_1 rfl rfl ?_
  obtain ⟨x2, S1, hc3, hs⟩ := am_b2_of hs
  refine av_eq (st2 := [am_I a1, am_R 74]) rfl rfl rfl rfl (av_callV (pc := 2) (as := [am_I a1]) (rest := []) C (ct_X10_isPromise l G a1 S x2 S1 hc3) ym_X10_isPromise si_X10_175 im_X10_isPromise se_X10_isPromise sk_74 rfl ⟨Nat.le_of_ble_eq_true rfl, Nat.le_of_ble_eq_true rfl⟩ rfl rfl (Nat.le_of_ble_eq_true rfl) dX10_state_2 ⟨Nat.le_refl _, Nat.le_refl _⟩ (fun hrv => av_eq (st2 := [am_I x2]) rfl rfl rfl rfl ?_))
  refine av_if_ne (pc := 5) (tgt := 10) C dX10_state_5 (by decide) (fun hc => ?_) (fun hc => ?_)
  · rw [if_neg hc] at hs
    refine av_iload_n (pc := 10) (j := 2) C dX10_state_10 rfl rfl ?_
    have hdef4 : (hs : (some ((-1), S1)) = some (x, SZ)) → am_V p l e (am_rm 2 43) s m args below meth c (MQ below (am_Q G (some (am_I x)) SZ) args s 0 0 (am_A G)) G (am_A G) s.heap 3 0 0 160 [(0, am_R 74), (1, am_I a1), (2, am_I a2)] [] S1 := by
      intro hs
      refine av_iconst (pc := 160) C dX10_state_160 rfl ?_
      obtain ⟨rfl, rfl⟩ := am_inj2 hs
      exact av_iret C hr hlocks dX10_state_161
    by_cases hk0 : a2 = 0
    · rw [if_pos hk0] at hs
      refine av_swi (pc := 11) (k := 0) (tgt := 56) C dX10_state_11 (by rw [hk0]; rfl) (by decide) rfl (by decide) ?_
      refine av_aload_n (pc := 56) (j := 0) C dX10_state_56 rfl rfl ?_
      refine av_getR (pc := 57) (k := 0) (r := 75) C fl_X10_7 sk_74 rfl dX10_state_57 ?_
      refine av_iload_n (pc := 60) (j := 1) C dX10_state_60 rfl rfl ?_
      obtain ⟨hb, hs⟩ := am_gd_of hs
      refine av_iald (pc := 61) C sk_75 hb dX10_state_61 ?_
      obtain ⟨rfl, rfl⟩ := am_inj2 hs
      exact av_iret C hr hlocks dX10_state_62
    · rw [if_neg hk0] at hs
      by_cases hk1 : a2 = 1
      · rw [if_pos hk1] at hs
        refine av_swi (pc := 11) (k := 1) (tgt := 63) C dX10_state_11 (by rw [hk1]; rfl) (by decide) rfl (by decide) ?_
        refine av_aload_n (pc := 63) (j := 0) C dX10_state_63 rfl rfl ?_
        refine av_getR (pc := 64) (k := 0) (r := 75) C fl_X10_7 sk_74 rfl dX10_state_64 ?_
        refine av_iload_n (pc := 67) (j := 1) C dX10_state_67 rfl rfl ?_
        obtain ⟨hb, hs⟩ := am_gd_of hs
        refine av_iald (pc := 68) C sk_75 hb dX10_state_68 ?_
        refine av_if_ne (pc := 69) (tgt := 76) C dX10_state_69 (by decide) (fun hc => ?_) (fun hc => ?_)
        · rw [if_neg hc] at hs
          refine av_aload_n (pc := 76) (j := 0) C dX10_state_76 rfl rfl ?_
          refine av_getR (pc := 77) (k := 1) (r := 76) C fl_X10_13 sk_74 rfl dX10_state_77 ?_
          refine av_iload_n (pc := 80) (j := 1) C dX10_state_80 rfl rfl ?_
          obtain ⟨hb, hs⟩ := am_gd_of hs
          refine av_iald (pc := 81) C sk_76 hb dX10_state_81 ?_
          obtain ⟨rfl, rfl⟩ := am_inj2 hs
          exact av_iret C hr hlocks dX10_state_82
        · rw [if_pos (Decidable.not_not.mp hc)] at hs
          refine av_iconst (pc := 72) C dX10_state_72 rfl ?_
          refine av_goto (pc := 73) (tgt := 82) C dX10_state_73 (by decide) ?_
          obtain ⟨rfl, rfl⟩ := am_inj2 hs
          exact av_iret C hr hlocks dX10_state_82
      · rw [if_neg hk1] at hs
        by_cases hk2 : a2 = 2
        · rw [if_pos hk2] at hs
          refine av_swi (pc := 11) (k := 2) (tgt := 83) C dX10_state_11 (by rw [hk2]; rfl) (by decide) rfl (by decide) ?_
          refine av_aload_n (pc := 83) (j := 0) C dX10_state_83 rfl rfl ?_
          refine av_getR (pc := 84) (k := 0) (r := 75) C fl_X10_7 sk_74 rfl dX10_state_84 ?_
          refine av_iload_n (pc := 87) (j := 1) C dX10_state_87 rfl rfl ?_
          obtain ⟨hb, hs⟩ := am_gd_of hs
          refine av_iald (pc := 88) C sk_75 hb dX10_state_88 ?_
          refine av_if_ne (pc := 89) (tgt := 96) C dX10_state_89 (by decide) (fun hc => ?_) (fun hc => ?_)
          · rw [if_neg hc] at hs
            refine av_aload_n (pc := 96) (j := 0) C dX10_state_96 rfl rfl ?_
            refine av_getR (pc := 97) (k := 2) (r := 77) C fl_X10_16 sk_74 rfl dX10_state_97 ?_
            refine av_iload_n (pc := 100) (j := 1) C dX10_state_100 rfl rfl ?_
            obtain ⟨hb, hs⟩ := am_gd_of hs
            refine av_iald (pc := 101) C sk_77 hb dX10_state_101 ?_
            obtain ⟨rfl, rfl⟩ := am_inj2 hs
            exact av_iret C hr hlocks dX10_state_102
          · rw [if_pos (Decidable.not_not.mp hc)] at hs
            refine av_iconst (pc := 92) C dX10_state_92 rfl ?_
            refine av_goto (pc := 93) (tgt := 102) C dX10_state_93 (by decide) ?_
            obtain ⟨rfl, rfl⟩ := am_inj2 hs
            exact av_iret C hr hlocks dX10_state_102
        · rw [if_neg hk2] at hs
          by_cases hk3 : a2 = 3
          · rw [if_pos hk3] at hs
            refine av_swi (pc := 11) (k := 3) (tgt := 103) C dX10_state_11 (by rw [hk3]; rfl) (by decide) rfl (by decide) ?_
            refine av_aload_n (pc := 103) (j := 0) C dX10_state_103 rfl rfl ?_
            refine av_iload_n (pc := 104) (j := 1) C dX10_state_104 rfl rfl ?_
            obtain ⟨x6, S5, hc7, hs⟩ := am_b2_of hs
            refine av_eq (st2 := [am_I a1, am_R 74]) rfl rfl rfl rfl (av_callV (pc := 105) (as := [am_I a1]) (rest := []) C (ct_X10_isLoose l G a1 S1 x6 S5 hc7) ym_X10_isLoose si_X10_293 im_X10_isLoose se_X10_isLoose sk_74 rfl ⟨Nat.le_of_ble_eq_true rfl, Nat.le_of_ble_eq_true rfl⟩ rfl rfl (Nat.le_of_ble_eq_true rfl) dX10_state_105 ⟨Nat.le_refl _, Nat.le_refl _⟩ (fun hrv => av_eq (st2 := [am_I x6]) rfl rfl rfl rfl ?_))
            refine av_if_eq (pc := 108) (tgt := 115) C dX10_state_108 (by decide) (fun hc => ?_) (fun hc => ?_)
            · rw [if_pos hc] at hs
              refine av_iconst (pc := 115) C dX10_state_115 rfl ?_
              obtain ⟨rfl, rfl⟩ := am_inj2 hs
              exact av_iret C hr hlocks dX10_state_116
            · rw [if_neg hc] at hs
              refine av_iconst (pc := 111) C dX10_state_111 rfl ?_
              refine av_goto (pc := 112) (tgt := 116) C dX10_state_112 (by decide) ?_
              obtain ⟨rfl, rfl⟩ := am_inj2 hs
              exact av_iret C hr hlocks dX10_state_116
          · rw [if_neg hk3] at hs
            by_cases hk4 : a2 = 4
            · rw [if_pos hk4] at hs
              refine av_swi (pc := 11) (k := 4) (tgt := 117) C dX10_state_11 (by rw [hk4]; rfl) (by decide) rfl (by decide) ?_
              refine av_aload_n (pc := 117) (j := 0) C dX10_state_117 rfl rfl ?_
              refine av_iload_n (pc := 118) (j := 1) C dX10_state_118 rfl rfl ?_
              obtain ⟨x9, S8, hc10, hs⟩ := am_b2_of hs
              refine av_eq (st2 := [am_I a1, am_R 74]) rfl rfl rfl rfl (av_callV (pc := 119) (as := [am_I a1]) (rest := []) C (ct_X10_waiting l G a1 S1 x9 S8 hc10) ym_X10_waiting si_X10_296 im_X10_waiting se_X10_waiting sk_74 rfl ⟨Nat.le_of_ble_eq_true rfl, Nat.le_of_ble_eq_true rfl⟩ rfl rfl (Nat.le_of_ble_eq_true rfl) dX10_state_119 ⟨Nat.le_refl _, Nat.le_refl _⟩ (fun hrv => av_eq (st2 := [am_I x9]) rfl rfl rfl rfl ?_))
              obtain ⟨rfl, rfl⟩ := am_inj2 hs
              exact av_iret C hr hlocks dX10_state_122
            · rw [if_neg hk4] at hs
              by_cases hk5 : a2 = 5
              · rw [if_pos hk5] at hs
                refine av_swi (pc := 11) (k := 5) (tgt := 123) C dX10_state_11 (by rw [hk5]; rfl) (by decide) rfl (by decide) ?_
                refine av_aload_n (pc := 123) (j := 0) C dX10_state_123 rfl rfl ?_
                refine av_getR (pc := 124) (k := 3) (r := 78) C fl_X10_19 sk_74 rfl dX10_state_124 ?_
                refine av_iload_n (pc := 127) (j := 1) C dX10_state_127 rfl rfl ?_
                obtain ⟨hb, hs⟩ := am_gd_of hs
                refine av_iald (pc := 128) C sk_78 hb dX10_state_128 ?_
                obtain ⟨rfl, rfl⟩ := am_inj2 hs
                exact av_iret C hr hlocks dX10_state_129
              · rw [if_neg hk5] at hs
                by_cases hk6 : a2 = 6
                · rw [if_pos hk6] at hs
                  refine av_swi (pc := 11) (k := 6) (tgt := 130) C dX10_state_11 (by rw [hk6]; rfl) (by decide) rfl (by decide) ?_
                  refine av_aload_n (pc := 130) (j := 0) C dX10_state_130 rfl rfl ?_
                  refine av_getR (pc := 131) (k := 6) (r := 81) C fl_X10_28 sk_74 rfl dX10_state_131 ?_
                  refine av_iload_n (pc := 134) (j := 1) C dX10_state_134 rfl rfl ?_
                  obtain ⟨hb, hs⟩ := am_gd_of hs
                  refine av_zald (pc := 135) C sk_81 hb dX10_state_135 ?_
                  refine av_if_eq (pc := 136) (tgt := 143) C dX10_state_136 (by decide) (fun hc => ?_) (fun hc => ?_)
                  · rw [if_pos hc] at hs
                    refine av_iconst (pc := 143) C dX10_state_143 rfl ?_
                    obtain ⟨rfl, rfl⟩ := am_inj2 hs
                    exact av_iret C hr hlocks dX10_state_144
                  · rw [if_neg hc] at hs
                    refine av_iconst (pc := 139) C dX10_state_139 rfl ?_
                    refine av_goto (pc := 140) (tgt := 144) C dX10_state_140 (by decide) ?_
                    obtain ⟨rfl, rfl⟩ := am_inj2 hs
                    exact av_iret C hr hlocks dX10_state_144
                · rw [if_neg hk6] at hs
                  by_cases hk7 : a2 = 7
                  · rw [if_pos hk7] at hs
                    refine av_swi (pc := 11) (k := 7) (tgt := 145) C dX10_state_11 (by rw [hk7]; rfl) (by decide) rfl (by decide) ?_
                    refine av_aload_n (pc := 145) (j := 0) C dX10_state_145 rfl rfl ?_
                    refine av_getR (pc := 146) (k := 8) (r := 83) C fl_X10_35 sk_74 rfl dX10_state_146 ?_
                    refine av_iload_n (pc := 149) (j := 1) C dX10_state_149 rfl rfl ?_
                    obtain ⟨hb, hs⟩ := am_gd_of hs
                    refine av_zald (pc := 150) C sk_83 hb dX10_state_150 ?_
                    refine av_if_eq (pc := 151) (tgt := 158) C dX10_state_151 (by decide) (fun hc => ?_) (fun hc => ?_)
                    · rw [if_pos hc] at hs
                      refine av_iconst (pc := 158) C dX10_state_158 rfl ?_
                      obtain ⟨rfl, rfl⟩ := am_inj2 hs
                      exact av_iret C hr hlocks dX10_state_159
                    · rw [if_neg hc] at hs
                      refine av_iconst (pc := 154) C dX10_state_154 rfl ?_
                      refine av_goto (pc := 155) (tgt := 159) C dX10_state_155 (by decide) ?_
                      obtain ⟨rfl, rfl⟩ := am_inj2 hs
                      exact av_iret C hr hlocks dX10_state_159
                  · rw [if_neg hk7] at hs
                    refine av_swo (pc := 11) (tgt := 160) C dX10_state_11 (by omega) (by decide) ?_
                    exact hdef4 hs
  · rw [if_pos (Decidable.not_not.mp hc)] at hs
    refine av_iconst (pc := 8) C dX10_state_8 rfl ?_
    obtain ⟨rfl, rfl⟩ := am_inj2 hs
    exact av_iret C hr hlocks dX10_state_9
set_option maxHeartbeats 4000000 in
set_option maxRecDepth 100000 in
theorem ct_X10_noted (l : Launch) (G : am_G) (a1 : Int) (a2 : Int) (S : am_S) (x : Int) (SZ : am_S) (hs : sf_X10_noted a1 a2 S = some (x, SZ)) : am_met l yX10_noted cX10_noted 4 (some .long) 0 0 G [am_R 74, am_I a1, am_I a2] S (some (am_J x)) SZ := by
  refine am_enter ym_X10_noted (Nat.le_of_ble_eq_true rfl) ?_
  intro p e s m args below meth c C hr hlocks
  refine av_eq (lv2 := [(0, am_R 74), (1, am_I a1), (2, am_I a2)]) rfl rfl rfl rfl ?_
  unfold sf_X10_noted at hs
  refine av_iload_n (pc := 0) (j := 1) C dX10_noted_0 rfl rfl ?_
  refine av_if_lt (pc := 1) (tgt := 18) C dX10_noted_1 (by decide) (fun hc => ?_) (fun hc => ?_)
  · rw [if_pos hc] at hs
    refine av_ldc2 (pc := 18) C co_X10_299 (by unfold am_r64; omega) dX10_noted_18 ?_
    obtain ⟨rfl, rfl⟩ := am_inj2 hs
    exact av_lret C hr hlocks dX10_noted_21
  · rw [if_neg hc] at hs
    refine av_iload_n (pc := 4) (j := 1) C dX10_noted_4 rfl rfl ?_
    refine av_bipush (pc := 5) C dX10_noted_5 rfl ?_
    refine av_icmp_ge (pc := 7) (tgt := 18) C dX10_noted_7 (by decide) (fun hc => ?_) (fun hc => ?_)
    · rw [if_pos hc] at hs
      refine av_ldc2 (pc := 18) C co_X10_299 (by unfold am_r64; omega) dX10_noted_18 ?_
      obtain ⟨rfl, rfl⟩ := am_inj2 hs
      exact av_lret C hr hlocks dX10_noted_21
    · rw [if_neg hc] at hs
      refine av_iload_n (pc := 10) (j := 1) C dX10_noted_10 rfl rfl ?_
      refine av_aload_n (pc := 11) (j := 0) C dX10_noted_11 rfl rfl ?_
      refine av_getI (pc := 12) (k := 46) (n := 4782) C fl_X10_168 sk_74 rfl rfl dX10_noted_12 ?_
      refine av_icmp_lt (pc := 15) (tgt := 22) C dX10_noted_15 (by decide) (fun hc => ?_) (fun hc => ?_)
      · rw [if_pos hc] at hs
        refine av_aload_n (pc := 22) (j := 0) C dX10_noted_22 rfl rfl ?_
        refine av_getI (pc := 23) (k := 46) (n := 4782) C fl_X10_168 sk_74 rfl rfl dX10_noted_23 ?_
        refine av_iconst (pc := 26) C dX10_noted_26 rfl ?_
        refine av_isub (pc := 27) C dX10_noted_27 ?_
        refine av_iload_n (pc := 28) (j := 1) C dX10_noted_28 rfl rfl ?_
        refine av_isub (pc := 29) C dX10_noted_29 ?_
        refine av_bipush (pc := 30) C dX10_noted_30 rfl ?_
        refine av_irem (pc := 32) C dX10_noted_32 (by decide) ?_
        refine av_istore_n (pc := 33) (i := 3) (lv2 := [(3, am_I (Int.tmod (am_w32 ((am_w32 ((S.1 4782) - 1)) - a1)) 60)), (0, am_R 74), (1, am_I a1), (2, am_I a2)]) C dX10_noted_33 rfl (by decide) rfl ?_
        refine av_iload_n (pc := 34) (j := 3) C dX10_noted_34 rfl rfl ?_
        refine av_if_ne (pc := 35) (tgt := 48) C dX10_noted_35 (by decide) (fun hc => ?_) (fun hc => ?_)
        · rw [if_neg hc] at hs
          refine av_iload_n (pc := 48) (j := 3) C dX10_noted_48 rfl rfl ?_
          refine av_iconst (pc := 49) C dX10_noted_49 rfl ?_
          refine av_icmp_ne (pc := 50) (tgt := 63) C dX10_noted_50 (by decide) (fun hc => ?_) (fun hc => ?_)
          · rw [if_neg hc] at hs
            refine av_iload_n (pc := 63) (j := 3) C dX10_noted_63 rfl rfl ?_
            refine av_iconst (pc := 64) C dX10_noted_64 rfl ?_
            refine av_icmp_ne (pc := 65) (tgt := 78) C dX10_noted_65 (by decide) (fun hc => ?_) (fun hc => ?_)
            · rw [if_neg hc] at hs
              refine av_ldc2 (pc := 78) C co_X10_299 (by unfold am_r64; omega) dX10_noted_78 ?_
              obtain ⟨rfl, rfl⟩ := am_inj2 hs
              exact av_lret C hr hlocks dX10_noted_81
            · rw [if_pos (Decidable.not_not.mp hc)] at hs
              refine av_aload_n (pc := 68) (j := 1) C dX10_noted_68 rfl rfl ?_
              refine av_getR (pc := 69) (k := 45) (r := 115) C fl_X10_131 sk_74 rfl dX10_noted_69 ?_
              refine av_iload_n (pc := 72) (j := 0) C dX10_noted_72 rfl rfl ?_
              obtain ⟨hb, hs⟩ := am_gd_of hs
              refine av_iald (pc := 73) C sk_115 hb dX10_noted_73 ?_
              refine av_i2l (pc := 74) C dX10_noted_74 ?_
              refine av_goto (pc := 75) (tgt := 81) C dX10_noted_75 (by decide) ?_
              obtain ⟨rfl, rfl⟩ := am_inj2 hs
              exact av_lret C hr hlocks dX10_noted_81
          · rw [if_pos (Decidable.not_not.mp hc)] at hs
            refine av_aload_n (pc := 53) (j := 1) C dX10_noted_53 rfl rfl ?_
            refine av_getR (pc := 54) (k := 43) (r := 113) C fl_X10_125 sk_74 rfl dX10_noted_54 ?_
            refine av_iload_n (pc := 57) (j := 0) C dX10_noted_57 rfl rfl ?_
            obtain ⟨hb, hs⟩ := am_gd_of hs
            refine av_iald (pc := 58) C sk_113 hb dX10_noted_58 ?_
            refine av_i2l (pc := 59) C dX10_noted_59 ?_
            refine av_goto (pc := 60) (tgt := 81) C dX10_noted_60 (by decide) ?_
            obtain ⟨rfl, rfl⟩ := am_inj2 hs
            exact av_lret C hr hlocks dX10_noted_81
        · rw [if_pos (Decidable.not_not.mp hc)] at hs
          refine av_aload_n (pc := 38) (j := 1) C dX10_noted_38 rfl rfl ?_
          refine av_getR (pc := 39) (k := 44) (r := 114) C fl_X10_128 sk_74 rfl dX10_noted_39 ?_
          refine av_iload_n (pc := 42) (j := 0) C dX10_noted_42 rfl rfl ?_
          obtain ⟨hb, hs⟩ := am_gd_of hs
          refine av_iald (pc := 43) C sk_114 hb dX10_noted_43 ?_
          refine av_i2l (pc := 44) C dX10_noted_44 ?_
          refine av_goto (pc := 45) (tgt := 81) C dX10_noted_45 (by decide) ?_
          obtain ⟨rfl, rfl⟩ := am_inj2 hs
          exact av_lret C hr hlocks dX10_noted_81
      · rw [if_neg hc] at hs
        refine av_ldc2 (pc := 18) C co_X10_299 (by unfold am_r64; omega) dX10_noted_18 ?_
        obtain ⟨rfl, rfl⟩ := am_inj2 hs
        exact av_lret C hr hlocks dX10_noted_21
