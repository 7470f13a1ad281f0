/-! the loops in which FUNCTIONS go on, to their end -/
theorem pr_kindOf {f at' : Nat} (hk : 10 * f + at' < 100) (S : am_S) : sf_X0_kindOf (f : Int) (at' : Int) S = some (am_w32 (S.2 56 (10 * f + at')), S) := by
  unfold sf_X0_kindOf
  have e1 : am_w32 (am_w32 ((f : Int) * 10) + (at' : Int)) = ((10 * f + at' : Nat) : Int) := by
    rw [pr_w (x := (f : Int) * 10) (by omega) (by omega), pr_w (by omega) (by omega)]; omega
  rw [e1, pr_atn hk, pr_b2]
theorem pr_valueOf {f at' : Nat} (hk : 10 * f + at' < 100) (S : am_S) : sf_X0_valueOf (f : Int) (at' : Int) S = some (S.2 57 (10 * f + at'), S) := by
  unfold sf_X0_valueOf
  have e1 : am_w32 (am_w32 ((f : Int) * 10) + (at' : Int)) = ((10 * f + at' : Nat) : Int) := by
    rw [pr_w (x := (f : Int) * 10) (by omega) (by omega), pr_w (by omega) (by omega)]; omega
  rw [e1, pr_van hk, pr_b2]
theorem pr_doC {C0 : am_S} {a at' f : Nat} {w sv n T : Int} (ha : a < 101) (e67 : C0.2 67 a = (f : Int)) (hf10 : f < 10) (hk : 10 * f + at' < 100) (e56 : C0.2 56 (10 * f + at') = w) (hw : 0 ≤ w ∧ w ≤ 14) (e57 : C0.2 57 (10 * f + at') = pr_V sv n) (hn : am_r32 n) (eT : C0.1 461 = T) (hT : 0 ≤ T ∧ T < 1000000) :
    sf_X5_doStep (a : Int) (at' : Int) C0 = am_b2 (sf_X5_faultOf (a : Int) w (pr_V sv n) (am_sI C0 461 (T + 1))) (fun x21 S20 => pr_disp (a : Int) w (pr_V sv n) n (C0.2 69 a) x21 S20) := by
  unfold sf_X5_doStep
  have y1 : ∀ _ : Nat, am_w32 (C0.2 67 a) = (f : Int) := fun _ => by rw [e67, pr_w (by omega) (by omega)]
  have y2 : ∀ _ : Nat, am_w32 (C0.2 56 (10 * f + at')) = w := fun _ => by rw [e56, pr_w (by omega) (by omega)]
  have y3 : ∀ _ : Nat, am_w32 (T + 1) = T + 1 := fun _ => pr_w (by omega) (by omega)
  rw [pr_atn ha, pr_b2, y1 0, pr_kindOf hk, pr_b2, y2 0, pr_atn ha, pr_b2, y1 0, pr_valueOf hk, pr_b2, e57, pr_numberOf hn, pr_b2, pr_van ha, pr_b2, eT, y3 0, pr_let]
  rfl
theorem pr_goLoop (dn : Int) : ∀ (n : Nat) (st : List Nat) (B T : Int) (Sc Sr : am_S) (fuC fuR : Nat) (i : Nat), pr_Y B Sc Sr → pr_RX Sc Sr st → pr_dn dn Sc Sr st → Sc.1 461 = T → Sr.1 4789 = T → 0 ≤ T → pr_mu Sc T st < n → T + (pr_mu Sc T st : Int) ≤ 100000 → n + 1 < fuC → n + 1 < fuR → i + n + 5 < 1000000 → B + 4 * (n : Int) < 2000000000 →
    ∃ Sc' Sr', sf_X5_goOn_7 fuC (i : Int) Sc = some Sc' ∧ sf_X10_go_0 fuR Sr = some Sr' ∧ pr_fin (B + 4 * (n : Int)) dn Sc' Sr' := by
  intro n
  induction n with
  | zero => intro st B T Sc Sr fuC fuR i _ _ _ _ _ _ h; omega
  | succ n ih =>
    intro st B T Sc Sr fuC fuR i Z X hd t1 t2 t3 hmu hW hfC hfR hi hB
    cases fuC with
    | zero => omega
    | succ fuC =>
    cases fuR with
    | zero => omega
    | succ fuR =>
    have hnc : ((n + 1 : Nat) : Int) = (n : Int) + 1 := by omega
    rw [hnc] at hB ⊢
    cases st with
    | nil =>
      have h459 : Sc.1 459 = -1 := X.2.1
      have h4788 : Sr.1 4788 = -1 := X.2.2.1
      refine ⟨Sc, Sr, ?_, ?_, ?_⟩
      · rw [pr_goOn_s, if_neg (by omega), if_pos h459]
      · simp only [sf_X10_go_0]
        rw [if_pos (by omega)]
      · have hdn := hd.2 (by simp)
        exact ⟨fun h => by omega, fun _ => ⟨pr_Y_mono Z (by omega) hB, X⟩⟩
    | cons a st =>
      obtain ⟨p1, p2, p3, p4⟩ := pr_RX_pos X
      obtain ⟨f1, f2, f3, f4, f5, f6, f7, f8, f9, f10⟩ := X.1.1
      obtain ⟨m1, m2, m3, m4, m5⟩ := pr_Y_m Z
      have hna := X.1.2.1
      obtain ⟨f, hf⟩ : ∃ f : Nat, Sc.2 67 a = (f : Int) := ⟨(Sc.2 67 a).toNat, by omega⟩
      obtain ⟨at', hat⟩ : ∃ at' : Nat, Sc.2 68 a = (at' : Int) := ⟨(Sc.2 68 a).toNat, by omega⟩
      have hf10 : f < 10 := by omega
      have hat10 : at' ≤ 10 := by omega
      obtain ⟨s1, s2, s3, s4⟩ := Z.2.1.2.1 f hf10
      obtain ⟨N, hN⟩ : ∃ N : Nat, Sr.2 98 f = (N : Int) := ⟨(Sr.2 98 f).toNat, by omega⟩
      have hN10 : N ≤ 10 := by omega
      have hN55 : ∀ _ : Nat, am_w32 (Sc.2 55 f) = (N : Int) := fun _ => by rw [s1, hN, pr_w (by omega) (by omega)]
      have hmuv : pr_mu Sc T (a :: st) = (200 - T).toNat * 24 + ((12 - at') + pr_sum Sc st) := by
        show (200 - T).toNat * 24 + ((12 - (Sc.2 68 a).toNat) + pr_sum Sc st) = _
        rw [hat]; omega
      have hTb : T < 1000000 := by omega
      -- one round on both sides
      have hround : ∃ Sc1 Sr1, pr_itC Sc = some Sc1 ∧ sf_X10_go_0 (fuR + 1) Sr = sf_X10_go_0 fuR Sr1 ∧ pr_o1 (B + 4) dn (pr_mu Sc T (a :: st)) (T + (pr_mu Sc T (a :: st) : Int)) Sc1 Sr1 := by
        rw [pr_itC_pre X hf hf10 (hN55 0) hat hat10, pr_go_s X hf hf10 hN hN10 hat hat10 t2 ⟨t3, hTb⟩ fuR]
        by_cases hNat : (N : Int) ≤ (at' : Int)
        · rw [if_pos hNat, if_pos hNat]
          have hsum : pr_sum (am_sA (am_sA Sc 68 a ((at' : Int) + 1)) 69 a (pr_V 0 0)) st = pr_sum Sc st := pr_sum_congr (fun b hb => am_up_ne _ _ (fun e => hna (e ▸ hb)))
          have Z2 : pr_Y B (am_sA (am_sA Sc 68 a ((at' : Int) + 1)) 69 a (pr_V 0 0)) Sr := pr_Y_run Z (pr_out_sA (pr_out_sA (pr_out_refl _) (by decide)) (by decide)) (pr_out_refl _)
          obtain ⟨Sc1, Sr1, e1, e2, e3⟩ := pr_mv_give (C0 := Sc) (dn := dn) (T1 := T) (W := T + (pr_mu Sc T (a :: st) : Int)) (μ := pr_mu Sc T (a :: st)) (at' := at') (s := 0) (n := 0) Z2 (by omega) X hd t1 t2 t3 (by rw [hsum, hmuv]; omega) (by omega) hat10
            (fun b hb => ⟨rfl, am_up_ne _ _ hb, am_up_ne _ _ hb, rfl⟩) rfl rfl (am_up_self _ _ _) ⟨by unfold am_r32; omega, Or.inl rfl⟩
          refine ⟨Sc1, Sr1, ?_, ?_, pr_o1_mono e3 (by omega) (by omega)⟩
          · unfold sf_X5_giveZero
            rw [pr_of (by decide), pr_b2, pr_putn p3, pr_b1, pr_b2]; exact e1
          · rw [e2, pr_b1]
        · rw [if_neg hNat, if_neg hNat]
          have hk : 10 * f + at' < 100 := by omega
          obtain ⟨u1, u2, u3, u4, u5, u6, u7, u8, u9⟩ := s4 at' (by omega)
          have hat9 : at' ≤ 9 := by omega
          have X1 := pr_setP X m3 (t := (at' : Int) + 1) (by omega)
          have XH : pr_RX (am_sI (am_sA Sc 68 a ((at' : Int) + 1)) 461 (T + 1)) (am_sI (am_sA Sr 117 st.length ((at' : Int) + 1)) 4789 (T + 1)) (a :: st) := pr_RX_same X1 rfl rfl rfl rfl rfl rfl rfl rfl rfl rfl rfl rfl rfl rfl rfl rfl
          have ZH : pr_Y B (am_sI (am_sA Sc 68 a ((at' : Int) + 1)) 461 (T + 1)) (am_sI (am_sA Sr 117 st.length ((at' : Int) + 1)) 4789 (T + 1)) := pr_Y_run Z (pr_out_sI (pr_out_sA (pr_out_refl _) (by decide)) (by decide)) (pr_out_sI (pr_out_sA (pr_out_refl _) (by decide)) (by decide))
          have hsum : pr_sum (am_sI (am_sA Sc 68 a ((at' : Int) + 1)) 461 (T + 1)) st = pr_sum Sc st := pr_sum_congr (fun b hb => am_up_ne _ _ (fun e => hna (e ▸ hb)))
          have hdo := pr_doC (C0 := am_sA Sc 68 a ((at' : Int) + 1)) (a := a) (at' := at') (f := f) (w := Sr.2 99 (10 * f + at')) (sv := if Sr.2 99 (10 * f + at') = 2 then Sr.2 100 (10 * f + at') else 0) (n := Sr.2 101 (10 * f + at')) (T := T) p3 hf hf10 hk u1 ⟨u2, u3⟩ u4 u5 t1 ⟨t3, hTb⟩
          rw [hdo]
          by_cases hT2 : T + 1 ≤ 200
          · rw [if_pos hT2]
            have H : pr_H B dn (T + 1) (T + (pr_mu Sc T (a :: st) : Int)) (pr_mu Sc T (a :: st)) a at' st (am_sI (am_sA Sc 68 a ((at' : Int) + 1)) 461 (T + 1)) (am_sI (am_sA Sr 117 st.length ((at' : Int) + 1)) 4789 (T + 1)) :=
              ⟨ZH, by omega, XH, hd, am_up_self _ _ _, rfl, rfl, by omega, hT2, by rw [hsum, hmuv]; omega, by omega, hat9⟩
            have hG : pr_goal B dn (T + (pr_mu Sc T (a :: st) : Int)) (pr_mu Sc T (a :: st)) a at' (Sr.2 99 (10 * f + at')) (pr_V (if Sr.2 99 (10 * f + at') = 2 then Sr.2 100 (10 * f + at') else 0) (Sr.2 101 (10 * f + at'))) (Sr.2 101 (10 * f + at')) (Sr.2 100 (10 * f + at')) (am_sI (am_sA Sc 68 a ((at' : Int) + 1)) 461 (T + 1)) (am_sI (am_sA Sr 117 st.length ((at' : Int) + 1)) 4789 (T + 1)) := by
              have hc : Sr.2 99 (10 * f + at') = 0 ∨ Sr.2 99 (10 * f + at') = 1 ∨ Sr.2 99 (10 * f + at') = 2 ∨ Sr.2 99 (10 * f + at') = 3 ∨ Sr.2 99 (10 * f + at') = 4 ∨ Sr.2 99 (10 * f + at') = 5 ∨ Sr.2 99 (10 * f + at') = 6 ∨ Sr.2 99 (10 * f + at') = 7 ∨ Sr.2 99 (10 * f + at') = 8 ∨ Sr.2 99 (10 * f + at') = 9 ∨ Sr.2 99 (10 * f + at') = 10 ∨ Sr.2 99 (10 * f + at') = 11 ∨ Sr.2 99 (10 * f + at') = 12 ∨ Sr.2 99 (10 * f + at') = 13 ∨ Sr.2 99 (10 * f + at') = 14 := by omega
              rcases hc with h | h | h | h | h | h | h | h | h | h | h | h | h | h | h
              · rw [h, if_neg (by decide)]; exact pr_k0 (sv := 0) H u5
              · rw [h, if_neg (by decide)]; exact pr_k1 H u5
              · rw [h, if_pos rfl]; exact pr_k2 H (u6 h)
              · rw [h, if_neg (by decide)]; exact pr_k3 H u5
              · rw [h, if_neg (by decide)]; exact pr_k4 H u5
              · rw [h, if_neg (by decide)]; exact pr_k5 H u5
              · rw [h, if_neg (by decide)]; exact pr_k6 H u5
              · rw [h, if_neg (by decide)]; exact pr_k7 H u5
              · rw [h, if_neg (by decide)]; exact pr_k8 H u5 (u7 (Or.inl h))
              · rw [h, if_neg (by decide)]; exact pr_k9 H u5
              · rw [h, if_neg (by decide)]; exact pr_k10 H u5
              · rw [h, if_neg (by decide)]; exact pr_k11 H u5 (u7 (Or.inr (Or.inl h)))
              · rw [h, if_neg (by decide)]; exact pr_k12 H u5 (u7 (Or.inr (Or.inr h)))
              · rw [h, if_neg (by decide)]; exact pr_k13 H u5 (u8 (Or.inl h))
              · rw [h, if_neg (by decide)]; exact pr_k14 H u5 (u8 (Or.inr h))
            obtain ⟨Sc1, Sr1, e1, e2, e3⟩ := hG
            exact ⟨Sc1, Sr1, e1, by rw [e2, pr_b1], e3⟩
          · rw [if_neg hT2]
            obtain ⟨Sc1, Sr1, e1, e2, e3⟩ := pr_mv_throw (dn := dn) (T1 := T + 1) (W := T + (pr_mu Sc T (a :: st) : Int)) (μ := pr_mu Sc T (a :: st)) (s := 0) (n := -4) ZH (by omega) XH hd (am_up_self _ _ _) rfl rfl (by omega) (by rw [hsum, hmuv]; omega) (by omega) hat9 ⟨by unfold am_r32; omega, Or.inl rfl⟩
            refine ⟨Sc1, Sr1, ?_, by rw [e2, pr_b1], pr_o1_mono e3 (by omega) (by omega)⟩
            have hft : sf_X5_faultOf (a : Int) (Sr.2 99 (10 * f + at')) (pr_V (if Sr.2 99 (10 * f + at') = 2 then Sr.2 100 (10 * f + at') else 0) (Sr.2 101 (10 * f + at'))) (am_sI (am_sA Sc 68 a ((at' : Int) + 1)) 461 (T + 1)) = some (-4, am_sI (am_sA Sc 68 a ((at' : Int) + 1)) 461 (T + 1)) := by
              unfold sf_X5_faultOf
              rw [pr_In, if_neg hT2]
            have := pr_sc_ft (a := a) (at' := at') (n := Sr.2 101 (10 * f + at')) (x := (am_sA Sc 68 a ((at' : Int) + 1)).2 69 a) p3 (by omega) hft
            unfold pr_sC at this
            rw [this]; exact e1
      obtain ⟨Sc1, Sr1, r1, r2, r3⟩ := hround
      have hstep : sf_X5_goOn_7 (fuC + 1) (i : Int) Sc = sf_X5_goOn_7 fuC ((i + 1 : Nat) : Int) Sc1 := by
        rw [pr_goOn_s, if_neg (by omega), if_neg (by omega), r1, pr_b1, pr_ws (by omega)]
      rw [hstep, r2]
      rcases r3 with ⟨st2, T2, v1, v2, v3, v4, v5, v6, v7, v8⟩ | ⟨v1, v2, v3⟩
      · obtain ⟨Sc', Sr', y1, y2, y3⟩ := ih st2 (B + 4) T2 Sc1 Sr1 fuC fuR (i + 1) v1 v2 v3 v4 v5 v6 (by omega) (by omega) (by omega) (by omega) (by omega) (by omega)
        exact ⟨Sc', Sr', y1, y2, pr_fin_mono y3 (by omega) hB⟩
      · refine ⟨Sc1, Sr1, ?_, ?_, pr_fin_mono v3 (by omega) hB⟩
        · cases fuC with
          | zero => omega
          | succ fuC => rw [pr_goOn_s, if_neg (by omega), if_pos v1]
        · cases fuR with
          | zero => omega
          | succ fuR =>
            simp only [sf_X10_go_0]
            rw [if_pos (by omega)]
/-- all that runs goes on till nothing runs any more -/
theorem pr_go {B dn : Int} {Sc Sr : am_S} {st : List Nat} (Z : pr_Y B Sc Sr) (X : pr_RX Sc Sr st) (hd : pr_dn dn Sc Sr st) (t2 : Sr.1 4789 = 0) (hB : B + 30000 < 2000000000) :
    ∃ Sc' Sr', sf_X5_goOn Sc = some Sc' ∧ sf_X10_go Sr = some Sr' ∧ pr_fin (B + 30000) dn Sc' Sr' := by
  have X1 : pr_RX (am_sI Sc 461 0) Sr st := pr_RX_same X rfl rfl rfl rfl rfl rfl rfl rfl rfl rfl rfl rfl rfl rfl rfl rfl
  have Z1 : pr_Y B (am_sI Sc 461 0) Sr := pr_Y_run Z (pr_out_sI (pr_out_refl _) (by decide)) (pr_out_refl _)
  have hlen := pr_st_len X.1
  have hs := pr_sum_le (am_sI Sc 461 0) st
  have hmu : pr_mu (am_sI Sc 461 0) 0 st < 6100 := by
    unfold pr_mu
    omega
  obtain ⟨Sc', Sr', e1, e2, e3⟩ := pr_goLoop dn 6100 st B 0 (am_sI Sc 461 0) Sr 1000002 1000000 0 Z1 X1 hd rfl t2 (Int.le_refl _) hmu (by omega) (by omega) (by omega) (by omega) (by omega)
  refine ⟨Sc', Sr', ?_, e2, pr_fin_mono e3 (by omega) hB⟩
  unfold sf_X5_goOn
  rw [pr_let]; exact e1
