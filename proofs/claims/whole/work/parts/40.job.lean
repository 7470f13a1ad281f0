/-! one JOB, done -/
theorem pr_div9 {p c : Nat} (hc : c < 9) : Int.tdiv ((9 * p + c : Nat) : Int) 9 = (p : Int) ∧ Int.tmod ((9 * p + c : Nat) : Int) 9 = (c : Int) := by
  constructor
  · rw [Int.tdiv_eq_ediv_of_nonneg (by omega)]; omega
  · rw [Int.tmod_eq_emod_of_nonneg (by omega)]; omega
theorem pr_goIdle {B : Int} {Sc Sr : am_S} (Z : pr_Y B Sc Sr) (X : pr_RX Sc Sr []) : sf_X5_goOn Sc = some (am_sI Sc 461 0) ∧ pr_Y B (am_sI Sc 461 0) Sr ∧ pr_RX (am_sI Sc 461 0) Sr [] := by
  refine ⟨?_, pr_Y_run Z (pr_out_sI (pr_out_refl _) (by decide)) (pr_out_refl _), pr_RX_same X rfl rfl rfl rfl rfl rfl rfl rfl rfl rfl rfl rfl rfl rfl rfl rfl⟩
  have h459 : (am_sI Sc 461 0).1 459 = -1 := X.2.1
  unfold sf_X5_goOn
  rw [pr_let, pr_goOn_s, if_neg (by decide), if_pos h459]
/-- what doJob reads of its source -/
theorem pr_doJob {S : am_S} {p c q : Nat} {how s n : Int} (hc : c < 9) (hc0 : c ≠ 0) (hp : p < 100) (h51 : S.2 51 (9 * p + c) = (q : Int)) (hq : q < 100) (h41 : S.2 41 q = how) (hhow : how = 1 ∨ how = 2) (h42 : S.2 42 q = pr_V s n) :
    sf_X9_doJob ((9 * p + c : Nat) : Int) S = (if (c : Int) = 1 then (am_b2 (sf_X3_lastKeyOf (p : Int) S) (fun x24 S23 => (am_b1 (sf_X3_settleBy (p : Int) how (pr_V s n) x24 S23) (fun S26 => (some S26))))) else (if (c : Int) = 2 then (am_b1 (sf_X5_handle (p : Int) how (pr_V s n) S) (fun S28 => (some S28))) else (if (c : Int) = 3 then (am_b1 (sf_X5_resume (p : Int) how (pr_V s n) S) (fun S30 => (some S30))) else (am_b1 (sf_X1_settlePlace (p : Int) (am_w32 ((c : Int) - 4)) how (pr_V s n) S) (fun S11 => (am_b1 (sf_X1_settleIfComplete (p : Int) S11) (fun S13 => (some S13)))))))) := by
  obtain ⟨d1, d2⟩ := pr_div9 (p := p) hc
  unfold sf_X9_doJob sf_X3_sourceOf sf_X3_statusOf sf_X3_valueOf
  have w51 : ∀ _ : Nat, am_w32 (S.2 51 (9 * p + c)) = (q : Int) := fun _ => by rw [h51, pr_w (by omega) (by omega)]
  have w41 : ∀ _ : Nat, am_w32 (S.2 41 q) = how := fun _ => by rw [h41, pr_w (by omega) (by omega)]
  rw [pr_atn (by omega), pr_b2, w51 0, pr_b2, pr_atn hq, pr_b2, w41 0, pr_b2, pr_van hq, pr_b2, h42, pr_b2, d1, d2, if_neg (by omega)]
theorem pr_job {B : Int} {Sc Sr : am_S} (Z : pr_Y B Sc Sr) (X : pr_RX Sc Sr []) (t2 : Sr.1 4789 = 0) (hB : B + 30010 < 2000000000) (hj : 0 < Sc.1 76) :
    ∃ (k : Nat) (j : Int) (Scj Sc1 Sc2 Sr' : am_S), (∀ S0 : am_S, S0.2 84 = Sr.2 84 → S0.2 85 = Sr.2 85 → S0.2 86 = Sr.2 86 → S0.1 4755 = Sr.1 4755 → sf_X10_firstOn (-1) S0 = some ((k : Int), S0)) ∧ sf_X3_takeJob Sc = some (j, Scj) ∧ sf_X9_doJob j Scj = some Sc1 ∧ sf_X5_goOn Sc1 = some Sc2 ∧ sf_X10_job (k : Int) Sr = some Sr' ∧ pr_Y (B + 30010) Sc2 Sr' ∧ pr_RX Sc2 Sr' [] := by
  obtain ⟨k, p, C1, hlive, hon, hfo, htk, Z1, hp, jk, jo, hcd, oC⟩ := pr_Ytake Z hj
  obtain ⟨m1, m2, m3, m4, m5⟩ := pr_Y_m Z
  have hp100 : p < 100 := by omega
  have hk8 : k < 800 := hlive.1
  have hid : ∀ o : Option am_S, am_b1 o (fun S => some S) = o := fun o => by cases o <;> rfl
  obtain ⟨R1, hR1⟩ : ∃ R1, R1 = am_sA Sr 84 k 0 := ⟨_, rfl⟩
  rw [← hR1] at Z1 hcd
  have oR : pr_out [] [84] Sr R1 := by rw [hR1]; exact pr_out_sA (pr_out_refl _) (by decide)
  have mR1 : R1.1 4745 = Sr.1 4745 := oR.1 _ (by decide)
  have X1 : pr_RX C1 R1 [] := pr_RX_k X ⟨fun a _ _ => oC.2 a (by simp), fun n hn => oC.1 n (by simp; omega)⟩ ⟨fun a ha => oR.2 a (by simp; omega), fun n hn => oR.1 n (by simp)⟩
  have t2' : R1.1 4789 = 0 := by rw [oR.1 4789 (by decide)]; exact t2
  have hcC := fun a => oC.2 a (by simp)
  -- nothing else is for p by KEYS, where this was
  have hfree25 : Sr.2 84 k = 2 ∨ Sr.2 84 k = 5 → ∀ k', pr_live R1 k' → R1.2 84 k' = 2 ∨ R1.2 84 k' = 5 → R1.2 87 k' ≠ (p : Int) := by
    intro hw k' hk' hw' h87
    obtain ⟨hne, hl', hcn⟩ := hcd k' hk'
    obtain ⟨p', hp', j', ho'⟩ := pr_Y_jk Z1 hk'
    have e84 : R1.2 84 k' = Sr.2 84 k' := by rw [hR1]; exact am_up_ne _ _ hne
    have hcdk : pr_cd Sr k = p * 8 := by
      unfold pr_cd
      have := (pr_JK_own jk).2 (by omega)
      rcases hw with h | h <;> rw [h, this] <;> simp <;> omega
    have hcdk' : pr_cd Sr k' = p * 8 := by
      unfold pr_cd
      rw [← e84, ← oR.2 87 (by decide), h87]
      rcases hw' with h | h <;> rw [h] <;> simp <;> omega
    exact hcn (hcdk'.trans hcdk.symm)
  have hfree4 : Sr.2 84 k = 4 → ∀ k', pr_live R1 k' → R1.2 84 k' = 4 → R1.2 87 k' ≠ (p : Int) := by
    intro hw k' hk' hw' h87
    obtain ⟨hne, hl', hcn⟩ := hcd k' hk'
    have e84 : R1.2 84 k' = Sr.2 84 k' := by rw [hR1]; exact am_up_ne _ _ hne
    have hcdk : pr_cd Sr k = p * 8 + 2 := by
      unfold pr_cd
      have := (pr_JK_own jk).2 (by omega)
      rw [hw, this]; simp; omega
    have hcdk' : pr_cd Sr k' = p * 8 + 2 := by
      unfold pr_cd
      rw [← e84, ← oR.2 87 (by decide), h87, hw']; simp; omega
    exact hcn (hcdk'.trans hcdk.symm)
  -- the reference's job
  have hjob : ∀ t0 : Int, (Sr.2 90 k = 2 → t0 = 1) → (Sr.2 90 k ≠ 2 → t0 = 0) → sf_X10_job (k : Int) Sr = (if Sr.2 84 k = 2 then (sf_X10_endBy (Sr.2 87 k) t0 (Sr.2 91 k) (Sr.2 92 k) (Sr.2 88 k) R1) else (if Sr.2 84 k = 3 then (sf_X10_placed (Sr.2 87 k) (Sr.2 88 k) (Sr.2 90 k) (Sr.2 91 k) (Sr.2 92 k) R1) else (if Sr.2 84 k = 4 then (am_gd (Sr.2 87 k) 100 (am_let (am_sA R1 83 (Int.toNat (Sr.2 87 k)) 0) (fun S7 => (am_gd (Sr.2 87 k) 100 (am_gd (Sr.2 87 k) 100 (am_b1 (sf_X10_begin (S7.2 79 (Int.toNat (Sr.2 87 k))) (S7.2 80 (Int.toNat (Sr.2 87 k))) (Sr.2 91 k) (Sr.2 92 k) (Sr.2 87 k) S7) (fun S8 => (if t0 = 0 then (am_b1 (sf_X10_go S8) (fun S10 => (some S10))) else (am_b1 (sf_X10_fling (Sr.2 91 k) (Sr.2 92 k) S8) (fun S12 => (am_b1 (sf_X10_go S12) (fun S14 => (some S14)))))))))))) ) else (if Sr.2 84 k = 5 then (sf_X10_adopt (Sr.2 87 k) (Sr.2 91 k) (Sr.2 92 k) R1) else (if t0 = 0 then (sf_X10_job_200 (k : Int) (Sr.2 91 k) (Sr.2 92 k) t0 (Sr.2 87 k) R1) else (sf_X10_job_200 (k : Int) (Sr.2 91 k) (Sr.2 92 k) t0 (Sr.2 88 k) R1)))))) := by
    intro t0 h1 h2
    have h45 : sf_X10_job (k : Int) Sr = sf_X10_job_45 (k : Int) (Sr.2 87 k) (Sr.2 88 k) (Sr.2 91 k) (Sr.2 92 k) t0 Sr := by
      unfold sf_X10_job
      simp only [pr_gdn hk8, Int.toNat_natCast]
      by_cases h : Sr.2 90 k = 2
      · rw [if_pos h, h1 h]
      · rw [if_neg h, h2 h]
    rw [h45]
    unfold sf_X10_job_45
    have y90 : R1.2 90 = Sr.2 90 := oR.2 90 (by decide)
    simp only [pr_gdn hk8, Int.toNat_natCast, pr_let, ← hR1, y90, hid]
  by_cases hw5 : Sr.2 84 k = 5
  · -- to ADOPT
    rcases jk with ⟨a1, -⟩ | ⟨a1, -⟩ | ⟨a1, -⟩ | ⟨a1, -⟩ | ⟨a1, a2, a3, a4, a5, a6, a7, a8, a9⟩ <;> try omega
    have hjb : pr_jb Sr k = 9 * p + 0 := by unfold pr_jb; rw [a1, a2]; simp; omega
    obtain ⟨d1, d2⟩ := pr_div9 (p := p) (c := 0) (by omega)
    obtain ⟨Sc1, Sr1, g1, g2, g3, g4, g5, g6, g7, g8⟩ := pr_adopt Z1 (by omega) (p := p) (s := Sr.2 91 k) (n := Sr.2 92 k) (by omega) (by rw [mR1]; exact a8) a9 (by rw [oR.2 75 (by decide)]; exact a4) (hfree25 (Or.inr hw5))
    have X2 := pr_RX_k X1 (pr_kX_C g4 g7) (pr_kY_R g5 g6 g8)
    obtain ⟨i1, i2, i3⟩ := pr_goIdle g3 X2
    refine ⟨k, _, C1, Sc1, _, Sr1, hfo, htk, ?_, i1, ?_, pr_Y_mono i2 (by omega) hB, i3⟩
    · rw [hjb]
      obtain ⟨v1, hv1⟩ := pr_at_tot 51 900 ((9 * p + 0 : Nat) : Int) C1
      obtain ⟨v2, hv2⟩ := pr_at_tot 41 100 v1 C1
      obtain ⟨v3, hv3⟩ := pr_va_tot 42 100 v1 C1
      unfold sf_X9_doJob sf_X3_sourceOf sf_X3_statusOf sf_X3_valueOf sf_X3_toAdopt
      have y46 : C1.2 46 p = pr_V (Sr.2 91 k) (Sr.2 92 k) := by rw [hcC 46]; exact a7
      rw [hv1, pr_b2, pr_b2, hv2, pr_b2, pr_b2, hv3, pr_b2, pr_b2, d1, d2, if_pos (by decide), pr_van hp100, pr_b2, pr_b2, y46]
      exact g1
    · rw [hjob 0 (fun h => by omega) (fun _ => rfl), if_neg (by omega), if_neg (by omega), if_neg (by omega), if_pos a1, a2]; exact g2
  · -- the others have a source
    have hsrc : ∃ q : Nat, (q : Int) < Sr.1 4745 ∧ Sc.2 51 (pr_jb Sr k) = (q : Int) ∧ Sr.2 75 q ≠ 0 ∧ Sr.2 90 k = Sr.2 75 q ∧ Sr.2 91 k = Sr.2 76 q ∧ Sr.2 92 k = Sr.2 77 q := by
      rcases jo with ⟨q, _, h2, -⟩ | ⟨h1, h2⟩
      · omega
      · exact h2 hw5
    obtain ⟨q, hq, h51, h75, h90, h91, h92⟩ := hsrc
    obtain ⟨d1, d2, d3, d4, d5, d6, d7, d8, -⟩ := pr_Y_pd Z hq
    obtain ⟨e1, e2, e3, e4⟩ := d3 h75
    have hq100 : q < 100 := by omega
    obtain ⟨how, hhow⟩ : ∃ how, how = Sr.2 75 q := ⟨_, rfl⟩
    obtain ⟨s, hs⟩ : ∃ s, s = Sr.2 76 q := ⟨_, rfl⟩
    obtain ⟨n, hn⟩ : ∃ n, n = Sr.2 77 q := ⟨_, rfl⟩
    rw [← hs, ← hn] at e1 e2
    rw [← hhow] at d1 d2 h75 h90
    rw [← hs] at h91
    rw [← hn] at h92
    have hw12 : how = 1 ∨ how = 2 := by omega
    have hs0 : how = 1 → s = 0 := fun h => by rw [hs]; exact e3 (by omega)
    have c41 : C1.2 41 q = how := by rw [hcC 41]; exact d1
    have c42 : C1.2 42 q = pr_V s n := by rw [hcC 42]; exact e1
    have hvR1 : pr_VV (R1.1 4745) s n := by rw [mR1]; exact e2
    have hjob2 := hjob (how - 1) (fun h => by omega) (fun h => by omega)
    rw [h90, h91, h92] at hjob2
    by_cases hw2 : Sr.2 84 k = 2
    · -- ADOPTION
      rcases jk with ⟨a1, -⟩ | ⟨a1, a2, a3, a4, a5⟩ | ⟨a1, -⟩ | ⟨a1, -⟩ | ⟨a1, -⟩ <;> try omega
      have hjb : pr_jb Sr k = 9 * p + 1 := by unfold pr_jb; rw [a1, a2]; simp; omega
      have hf := hfree25 (Or.inl hw2)
      obtain ⟨Sc1, Sr1, g1, g2, -, -, g5, g6, g7, g8, g9, g10, -⟩ := pr_Ysettle Z1 (by omega) (p := p) (how := how) (s := s) (n := n) (k := Sr.2 88 k) (by omega) hw12 hvR1 (fun _ _ => hf)
      have X2 := pr_RX_k X1 (pr_kX_C g6 g9) (pr_kY_R g7 g8 g10)
      obtain ⟨i1, i2, i3⟩ := pr_goIdle g5 X2
      refine ⟨k, _, C1, Sc1, _, Sr1, hfo, htk, ?_, i1, ?_, pr_Y_mono i2 (by omega) hB, i3⟩
      · rw [hjb, pr_doJob (c := 1) (by omega) (by omega) hp100 (by rw [hcC 51, ← hjb]; exact h51) hq100 c41 hw12 c42, if_pos (by decide)]
        unfold sf_X3_lastKeyOf
        obtain ⟨k1, k2, k3, k4, k5, k6, -⟩ := pr_Y_pd Z hp
        have y43 : ∀ _ : Nat, am_w32 (C1.2 43 p) = Sr.2 88 k := fun _ => by rw [hcC 43, k4, pr_w (by omega) (by omega)]; exact a4
        rw [pr_atn hp100, pr_b2, pr_b2, y43 0, g1, pr_b1]
      · rw [hjob2, if_pos a1, a2]; exact g2
    · by_cases hw3 : Sr.2 84 k = 3
      · -- a PLACE
        rcases jk with ⟨a1, -⟩ | ⟨a1, -⟩ | ⟨a1, a2, a3, a4⟩ | ⟨a1, -⟩ | ⟨a1, -⟩ <;> try omega
        obtain ⟨i, hi⟩ : ∃ i : Nat, Sr.2 88 k = (i : Int) := ⟨(Sr.2 88 k).toNat, by omega⟩
        have hjb : pr_jb Sr k = 9 * p + (4 + i) := by unfold pr_jb; rw [a1, a2, hi]; simp; omega
        have hGD : pr_GD B C1 R1 p := pr_GD_keep (Z.2.2 p k hlive hw3 a2) (by rw [hcC 64]) (by rw [hcC 65]) (by rw [hcC 66]) (by rw [oR.2 102 (by decide)]) (by rw [oR.2 103 (by decide)]) (by rw [oR.2 104 (by decide)]) (by rw [oR.2 105 (by decide)]) (fun h => by rw [oR.2 78 (by decide), oR.2 81 (by decide)]; exact h)
        obtain ⟨Sc1, Sr1, g1, g2, g3, g4, g5⟩ := pr_placed Z1 (by omega) (d := p) (i := i) (by omega) (by omega) hGD (how := how) (s := s) (n := n) (by rcases hw12 with h | h; exact Or.inl ⟨h, hs0 h⟩; exact Or.inr h) hvR1
        have X2 := pr_RX_k X1 g4 g5
        obtain ⟨i1, i2, i3⟩ := pr_goIdle g3 X2
        refine ⟨k, _, C1, Sc1, _, Sr1, hfo, htk, ?_, i1, ?_, pr_Y_mono i2 (by omega) hB, i3⟩
        · rw [hjb, pr_doJob (c := 4 + i) (by omega) (by omega) hp100 (by rw [hcC 51, ← hjb]; exact h51) hq100 c41 hw12 c42, if_neg (by omega), if_neg (by omega), if_neg (by omega)]
          have yw : am_w32 (((4 + i : Nat) : Int) - 4) = (i : Int) := by rw [pr_w (by omega) (by omega)]; omega
          rw [yw]; exact g1
        · rw [hjob2, if_neg (by omega), if_pos a1, a2, hi]; exact g2
      · by_cases hw4 : Sr.2 84 k = 4
        · -- a stopped FUNCTION goes on
          rcases jk with ⟨a1, -⟩ | ⟨a1, -⟩ | ⟨a1, -⟩ | ⟨a1, a2, a3⟩ | ⟨a1, -⟩ <;> try omega
          have hjb : pr_jb Sr k = 9 * p + 3 := by unfold pr_jb; rw [a1, a2]; simp; omega
          have hF := hfree4 hw4
          have hC71 : C1.2 71 p = 1 := by rw [hcC 71]; exact a3
          have hR83 : R1.2 83 p = 1 := by rw [← (X1.2.2.2.2 p (by omega)).1]; exact hC71
          obtain ⟨s79, s80, s67, s68⟩ := X1.2.2.2.1 p (by omega) hR83
          obtain ⟨at', hat⟩ : ∃ at' : Nat, C1.2 68 p = (at' : Int) + 1 := ⟨(C1.2 68 p - 1).toNat, by omega⟩
          have Z2 := pr_Y_halt Z1 (p := p) (by omega) (v := 0) (Or.inl rfl) (fun _ => hF)
          have Z3 : pr_Y B (am_sA C1 71 p 0) (am_sA R1 83 p 0) := pr_Y_run Z2 (pr_out_refl _) (pr_out_sA (pr_out_refl _) (by decide))
          have X3 : pr_RX (am_sA C1 71 p 0) (am_sA R1 83 p 0) [] := by
            refine ⟨True.intro, X1.2.1, X1.2.2.1, fun r hr1 hr2 => ?_, fun r hr => ?_⟩
            · have hne : r ≠ p := fun e => by
                subst e
                have : (am_sA R1 83 r 0).2 83 r = 0 := am_up_self _ _ _
                omega
              have e83 : (am_sA R1 83 p 0).2 83 r = R1.2 83 r := am_up_ne _ _ hne
              rw [e83] at hr2
              exact X1.2.2.2.1 r hr1 hr2
            · by_cases e : r = p
              · subst e
                have x1 : (am_sA C1 71 r 0).2 71 r = 0 := am_up_self _ _ _
                have x2 : (am_sA R1 83 r 0).2 83 r = 0 := am_up_self _ _ _
                rw [x1, x2]; exact ⟨rfl, Or.inl rfl⟩
              · have x1 : (am_sA C1 71 p 0).2 71 r = C1.2 71 r := am_up_ne _ _ e
                have x2 : (am_sA R1 83 p 0).2 83 r = R1.2 83 r := am_up_ne _ _ e
                rw [x1, x2]; exact X1.2.2.2.2 r hr
          obtain ⟨C2, hC2⟩ : ∃ C2, C2 = am_sA (am_sI (am_sA (am_sA C1 71 p 0) 70 p (-1)) 459 (p : Int)) 69 p (pr_V s n) := ⟨_, rfl⟩
          have oC2 : pr_out [459, 460, 461] [67, 68, 69, 70] (am_sA C1 71 p 0) C2 := by
            rw [hC2]
            refine pr_out_sA (pr_out_sI (pr_out_sA (pr_out_refl _) ?_) ?_) ?_ <;> decide
          have c69 : C2.2 69 p = pr_V s n := by rw [hC2]; exact am_up_self _ _ _
          have c68 : C2.2 68 p = (at' : Int) + 1 := by rw [hC2]; exact hat
          obtain ⟨R2, g1, g2, g3⟩ := pr_push (Sc' := C2) (a := p) (f := C1.2 67 p) (t := C1.2 68 p) (s := s) (n := n) X3 (show R1.1 4745 ≤ 100 by omega)
            (fun b hb => by
              rw [hC2]
              exact ⟨rfl, rfl, am_up_ne _ _ hb, am_up_ne _ _ hb⟩) (by rw [hC2]; rfl) s67 (by rw [hC2]; rfl) (by omega) c69 hvR1 (by rw [hC2]; exact am_up_self _ _ _) (by rw [hC2]; rfl) (oC2.2 71 (by decide)) (by omega) (by simp) (fun _ => ⟨show (p : Int) < R1.1 4745 by omega, am_up_self _ _ _⟩) (fun h => by omega)
          rw [if_neg (show ¬ p = 100 by omega)] at g1
          have Z4 : pr_Y B C2 R2 := pr_Y_run Z3 oC2 (pr_out_mono g3 (by decide) (by decide))
          have t3 : R2.1 4789 = 0 := by rw [g3.1 4789 (by decide)]; exact t2'
          have hdn : pr_dn (-2) C2 R2 [p] := ⟨fun h => by simp at h; omega, fun _ => by omega⟩
          have hres : sf_X5_resume (p : Int) how (pr_V s n) C1 = (if how = 2 then (am_b2 (sf_X5_leaveTry (p : Int) (at' : Int) C2) (fun x12 S11 => (if x12 = 0 then (am_b1 (sf_X5_end (p : Int) 2 S11) (fun S14 => (some S14))) else (some S11)))) else (some C2)) := by
            unfold sf_X5_resume
            have y68 : ∀ _ : Nat, am_w32 (C2.2 68 p) = (at' : Int) + 1 := fun _ => by rw [c68, pr_w (by omega) (by omega)]
            have y1 : ∀ _ : Nat, am_w32 ((at' : Int) + 1 - 1) = (at' : Int) := fun _ => by rw [pr_w (by omega) (by omega)]; omega
            rw [pr_putn hp100, pr_b1, pr_putn (by omega), pr_b1, pr_let, pr_putn (by omega), pr_b1, ← hC2, pr_atn (by omega), pr_b2, y68 0, y1 0]
          have hdo : ∀ Sc1, sf_X5_resume (p : Int) how (pr_V s n) C1 = some Sc1 → sf_X9_doJob ((pr_jb Sr k : Nat) : Int) C1 = some Sc1 := by
            intro Sc1 h
            rw [hjb, pr_doJob (c := 3) (by omega) (by omega) hp100 (by rw [hcC 51, ← hjb]; exact h51) hq100 c41 hw12 c42, if_neg (by decide), if_neg (by decide), if_pos (by decide), h, pr_b1]
          have href : ∀ Sr', (how = 1 → sf_X10_go R2 = some Sr') → (how = 2 → am_b1 (sf_X10_fling s n R2) (fun S12 => sf_X10_go S12) = some Sr') → sf_X10_job (k : Int) Sr = some Sr' := by
            intro Sr' h1 h2
            have x79 : (am_sA R1 83 p 0).2 79 p = C1.2 67 p := s79
            have x80 : (am_sA R1 83 p 0).2 80 p = C1.2 68 p := s80
            rw [hjob2, if_neg hw2, if_neg hw3, if_pos a1, a2, pr_gdn hp100, pr_let, Int.toNat_natCast, pr_gdn hp100, pr_gdn hp100, x79, x80, g1, pr_b1]
            rcases hw12 with h | h
            · rw [if_pos (by omega), hid]; exact h1 h
            · rw [if_neg (by omega)]
              have h2' := h2 h
              cases hf : sf_X10_fling s n R2 with
              | none => rw [hf] at h2'; cases h2'
              | some S12 =>
                rw [hf, pr_b1] at h2'
                rw [pr_b1, hid]; exact h2'
          rcases hw12 with h1 | h2
          · obtain ⟨Sc2, Sr2, u1, u2, u3⟩ := pr_go Z4 g2 hdn t3 (by omega)
            refine ⟨k, _, C1, C2, Sc2, Sr2, hfo, htk, hdo C2 (by rw [hres, if_neg (by omega)]), u1, href Sr2 (fun _ => u2) (fun h => by omega), pr_Y_mono (u3.2 (by omega)).1 (by omega) hB, (u3.2 (by omega)).2⟩
          · have hv2 : pr_VV (R2.1 4745) s n := by rw [g3.1 4745 (by decide)]; exact hvR1
            obtain ⟨RR, v1, v2, v3, v4, v5, v6⟩ := pr_throw Z4 g2 c68 hv2
            have hself : am_sA C2 69 p (pr_V s n) = C2 := by rw [← c69, pr_sA_self]
            rw [hself] at v2 v4 v5 v6
            by_cases hRR : RR = -1
            · rw [if_pos hRR] at v2 v3
              obtain ⟨Sc1, Sr1, y1, y2, y3, y4, y5, y6⟩ := pr_end (dn := -2) (how := 2) (s := s) (n := n) v4 (by omega) v5 ⟨fun h => by simp at h; omega, fun _ => by omega⟩ (Or.inr rfl) (fun _ _ => ⟨rfl, rfl, rfl, rfl⟩) rfl rfl c69 hv2
              have y2' : sf_X10_finish 1 s n (am_sA (am_sA R2 118 ([] : List Nat).length s) 119 ([] : List Nat).length n) = some Sr1 := y2
              rcases y6 with ⟨_, z2, z3, z4⟩ | ⟨z1, -⟩
              · obtain ⟨Sc2, Sr2, u1, u2, u3⟩ := pr_go z2 z3 z4 (y4.trans t3) (by omega)
                refine ⟨k, _, C1, Sc1, Sc2, Sr2, hfo, htk, hdo Sc1 ?_, u1, href Sr2 (fun h => by omega) (fun _ => ?_), pr_Y_mono (u3.2 (by omega)).1 (by omega) hB, (u3.2 (by omega)).2⟩
                · rw [hres, if_pos h2, v2, pr_b2, if_pos rfl, y1, pr_b1]
                · rw [v3, y2', pr_b1, pr_b1]; exact u2
              · omega
            · rw [if_neg hRR] at v2 v3
              obtain ⟨z1, z2⟩ := v6 hRR
              obtain ⟨Sc2, Sr2, u1, u2, u3⟩ := pr_go z1 z2 ⟨fun h => by simp at h; omega, fun _ => by omega⟩ t3 (by omega) (dn := -2)
              refine ⟨k, _, C1, _, Sc2, Sr2, hfo, htk, hdo _ ?_, u1, href Sr2 (fun h => by omega) (fun _ => ?_), pr_Y_mono (u3.2 (by omega)).1 (by omega) hB, (u3.2 (by omega)).2⟩
              · rw [hres, if_pos h2, v2, pr_b2, if_neg (by decide)]
              · rw [v3, pr_b1]; exact u2
        · -- HANDLERS
          rcases jk with ⟨a1, a2, a3, a4, a5, a6, a7, a8⟩ | ⟨a1, -⟩ | ⟨a1, -⟩ | ⟨a1, -⟩ | ⟨a1, -⟩ <;> try omega
          have hjb : pr_jb Sr k = 9 * p + 2 := by unfold pr_jb; rw [a1, a2]; simp; omega
          obtain ⟨f, hf⟩ : ∃ f, f = (if how = 1 then Sr.2 87 k else Sr.2 88 k) := ⟨_, rfl⟩
          have hf10 : -1 ≤ f ∧ f < 10 := by rw [hf]; split <;> omega
          have hh24 : sf_X5_handle (p : Int) how (pr_V s n) C1 = sf_X5_handle_24 (p : Int) how (pr_V s n) f C1 := by
            unfold sf_X5_handle
            rcases hw12 with h | h
            · rw [if_pos h] at hf ⊢
              have y : ∀ _ : Nat, am_w32 (C1.2 72 p) = f := fun _ => by rw [hcC 72, a3, ← hf, pr_w (by omega) (by omega)]
              rw [pr_atn hp100, pr_b2, y 0]
            · rw [if_neg (by omega)] at hf ⊢
              have y : ∀ _ : Nat, am_w32 (C1.2 73 p) = f := fun _ => by rw [hcC 73, a4, ← hf, pr_w (by omega) (by omega)]
              rw [pr_atn hp100, pr_b2, y 0]
          have hdo : ∀ Sc1, sf_X5_handle_24 (p : Int) how (pr_V s n) f C1 = some Sc1 → sf_X9_doJob ((pr_jb Sr k : Nat) : Int) C1 = some Sc1 := by
            intro Sc1 h
            rw [hjb, pr_doJob (c := 2) (by omega) (by omega) hp100 (by rw [hcC 51, ← hjb]; exact h51) hq100 c41 hw12 c42, if_neg (by decide), if_pos (by decide), hh24, h, pr_b1]
          have y89 : R1.2 89 k = (p : Int) := by rw [oR.2 89 (by decide)]; exact a2
          have href : sf_X10_job (k : Int) Sr = (if 0 ≤ f then (am_b1 (sf_X10_done f s n R1) (fun S18 => (sf_X10_endBy (p : Int) (S18.1 4792) (S18.1 4790) (S18.1 4791) 0 S18))) else (sf_X10_endBy (p : Int) (how - 1) s n 0 R1)) := by
            have h200 : ∀ t : Int, sf_X10_job_200 (k : Int) s n (how - 1) t R1 = (if 0 ≤ t then (am_b1 (sf_X10_done t s n R1) (fun S18 => (sf_X10_endBy (p : Int) (S18.1 4792) (S18.1 4790) (S18.1 4791) 0 S18))) else (sf_X10_endBy (p : Int) (how - 1) s n 0 R1)) := by
              intro t
              unfold sf_X10_job_200
              rw [pr_gdn hk8, Int.toNat_natCast, y89]
              simp only [hid]
            rw [hjob2, if_neg hw2, if_neg hw3, if_neg hw4, if_neg hw5]
            rcases hw12 with h | h
            · rw [if_pos (by omega), h200, hf, if_pos h]
            · have hf' : f = Sr.2 88 k := by rw [hf, if_neg (by omega)]
              rw [if_neg (by omega), h200, ← hf']
          by_cases hf0 : f = -1
          · obtain ⟨Sc1, Sr1, g1, g2, -, -, g5, g6, g7, g8, g9, g10, -⟩ := pr_Ysettle Z1 (by omega) (p := p) (how := how) (s := s) (n := n) (k := 0) (by omega) hw12 hvR1 (pr_free0 Z1)
            have X2 := pr_RX_k X1 (pr_kX_C g6 g9) (pr_kY_R g7 g8 g10)
            obtain ⟨i1, i2, i3⟩ := pr_goIdle g5 X2
            refine ⟨k, _, C1, Sc1, _, Sr1, hfo, htk, hdo Sc1 ?_, i1, ?_, pr_Y_mono i2 (by omega) hB, i3⟩
            · unfold sf_X5_handle_24
              rw [if_pos hf0, g1, pr_b1]
            · rw [href, if_neg (by omega)]; exact g2
          · have Z2 : pr_Y B (am_sI C1 460 (p : Int)) R1 := pr_Y_run Z1 (pr_out_sI (pr_out_refl _) (by decide)) (pr_out_refl _)
            have X2 : pr_RX (am_sI C1 460 (p : Int)) R1 [] := pr_RX_same X1 rfl rfl rfl rfl rfl rfl rfl rfl rfl rfl rfl rfl rfl rfl rfl rfl
            obtain ⟨C2, R2, g1, g2, g3, g4, g5, g6, -⟩ := pr_begin Z2 X2 (a := 100) (f := f) (s := s) (n := n) (by omega) hvR1 (by omega) (by simp) (fun h => absurd rfl h) (fun _ => rfl)
            rw [if_pos rfl] at g2
            have hdn : pr_dn (p : Int) C2 R2 [100] := ⟨fun _ => ⟨by rw [g5.1 460 (by decide)]; rfl, by omega, by rw [g6.1 4745 (by decide)]; omega⟩, fun h => absurd (List.mem_singleton.mpr rfl) h⟩
            obtain ⟨Sc2, Sr2, u1, u2, u3⟩ := pr_go g3 g4 hdn (by rw [g6.1 4789 (by decide)]; exact t2') (by omega)
            obtain ⟨Sr3, w1, w2, w3⟩ := u3.1 (by omega)
            refine ⟨k, _, C1, C2, Sc2, Sr3, hfo, htk, hdo C2 ?_, u1, ?_, pr_Y_mono w2 (by omega) hB, w3⟩
            · unfold sf_X5_handle_24 sf_X5_perform
              have g1' : sf_X5_enter 100 f (pr_V s n) (am_sI C1 460 (p : Int)) = some C2 := g1
              rw [if_neg hf0, pr_let, g1', pr_b1, pr_b1]
            · rw [href, if_pos (by omega)]
              unfold sf_X10_done
              rw [g2, pr_b1, u2, pr_b1, pr_b1]; exact w1
