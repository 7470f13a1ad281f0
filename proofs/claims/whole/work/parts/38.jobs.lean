/-! JOBS: taken; to ADOPT; ADOPTION; PLACES -/
theorem pr_Ytake {B : Int} {Sc Sr : am_S} (Z : pr_Y B Sc Sr) (hj : 0 < Sc.1 76) :
    ∃ (k p : Nat) (Sc' : am_S), pr_live Sr k ∧ Sr.2 85 k = -1 ∧ (∀ S0 : am_S, S0.2 84 = Sr.2 84 → S0.2 85 = Sr.2 85 → S0.2 86 = Sr.2 86 → S0.1 4755 = Sr.1 4755 → sf_X10_firstOn (-1) S0 = some ((k : Int), S0)) ∧ sf_X3_takeJob Sc = some ((pr_jb Sr k : Int), Sc') ∧ pr_Y B Sc' (am_sA Sr 84 k 0) ∧ (p : Int) < Sr.1 4745 ∧ pr_JK Sc Sr (Sr.1 4745) k p ∧ pr_JO Sc Sr (Sr.1 4745) k
      ∧ (∀ k', pr_live (am_sA Sr 84 k 0) k' → k' ≠ k ∧ pr_live Sr k' ∧ pr_cd Sr k' ≠ pr_cd Sr k) ∧ pr_out [76, 77] [] Sc Sc' := by
  have Z0 := Z
  obtain ⟨⟨KS, R⟩, O, G⟩ := Z
  have hfo : ∀ S0 : am_S, S0.2 84 = Sr.2 84 → S0.2 85 = Sr.2 85 → S0.2 86 = Sr.2 86 → S0.1 4755 = Sr.1 4755 → sf_X10_firstOn (-1) S0 = some (pr_hd (KS (-1)), S0) := fun S0 h1 h2 h3 h4 => pr_firstOn (pr_TB_same R.2.2.1 h1 h2 h3 (by rw [h4]; exact Int.le_refl _)) (-1)
  have hCH := R.2.2.2.2.1
  cases hK : KS (-1) with
  | nil =>
    rw [hK] at hCH
    have := hCH.1
    simp at this
    omega
  | cons k l =>
    have hl := pr_RB_live R (q := -1) (k := k) (by rw [hK]; exact List.mem_cons_self)
    obtain ⟨Sc', g1, g2, g3⟩ := pr_take R hK
    obtain ⟨⟨p, hp, j⟩, hO⟩ := R.2.2.2.2.2.2.1 k hl.1
    rw [hK] at hfo
    refine ⟨k, p, Sc', hl.1, hl.2, hfo, g1, ⟨⟨_, g2⟩, pr_O_keep O (fun a _ _ => by rw [g3.2 a (by simp)]) (g3.1 _ (by decide)) (g3.1 _ (by decide)) (g3.1 _ (by decide)) (g3.1 _ (by decide)) (g3.1 _ (by decide)) (fun a h1 _ _ => pr_AA _ _ _ (by omega)) rfl rfl rfl rfl (Int.le_refl _) (Int.le_refl _), ?_⟩, hp, j, hO, ?_, g3⟩
    · intro p' k' h1 h2 h3
      have hne : k' ≠ k := fun e => by subst e; exact h1.2 (am_up_self _ _ _)
      have x84 : (am_sA Sr 84 k 0).2 84 k' = Sr.2 84 k' := am_up_ne _ _ hne
      exact pr_GD_keep (G p' k' ⟨h1.1, by rw [← x84]; exact h1.2⟩ (by rw [← x84]; exact h2) h3) (by rw [g3.2 64 (by decide)]) (by rw [g3.2 65 (by decide)]) (by rw [g3.2 66 (by decide)]) rfl rfl rfl rfl (fun h => h)
    · intro k' h1
      have hne : k' ≠ k := fun e => by subst e; exact h1.2 (am_up_self _ _ _)
      have x84 : (am_sA Sr 84 k 0).2 84 k' = Sr.2 84 k' := am_up_ne _ _ hne
      have h1' : pr_live Sr k' := ⟨h1.1, by rw [← x84]; exact h1.2⟩
      exact ⟨hne, h1', fun e => hne (R.2.2.2.2.2.2.2.1 k' k h1' hl.1 e)⟩
theorem pr_Yidle {B : Int} {Sc Sr : am_S} (Z : pr_Y B Sc Sr) (hj : ¬ 0 < Sc.1 76) : Sc.1 76 = 0 ∧ sf_X10_firstOn (-1) Sr = some (-1, Sr) := by
  obtain ⟨⟨KS, R⟩, O, G⟩ := Z
  have hfo := pr_firstOn R.2.2.1 (-1)
  have hCH := R.2.2.2.2.1
  cases hK : KS (-1) with
  | nil =>
    rw [hK] at hCH hfo
    exact ⟨hCH.1, hfo⟩
  | cons k l =>
    rw [hK] at hCH
    have := hCH.1
    simp at this
    omega
theorem pr_Ykey {B : Int} {Sc Sr : am_S} (Z : pr_Y B Sc Sr) {p : Nat} (hp : (p : Int) < Sr.1 4745) {v : Int} (hv : v = Sr.2 78 p + 1) (hh : Sr.2 75 p = 0) (hb : B + 1 < 2000000000) (hfree : ∀ k, pr_live Sr k → Sr.2 84 k = 2 ∨ Sr.2 84 k = 5 → Sr.2 87 k ≠ (p : Int)) : pr_Y (B + 1) (am_sA (am_sA Sc 43 p v) 44 p 0) (am_sA (am_sA Sr 78 p v) 81 p 0) := by
  have hpd := pr_Y_pd Z hp
  have h0 := hpd.2.2.2.2.1
  obtain ⟨⟨KS, R⟩, O, G⟩ := Z
  refine ⟨⟨KS, pr_key R hp hv hh hb hfree⟩, pr_O_mono (pr_O_keep O (fun a h1 h2 => by rw [pr_AA _ _ _ (by omega), pr_AA _ _ _ (by omega)]) rfl rfl rfl rfl rfl (fun a h1 _ _ => by rw [pr_AA _ _ _ (by omega), pr_AA _ _ _ (by omega)]) rfl rfl rfl rfl (Int.le_refl _) (Int.le_refl _)) (by omega), pr_RG_mono (B := B) (Sc := am_sA (am_sA Sc 43 p v) 44 p 0) (Sr := am_sA (am_sA Sr 78 p v) 81 p 0) (fun p' k h1 h2 h3 => ?_) (by omega)⟩
  refine pr_GD_keep (Sc := Sc) (Sr := Sr) (G p' k h1 h2 h3) rfl rfl rfl rfl rfl rfl rfl (fun h => ?_)
  show am_up (Sr.2 78) p v p' = 0 → am_up (Sr.2 81) p 0 p' = 1
  by_cases e : p' = p
  · subst e
    rw [am_up_self]; intro h2; omega
  · rw [am_up_ne _ _ e, am_up_ne _ _ e]; exact h
/-- in vain, where KEY 0 is spent -/
theorem pr_vain {B : Int} {Sc Sr : am_S} (Z : pr_Y B Sc Sr) {p : Nat} (hp : (p : Int) < Sr.1 4745) (hs : Sr.2 78 p = 0 → Sr.2 81 p = 1) (how v s n : Int) : sf_X3_settleBy (p : Int) how v 0 Sc = some Sc ∧ sf_X10_resolveBy (p : Int) s n 0 Sr = some Sr ∧ sf_X10_rejectBy (p : Int) s n 0 Sr = some Sr := by
  obtain ⟨m1, m2, m3, m4, m5⟩ := pr_Y_m Z
  obtain ⟨d1, d2, d3, d4, d5, d6, d7, d8, -⟩ := pr_Y_pd Z hp
  have hp100 : p < 100 := by omega
  have hR : sf_X10_takes (p : Int) 0 Sr = some (0, Sr) := by
    unfold sf_X10_takes
    simp only [pr_gdn hp100, pr_let, Int.toNat_natCast]
    by_cases h : Sr.2 78 p = 0
    · rw [if_pos h, if_neg (by have := hs h; omega)]
    · rw [if_neg h]
  refine ⟨?_, ?_, ?_⟩
  · unfold sf_X3_settleBy
    have w43 : ∀ _ : Nat, am_w32 (Sc.2 43 p) = Sr.2 78 p := fun _ => by rw [d4, pr_w (by omega) (by omega)]
    have w44 : ∀ _ : Nat, am_w32 (Sc.2 44 p) = Sr.2 81 p := fun _ => by rw [d7, pr_w (by omega) (by omega)]
    rw [pr_has m1, if_pos ⟨by omega, hp⟩, pr_b2, if_neg (by decide), pr_atn hp100, pr_b2, w43 0]
    by_cases h : (0 : Int) = Sr.2 78 p
    · have h81 := hs h.symm
      rw [if_pos h]
      unfold sf_X3_isKeyUsed
      rw [pr_atn hp100, pr_b2, w44 0, if_pos h81, pr_b2, if_neg (by decide)]
    · rw [if_neg h]
  · unfold sf_X10_resolveBy
    rw [hR, pr_b2, if_pos rfl]
  · unfold sf_X10_rejectBy
    rw [hR, pr_b2, if_pos rfl]
theorem pr_at_tot (a n : Nat) (i : Int) (S : am_S) : ∃ v, sf_X4_at a n i S = some (v, S) := by
  unfold sf_X4_at
  by_cases h1 : i < 0
  · rw [if_pos h1]; exact ⟨_, rfl⟩
  · rw [if_neg h1]
    by_cases h2 : (n : Int) ≤ i
    · rw [if_pos h2]; exact ⟨_, rfl⟩
    · rw [if_neg h2, pr_gd (by omega) (by omega)]; exact ⟨_, rfl⟩
theorem pr_va_tot (a n : Nat) (i : Int) (S : am_S) : ∃ v, sf_X4_valueAt a n i S = some (v, S) := by
  unfold sf_X4_valueAt
  by_cases h1 : i < 0
  · rw [if_pos h1]; exact ⟨_, rfl⟩
  · rw [if_neg h1]
    by_cases h2 : (n : Int) ≤ i
    · rw [if_pos h2]; exact ⟨_, rfl⟩
    · rw [if_neg h2, pr_gd (by omega) (by omega)]; exact ⟨_, rfl⟩
/-- a JOB to ADOPT -/
theorem pr_adopt {B : Int} {Sc Sr : am_S} (Z : pr_Y B Sc Sr) (hB : B + 5 < 2000000000) {p : Nat} (hp : (p : Int) < Sr.1 4745) {s n : Int} (hv : pr_VV (Sr.1 4745) s n) (hs0 : s ≠ 0) (hh : Sr.2 75 p = 0) (hfree : ∀ k, pr_live Sr k → Sr.2 84 k = 2 ∨ Sr.2 84 k = 5 → Sr.2 87 k ≠ (p : Int)) :
    ∃ Sc' Sr', am_b2 (sf_X3_addKey (p : Int) Sc) (fun x19 S18 => (am_b1 (sf_X9_adopt (p : Int) (pr_V s n) x19 S18) (fun S21 => (some S21)))) = some Sc' ∧ sf_X10_adopt (p : Int) s n Sr = some Sr' ∧ pr_Y (B + 5) Sc' Sr' ∧ pr_kC Sc Sc' ∧ pr_kR Sr Sr' ∧ Sr'.1 4745 = Sr.1 4745 ∧ Sc'.2 71 = Sc.2 71 ∧ Sr'.2 83 = Sr.2 83 := by
  obtain ⟨m1, m2, m3, m4, m5⟩ := pr_Y_m Z
  obtain ⟨d1, d2, d3, d4, d5, d6, d7, d8, -⟩ := pr_Y_pd Z hp
  have hp100 : p < 100 := by omega
  obtain ⟨v, hv1, hv2⟩ : ∃ v, (∀ _ : Nat, v = am_w32 (Sr.2 78 p + 1)) ∧ v = Sr.2 78 p + 1 := ⟨_, fun _ => rfl, pr_w (by omega) (by omega)⟩
  have w43 : ∀ _ : Nat, am_w32 (Sc.2 43 p) = Sr.2 78 p := fun _ => by rw [d4, pr_w (by omega) (by omega)]
  have Z1 := pr_Ykey Z hp hv2 hh (by omega) hfree
  obtain ⟨C1, hC1⟩ : ∃ C1, C1 = am_sA (am_sA Sc 43 p v) 44 p 0 := ⟨_, rfl⟩
  obtain ⟨R1, hR1⟩ : ∃ R1, R1 = am_sA (am_sA Sr 78 p v) 81 p 0 := ⟨_, rfl⟩
  rw [← hC1, ← hR1] at Z1
  have oC : pr_out [] [43, 44] Sc C1 := by rw [hC1]; exact pr_out_sA (pr_out_sA (pr_out_refl _) (by decide)) (by decide)
  have oR : pr_out [] [78, 81] Sr R1 := by rw [hR1]; exact pr_out_sA (pr_out_sA (pr_out_refl _) (by decide)) (by decide)
  have kC1 : pr_kC Sc C1 := pr_kC_out oC (by decide) (by decide)
  have kR1 : pr_kR Sr R1 := pr_kR_out oR (by decide) (by decide)
  have hm1 : R1.1 4745 = Sr.1 4745 := oR.1 _ (by decide)
  have x78 : R1.2 78 p = v := by rw [hR1]; exact am_up_self _ _ _
  have x81 : R1.2 81 p = 0 := by rw [hR1]; exact am_up_self _ _ _
  have hfree1 : ∀ k, pr_live R1 k → R1.2 84 k = 2 ∨ R1.2 84 k = 5 → R1.2 87 k ≠ (p : Int) := by
    intro k hk
    rw [oR.2 84 (by decide), oR.2 87 (by decide)]
    exact hfree k ⟨hk.1, by have := hk.2; rw [oR.2 84 (by decide)] at this; exact this⟩
  have hkey : sf_X3_addKey (p : Int) Sc = some (v, C1) := by
    unfold sf_X3_addKey
    rw [pr_atn hp100, pr_b2, w43 0, ← hv1 0, pr_putn hp100, pr_b1, pr_putn hp100, pr_b1, hC1]
  rw [hkey, pr_b2]
  have hrefP : ∀ (X : Option am_S), (s = 1 → sf_X10_waitFor n 2 (p : Int) v 0 R1 = X) → (s ≠ 1 → am_gd n 4 (if R1.2 93 n.toNat = 0 then (am_gd n 4 (am_gd n 4 (am_b1 (sf_X10_resolveBy (p : Int) (R1.2 94 n.toNat) (R1.2 95 n.toNat) v R1) (fun S3 => (sf_X10_adopt_74 (p : Int) n v S3))))) else (am_gd n 4 (if R1.2 93 n.toNat = 2 then (am_gd n 4 (am_gd n 4 (am_b1 (sf_X10_resolveBy (p : Int) (R1.2 94 n.toNat) (R1.2 95 n.toNat) v R1) (fun S5 => (sf_X10_adopt_74 (p : Int) n v S5))))) else (sf_X10_adopt_74 (p : Int) n v R1)))) = X) → sf_X10_adopt (p : Int) s n Sr = am_b1 X (fun S => some S) := by
    intro X h1 h2
    have hid : ∀ o : Option am_S, am_b1 o (fun S => some S) = o := fun o => by cases o <;> rfl
    unfold sf_X10_adopt
    have y78 : (am_sA Sr 78 p v).2 81 = Sr.2 81 := rfl
    rw [pr_gdn hp100, pr_gdn hp100, Int.toNat_natCast, ← hv1 0, pr_let, pr_gdn hp100, pr_let, ← hR1]
    by_cases hs : s = 1
    · rw [if_pos hs, h1 hs]
    · rw [if_neg hs, h2 hs, hid]
  have hid : ∀ o : Option am_S, am_b1 o (fun S => some S) = o := fun o => by cases o <;> rfl
  rw [hid]
  by_cases hs1 : s = 1
  · have hn : 0 ≤ n ∧ n < Sr.1 4745 := by
      rcases hv.2 with h | ⟨_, h⟩ | h
      · exact absurd h hs0
      · exact h
      · omega
    obtain ⟨q, hq⟩ : ∃ q : Nat, n = (q : Int) := ⟨n.toNat, by omega⟩
    have hjv : pr_jv 2 (p : Int) v 0 = 9 * p + 1 := by unfold pr_jv; simp; omega
    obtain ⟨Sc', Sr', w1, w2, w3, w4, w5, w6, w7, w8, w9, w10, w11⟩ := pr_Ywait Z1 (by omega) (q := q) (p := p) (j := 9 * p + 1) (by omega) (by omega) (w := 2) (a := (p : Int)) (b := v) (c := 0) (Or.inr (Or.inl ⟨rfl, rfl, x81, x78, by omega⟩)) hjv (pr_ncd2 Z1 hfree1) (fun h => by omega)
    refine ⟨Sc', Sr', ?_, ?_, pr_Y_mono w3 (by omega) hB, pr_kC_trans kC1 w4, pr_kR_trans kR1 w5, by omega, by rw [w7, oC.2 71 (by decide)], by rw [w8, oR.2 83 (by decide)]⟩
    · unfold sf_X9_adopt
      have hj : ∀ S, sf_X9_jobOf (p : Int) 1 S = some (((9 * p + 1 : Nat) : Int), S) := fun S => pr_jobOf (i := 1) hp100 (by omega) S
      rw [pr_numberOf hv.1, pr_b2, pr_sortOf (pr_VV_s hv), pr_b2, if_pos hs1, hj, pr_b2, hq, w1, pr_b1]
    · rw [hrefP (some Sr') (fun _ => by rw [hq]; exact w2) (fun h => absurd hs1 h), pr_b1]
  · have hn : 0 ≤ n ∧ n < 4 := by
      rcases hv.2 with h | ⟨h, _⟩ | ⟨_, h⟩
      · exact absurd h hs0
      · exact absurd h hs1
      · exact h
    obtain ⟨t, ht⟩ : ∃ t : Nat, n = (t : Int) := ⟨n.toNat, by omega⟩
    have ht4 : t < 4 := by omega
    obtain ⟨T1, T2, T3, T4⟩ := Z1.2.1.1 t ht4
    have w52 : ∀ _ : Nat, am_w32 (C1.2 52 t) = R1.2 93 t := fun _ => by rw [T1, pr_w (by omega) (by omega)]
    have hC : sf_X9_adopt (p : Int) (pr_V s n) v C1 = (if R1.2 93 t = 0 then (am_b2 (sf_X7_uOf n C1) (fun x12 S11 => (am_b1 (sf_X3_settleBy (p : Int) 1 x12 v S11) (fun S14 => (some S14))))) else (if R1.2 93 t = 1 then (am_b2 (sf_X7_uOf n C1) (fun x17 S16 => (am_b1 (sf_X3_settleBy (p : Int) 2 x17 v S16) (fun S19 => (some S19))))) else (if R1.2 93 t = 2 then (am_b2 (sf_X7_uOf n C1) (fun x22 S21 => (am_b1 (sf_X3_settleBy (p : Int) 1 x22 v S21) (fun S24 => (am_b2 (sf_X7_wOf n S24) (fun x27 S26 => (am_b1 (sf_X3_settleBy (p : Int) 2 x27 v S26) (fun S29 => (some S29))))))))) else (some C1)))) := by
      unfold sf_X9_adopt
      rw [pr_numberOf hv.1, pr_b2, pr_sortOf (pr_VV_s hv), pr_b2, if_neg hs1]
      have hk : sf_X7_kindOf n C1 = some (R1.2 93 t, C1) := by
        unfold sf_X7_kindOf
        rw [ht, pr_atn ht4, pr_b2, w52 0]
      rw [hk, pr_b2]
    have hu : ∀ S : am_S, sf_X7_uOf n S = some (S.2 53 t, S) := fun S => by
      unfold sf_X7_uOf
      rw [ht, pr_van ht4, pr_b2]
    have hw : ∀ S : am_S, sf_X7_wOf n S = some (S.2 54 t, S) := fun S => by
      unfold sf_X7_wOf
      rw [ht, pr_van ht4, pr_b2]
    have h74 : ∀ R2 : am_S, sf_X10_adopt_74 (p : Int) n v R2 = (if R2.2 93 t = 1 then (am_b1 (sf_X10_rejectBy (p : Int) (R2.2 94 t) (R2.2 95 t) v R2) (fun S9 => (sf_X10_adopt_103 (p : Int) n v S9))) else (sf_X10_adopt_103 (p : Int) n v R2)) := fun R2 => by
      unfold sf_X10_adopt_74
      rw [ht]
      simp only [pr_gdn ht4, Int.toNat_natCast]
    have h103 : ∀ R2 : am_S, sf_X10_adopt_103 (p : Int) n v R2 = (if R2.2 93 t = 2 then (am_b1 (sf_X10_rejectBy (p : Int) (R2.2 96 t) (R2.2 97 t) v R2) (fun S11 => some S11)) else some R2) := fun R2 => by
      unfold sf_X10_adopt_103
      rw [ht]
      simp only [pr_gdn ht4, Int.toNat_natCast]
    rw [hC]
    have hrefT : ∀ X : Option am_S, (if R1.2 93 t = 0 then (am_b1 (sf_X10_resolveBy (p : Int) (R1.2 94 t) (R1.2 95 t) v R1) (fun S3 => (sf_X10_adopt_74 (p : Int) n v S3))) else (if R1.2 93 t = 2 then (am_b1 (sf_X10_resolveBy (p : Int) (R1.2 94 t) (R1.2 95 t) v R1) (fun S5 => (sf_X10_adopt_74 (p : Int) n v S5))) else (sf_X10_adopt_74 (p : Int) n v R1))) = X → sf_X10_adopt (p : Int) s n Sr = X := by
      intro X hX
      rw [hrefP X (fun h => absurd h hs1) (fun _ => ?_), hid]
      rw [ht]
      simp only [pr_gdn ht4, Int.toNat_natCast]
      rw [← ht]; exact hX
    by_cases h3 : R1.2 93 t = 3
    · refine ⟨C1, R1, ?_, hrefT (some R1) ?_, pr_Y_mono Z1 (by omega) hB, kC1, kR1, hm1, oC.2 71 (by decide), oR.2 83 (by decide)⟩
      · rw [if_neg (by omega), if_neg (by omega), if_neg (by omega)]
      · rw [if_neg (by omega), if_neg (by omega), h74, if_neg (by omega), h103, if_neg (by omega)]
    · obtain ⟨u1, u2, u3, u4⟩ := T4 h3
      have hfk : R1.2 78 p = v → R1.2 81 p = 0 → ∀ k', pr_live R1 k' → R1.2 84 k' = 2 ∨ R1.2 84 k' = 5 → R1.2 87 k' ≠ (p : Int) := fun _ _ => hfree1
      by_cases hk1 : R1.2 93 t = 1
      · obtain ⟨Sc', Sr', g1, g2, -, g4, g5, g6, g7, g8, g9, g10, -⟩ := pr_Ysettle Z1 (by omega) (p := p) (how := 2) (s := R1.2 94 t) (n := R1.2 95 t) (k := v) (by omega) (Or.inr rfl) u2 hfk
        refine ⟨Sc', Sr', ?_, hrefT (some Sr') ?_, pr_Y_mono g5 (by omega) hB, pr_kC_trans kC1 g6, pr_kR_trans kR1 g7, by omega, by rw [g9, oC.2 71 (by decide)], by rw [g10, oR.2 83 (by decide)]⟩
        · rw [if_neg (by omega), if_pos hk1, hu, pr_b2, u1, g1, pr_b1]
        · rw [if_neg (by omega), if_neg (by omega), h74, if_pos hk1, g4 rfl, pr_b1, h103, g7.1 93 (by omega), if_neg (by omega)]
      · obtain ⟨Sc2, Sr2, g1, g2, g3, -, g5, g6, g7, g8, g9, g10, g11, g12, g13, -⟩ := pr_Ysettle Z1 (by omega) (p := p) (how := 1) (s := R1.2 94 t) (n := R1.2 95 t) (k := v) (by omega) (Or.inl rfl) u2 hfk
        by_cases hk0 : R1.2 93 t = 0
        · refine ⟨Sc2, Sr2, ?_, hrefT (some Sr2) ?_, pr_Y_mono g5 (by omega) hB, pr_kC_trans kC1 g6, pr_kR_trans kR1 g7, by omega, by rw [g9, oC.2 71 (by decide)], by rw [g10, oR.2 83 (by decide)]⟩
          · rw [if_pos hk0, hu, pr_b2, u1, g1, pr_b1]
          · rw [if_pos hk0, g3 rfl, pr_b1, h74, g7.1 93 (by omega), if_neg (by omega), h103, g7.1 93 (by omega), if_neg (by omega)]
        · have hk2 : R1.2 93 t = 2 := by omega
          obtain ⟨Sc3, Sr3, q1, q2, -, q4, q5, q6, q7, q8, q9, q10, -⟩ := pr_Ysettle g5 (by omega) (p := p) (how := 2) (s := R1.2 96 t) (n := R1.2 97 t) (k := v) (by omega) (Or.inr rfl) (by rw [g8]; exact u4) (fun ha hb => by have := g13 ha; omega)
          refine ⟨Sc3, Sr3, ?_, hrefT (some Sr3) ?_, pr_Y_mono q5 (by omega) hB, pr_kC_trans kC1 (pr_kC_trans g6 q6), pr_kR_trans kR1 (pr_kR_trans g7 q7), by omega, by rw [q9, g9, oC.2 71 (by decide)], by rw [q10, g10, oR.2 83 (by decide)]⟩
          · rw [if_neg hk0, if_neg hk1, if_pos hk2, hu, pr_b2, u1, g1, pr_b1, hw, pr_b2, g6.1 54 (by omega) (by omega), u3, q1, pr_b1]
          · rw [if_neg hk0, if_pos hk2, g3 rfl, pr_b1, h74, g7.1 93 (by omega), if_neg hk1, h103, g7.1 93 (by omega), if_pos hk2, g7.1 96 (by omega), g7.1 97 (by omega), q4 rfl, pr_b1]
/-- cells of GROUP d change -/
theorem pr_Y_G {B : Int} {Sc Sr Sc' Sr' : am_S} (Z : pr_Y B Sc Sr) {d : Nat} (hc : pr_out [] [64, 65, 66] Sc Sc') (hr : pr_out [] [102, 103, 104, 105] Sr Sr') (hd : ∀ q, q ≠ d → Sc'.2 64 q = Sc.2 64 q ∧ Sc'.2 65 q = Sc.2 65 q ∧ Sc'.2 66 q = Sc.2 66 q ∧ Sr'.2 102 q = Sr.2 102 q ∧ Sr'.2 103 q = Sr.2 103 q ∧ Sr'.2 104 q = Sr.2 104 q ∧ Sr'.2 105 q = Sr.2 105 q) {B2 : Int} (hB : B ≤ B2) (hB2 : B2 < 2000000000)
    (hG : (∃ k, pr_live Sr k ∧ Sr.2 84 k = 3 ∧ Sr.2 87 k = (d : Int)) → pr_GD B2 Sc' Sr' d) : pr_Y B2 Sc' Sr' := by
  obtain ⟨⟨KS, R⟩, O, G⟩ := Z
  have hjb : pr_jb Sr' = pr_jb Sr := funext fun k => pr_jb_congr (by rw [hr.2 84 (by decide)]) (by rw [hr.2 87 (by decide)]) (by rw [hr.2 88 (by decide)]) (by rw [hr.2 89 (by decide)])
  refine ⟨⟨KS, pr_RB_mono (pr_RB_of R (hc.1 _ (by decide)) (hc.1 _ (by decide)) (hc.1 _ (by decide)) (hc.1 _ (by decide)) (hc.2 47 (by decide)) (hc.2 48 (by decide)) (hc.2 49 (by decide)) (hc.2 50 (by decide)) (hr.1 _ (by decide)) (hr.1 _ (by decide)) (hr.2 84 (by decide)) (hr.2 85 (by decide)) (hr.2 86 (by decide)) (hr.2 87 (by decide)) (hr.2 88 (by decide)) (hr.2 89 (by decide)) (fun p _ h => ?_) (fun k _ hJ hO => ⟨?_, ?_⟩) (fun p _ _ => by rw [hc.2 71 (by decide)])) hB hB2⟩, pr_O_mono (pr_O_keep O (fun a h1 h2 => hc.2 a (by simp; omega)) (hc.1 _ (by decide)) (hc.1 _ (by decide)) (hc.1 _ (by decide)) (hc.1 _ (by decide)) (hc.1 _ (by decide)) (fun a h1 h2 h3 => hr.2 a (by simp; omega)) (hr.1 _ (by decide)) (hr.1 _ (by decide)) (hr.1 _ (by decide)) (hr.1 _ (by decide)) (by rw [hr.1 4745 (by decide)]; exact Int.le_refl _) (by rw [hr.1 4755 (by decide)]; exact Int.le_refl _)) hB, ?_⟩
  · unfold pr_PD at h ⊢
    rw [hc.2 41 (by decide), hc.2 42 (by decide), hc.2 43 (by decide), hc.2 44 (by decide), hc.2 45 (by decide), hr.2 75 (by decide), hr.2 76 (by decide), hr.2 77 (by decide), hr.2 78 (by decide), hr.2 81 (by decide), hr.2 82 (by decide)]
    exact h
  · obtain ⟨p, hp, j⟩ := hJ
    refine ⟨p, hp, ?_⟩
    unfold pr_JK at j ⊢
    rw [hr.2 84 (by decide), hr.2 85 (by decide), hr.2 87 (by decide), hr.2 88 (by decide), hr.2 89 (by decide), hr.2 90 (by decide), hr.2 91 (by decide), hr.2 92 (by decide), hr.2 81 (by decide), hr.2 78 (by decide), hr.2 75 (by decide), hc.2 72 (by decide), hc.2 73 (by decide), hc.2 46 (by decide), hc.2 71 (by decide)]
    exact j
  · unfold pr_JO at hO ⊢
    rw [hjb, hr.2 84 (by decide), hr.2 85 (by decide), hr.2 90 (by decide), hr.2 91 (by decide), hr.2 92 (by decide), hr.2 75 (by decide), hr.2 76 (by decide), hr.2 77 (by decide), hc.2 51 (by decide)]
    exact hO
  · intro p k hk hk3 hkp
    have hk' : pr_live Sr k := ⟨hk.1, by have := hk.2; rw [hr.2 84 (by decide)] at this; exact this⟩
    rw [hr.2 84 (by decide)] at hk3
    rw [hr.2 87 (by decide)] at hkp
    by_cases e : p = d
    · subst e; exact hG ⟨k, hk', hk3, hkp⟩
    · obtain ⟨a1, a2, a3, a4, a5, a6, a7⟩ := hd p e
      refine pr_GD_mono (pr_GD_keep (G p k hk' hk3 hkp) a1 a2 a3 a4 a5 a6 a7 (fun h => ?_)) hB
      rw [hr.2 78 (by decide), hr.2 81 (by decide)]; exact h
