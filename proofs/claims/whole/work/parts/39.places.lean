/-! PLACES of a GROUP -/
def pr_kX (Sc Sc' : am_S) : Prop := (∀ a, 67 ≤ a → a ≤ 71 → Sc'.2 a = Sc.2 a) ∧ ∀ n, 79 ≤ n → Sc'.1 n = Sc.1 n
def pr_kY (Sr Sr' : am_S) : Prop := (∀ a, a = 79 ∨ a = 80 ∨ a = 83 ∨ 116 ≤ a → Sr'.2 a = Sr.2 a) ∧ ∀ n, n ≠ 4755 → Sr'.1 n = Sr.1 n
theorem pr_kX_trans {S S1 S2 : am_S} (h : pr_kX S S1) (h2 : pr_kX S1 S2) : pr_kX S S2 := ⟨fun a ha hb => (h2.1 a ha hb).trans (h.1 a ha hb), fun n hn => (h2.2 n hn).trans (h.2 n hn)⟩
theorem pr_kY_trans {S S1 S2 : am_S} (h : pr_kY S S1) (h2 : pr_kY S1 S2) : pr_kY S S2 := ⟨fun a ha => (h2.1 a ha).trans (h.1 a ha), fun n hn => (h2.2 n hn).trans (h.2 n hn)⟩
theorem pr_kX_C {S S' : am_S} (h : pr_kC S S') (h71 : S'.2 71 = S.2 71) : pr_kX S S' := ⟨fun a h1 h2 => by
  by_cases e : a = 71
  · rw [e]; exact h71
  · exact h.1 a (by omega) (by omega), h.2⟩
theorem pr_kY_R {S S' : am_S} (h : pr_kR S S') (hm : S'.1 4745 = S.1 4745) (h83 : S'.2 83 = S.2 83) : pr_kY S S' := ⟨fun a ha => by
  by_cases e : a = 83
  · rw [e]; exact h83
  · exact h.1 a (by omega), fun n hn => by
  by_cases e : n = 4745
  · rw [e]; exact hm
  · exact h.2 n e hn⟩
theorem pr_RX_k {Sc Sr Sc' Sr' : am_S} {st : List Nat} (X : pr_RX Sc Sr st) (hx : pr_kX Sc Sc') (hy : pr_kY Sr Sr') : pr_RX Sc' Sr' st :=
  pr_RX_same X (hx.1 _ (by omega) (by omega)) (hx.1 _ (by omega) (by omega)) (hx.1 _ (by omega) (by omega)) (hx.1 _ (by omega) (by omega)) (hx.1 _ (by omega) (by omega)) (hx.2 _ (by omega)) (hy.1 _ (by omega)) (hy.1 _ (by omega)) (hy.1 _ (by omega)) (hy.1 _ (by omega)) (hy.1 _ (by omega)) (hy.1 _ (by omega)) (hy.1 _ (by omega)) (hy.1 _ (by omega)) (hy.2 _ (by omega)) (hy.2 _ (by omega))
theorem pr_Bsettle {B : Int} {Sc Sr : am_S} (hR : ∃ KS, pr_RB B Sc Sr KS) (O : pr_O B Sc Sr) (hB : B + 1 < 2000000000) {p : Nat} (hp : (p : Int) < Sr.1 4745) {how s n k : Int} (hw : how = 1 ∨ how = 2) (hv : pr_VV (Sr.1 4745) s n)
    (hfree : Sr.2 78 p = k → Sr.2 81 p = 0 → ∀ k', pr_live Sr k' → Sr.2 84 k' = 2 ∨ Sr.2 84 k' = 5 → Sr.2 87 k' ≠ (p : Int)) :
    ∃ Sc' Sr', sf_X3_settleBy (p : Int) how (pr_V s n) k Sc = some Sc' ∧ sf_X10_endBy (p : Int) (how - 1) s n k Sr = some Sr'
      ∧ (∃ KS, pr_RB (B + 1) Sc' Sr' KS) ∧ pr_O (B + 1) Sc' Sr' ∧ pr_kC Sc Sc' ∧ pr_kR Sr Sr' ∧ Sr'.1 4745 = Sr.1 4745 ∧ Sc'.2 71 = Sc.2 71 ∧ Sr'.2 83 = Sr.2 83 ∧ Sr'.2 78 = Sr.2 78 ∧ pr_old Sr Sr' 5 (p : Int) ∧ (Sr'.2 78 p = k → Sr'.2 81 p = 1) ∧ (∀ q, Sr.2 81 q = 1 → Sr'.2 81 q = 1) := by
  obtain ⟨KS, R⟩ := hR
  obtain ⟨Sc', Sr', KS', h1, h2, h3, h4, h5, h6, h7, h8, h9, h10, h11, h12⟩ := pr_settleBy R hB hp hw hv hfree
  have kc : pr_kC Sc Sc' := pr_kC_out h6 (by decide) (by decide)
  have kr : pr_kR Sr Sr' := pr_kR_out h7 (by decide) (by decide)
  have hm : Sr'.1 4745 = Sr.1 4745 := h7.1 4745 (by decide)
  exact ⟨Sc', Sr', h1, h2, ⟨KS', h5⟩, pr_O_mono (pr_O_core O kc kr (by omega) h11) (by omega), kc, kr, hm, h6.2 71 (by decide), h7.2 83 (by decide), h7.2 78 (by decide), h8, h10, h9⟩
theorem pr_placed {B : Int} {Sc Sr : am_S} (Z : pr_Y B Sc Sr) (hB : B + 3 < 2000000000) {d i : Nat} (hd : (d : Int) < Sr.1 4745) (hi : i < 5) (hGD : pr_GD B Sc Sr d) {how s n : Int} (hw : how = 1 ∧ s = 0 ∨ how = 2) (hv : pr_VV (Sr.1 4745) s n) :
    ∃ Sc' Sr', am_b1 (sf_X1_settlePlace (d : Int) (i : Int) how (pr_V s n) Sc) (fun S11 => (am_b1 (sf_X1_settleIfComplete (d : Int) S11) (fun S13 => (some S13)))) = some Sc' ∧ sf_X10_placed (d : Int) (i : Int) how s n Sr = some Sr' ∧ pr_Y (B + 3) Sc' Sr' ∧ pr_kX Sc Sc' ∧ pr_kY Sr Sr' := by
  have Z0 := Z
  obtain ⟨m1, m2, m3, m4, m5⟩ := pr_Y_m Z
  obtain ⟨hR, O, G⟩ := Z
  have hd100 : d < 100 := by omega
  have hw12 : how = 1 ∨ how = 2 := by rcases hw with ⟨h, _⟩ | h; exact Or.inl h; exact Or.inr h
  obtain ⟨G1, G2, G3, G4, G5, G6, G7, G8⟩ := hGD
  obtain ⟨kd, hkd⟩ : ∃ kd, kd = Sr.2 102 d := ⟨_, rfl⟩
  obtain ⟨pl, hpl⟩ : ∃ pl, pl = Sc.2 65 d := ⟨_, rfl⟩
  obtain ⟨sm, hsm⟩ : ∃ sm, sm = Sc.2 66 d := ⟨_, rfl⟩
  obtain ⟨ct, hct⟩ : ∃ ct, ct = Sr.2 104 d := ⟨_, rfl⟩
  obtain ⟨sz, hsz⟩ : ∃ sz, sz = Sr.2 103 d := ⟨_, rfl⟩
  rw [← hkd] at G1 G2 G3
  rw [← hsm] at G3 G4
  rw [← hsz] at G5 G8
  rw [← hct] at G6 G8
  rw [← hpl] at G7 G8
  have w64 : ∀ _ : Nat, am_w32 (Sc.2 64 d) = kd := fun _ => by rw [G1, pr_w (by omega) (by omega)]
  have w65 : ∀ _ : Nat, am_w32 (Sc.2 65 d) = pl := fun _ => by rw [← hpl, pr_w (by omega) (by rcases G8 with h | h <;> omega)]
  have w65b : ∀ _ : Nat, am_w32 (pl - 1) = pl - 1 := fun _ => pr_w (by omega) (by rcases G8 with h | h <;> omega)
  have w66 : ∀ _ : Nat, am_w32 (Sc.2 66 d) = sm := fun _ => by rw [← hsm]; exact am_w32_id G4
  have wi : ∀ _ : Nat, am_w32 ((i : Int) + 1) = (i : Int) + 1 := fun _ => pr_w (by omega) (by omega)
  have hid : ∀ o : Option am_S, am_b1 o (fun S => some S) = o := fun o => by cases o <;> rfl
  -- the sum that the class keeps then
  obtain ⟨sm2, hsm2⟩ : ∃ sm2, ∀ _ : Nat, sm2 = (if how = 1 then am_w32 (sm + am_w32 (((i : Int) + 1) * (if kd = 0 then n else 1))) else sm) := ⟨_, fun _ => rfl⟩
  have hsm2r : am_r32 sm2 := by
    rw [hsm2 0]
    by_cases h : how = 1
    · rw [if_pos h]; exact am_w32_r _
    · rw [if_neg h]; exact G4
  have hst1 : ∃ C2, sf_X1_settlePlace (d : Int) (i : Int) how (pr_V s n) Sc = sf_X1_settlePlace_74 (d : Int) how (pr_V s n) kd C2 ∧ pr_out [] [64, 65, 66] Sc C2 ∧ C2.2 64 = Sc.2 64 ∧ C2.2 65 = am_up (Sc.2 65) d (pl - 1) ∧ C2.2 66 d = sm2 ∧ ∀ q, q ≠ d → C2.2 66 q = Sc.2 66 q := by
    have hpre : sf_X1_settlePlace (d : Int) (i : Int) how (pr_V s n) Sc = (if how = 1 then (if kd = 0 then (am_b2 (sf_X8_numberOf (pr_V s n) (am_sA Sc 65 d (pl - 1))) (fun x10 S9 => (sf_X1_settlePlace_48 (d : Int) (i : Int) how (pr_V s n) kd x10 S9))) else (sf_X1_settlePlace_48 (d : Int) (i : Int) how (pr_V s n) kd 1 (am_sA Sc 65 d (pl - 1)))) else (sf_X1_settlePlace_74 (d : Int) how (pr_V s n) kd (am_sA Sc 65 d (pl - 1)))) := by
      unfold sf_X1_settlePlace
      rw [pr_atn hd100, pr_b2, w64 0, pr_atn hd100, pr_b2, w65 0, w65b 0, pr_putn hd100, pr_b1]
    have h48 : ∀ t0 : Int, sf_X1_settlePlace_48 (d : Int) (i : Int) how (pr_V s n) kd t0 (am_sA Sc 65 d (pl - 1)) = sf_X1_settlePlace_74 (d : Int) how (pr_V s n) kd (am_sA (am_sA Sc 65 d (pl - 1)) 66 d (am_w32 (sm + am_w32 (((i : Int) + 1) * t0)))) := by
      intro t0
      unfold sf_X1_settlePlace_48
      have y : (am_sA Sc 65 d (pl - 1)).2 66 d = Sc.2 66 d := rfl
      rw [pr_atn hd100, pr_b2, y, w66 0, wi 0, pr_putn hd100, pr_b1]
    by_cases h1 : how = 1
    · refine ⟨am_sA (am_sA Sc 65 d (pl - 1)) 66 d sm2, ?_, pr_out_sA (pr_out_sA (pr_out_refl _) (by decide)) (by decide), rfl, rfl, am_up_self _ _ _, fun q hq => am_up_ne _ _ hq⟩
      rw [hpre, if_pos h1]
      have hs := hsm2 0
      rw [if_pos h1] at hs
      by_cases hk0 : kd = 0
      · rw [if_pos hk0] at hs
        rw [if_pos hk0, pr_numberOf hv.1, pr_b2, h48, hs]
      · rw [if_neg hk0] at hs
        rw [if_neg hk0, h48, hs]
    · refine ⟨am_sA Sc 65 d (pl - 1), ?_, pr_out_sA (pr_out_refl _) (by decide), rfl, rfl, ?_, fun _ _ => rfl⟩
      · rw [hpre, if_neg h1]
      · have hs := hsm2 0
        rw [if_neg h1] at hs
        rw [hs, hsm]; rfl
  obtain ⟨C2, e1, e2, e64, e65, e66, e66n⟩ := hst1
  have x64 : C2.2 64 d = kd := by rw [e64, G1]
  have x65 : C2.2 65 d = pl - 1 := by rw [e65, am_up_self]
  -- settleIfComplete, wherever the cells of d stand so
  have hsic : ∀ S : am_S, S.2 64 d = kd → S.2 65 d = pl - 1 → S.2 66 d = sm2 → ∀ X : Option am_S, (0 < pl - 1 → some S = X) → (¬ 0 < pl - 1 → kd = 1 → some S = X) → (¬ 0 < pl - 1 → kd = 3 → sf_X3_settleBy (d : Int) 2 (pr_V 0 (-5)) 0 S = X) → (¬ 0 < pl - 1 → kd ≠ 1 → kd ≠ 3 → sf_X3_settleBy (d : Int) 1 (pr_V 0 sm2) 0 S = X) → sf_X1_settleIfComplete (d : Int) S = X := by
    intro S y64 y65 y66 X h1 h2 h3 h4
    have v64 : ∀ _ : Nat, am_w32 (S.2 64 d) = kd := fun _ => by rw [y64, pr_w (by omega) (by omega)]
    have v65 : ∀ _ : Nat, am_w32 (S.2 65 d) = pl - 1 := fun _ => by rw [y65]; exact w65b 0
    have v66 : ∀ _ : Nat, am_w32 (S.2 66 d) = sm2 := fun _ => by rw [y66]; exact am_w32_id hsm2r
    unfold sf_X1_settleIfComplete
    rw [pr_atn hd100, pr_b2, v65 0]
    by_cases hp : 0 < pl - 1
    · rw [if_pos hp]; exact h1 hp
    · rw [if_neg hp, pr_atn hd100, pr_b2, v64 0]
      by_cases hk1 : kd = 1
      · rw [if_pos hk1]; exact h2 hp hk1
      · rw [if_neg hk1, pr_atn hd100, pr_b2, v64 0]
        by_cases hk3 : kd = 3
        · rw [if_pos hk3, pr_of (by decide), pr_b2, hid]; exact h3 hp hk3
        · rw [if_neg hk3, pr_atn hd100, pr_b2, v66 0, pr_of (by decide), pr_b2, hid]; exact h4 hp hk1 hk3
  by_cases hdec : kd = 1 ∨ (kd = 0 ∧ how = 2) ∨ (kd = 3 ∧ how = 1)
  · -- this PLACE decides
    have hR2 : ∃ KS, pr_RB B C2 Sr KS := by
      obtain ⟨KS, R⟩ := hR
      exact ⟨KS, pr_RB_of R (e2.1 _ (by decide)) (e2.1 _ (by decide)) (e2.1 _ (by decide)) (e2.1 _ (by decide)) (e2.2 47 (by decide)) (e2.2 48 (by decide)) (e2.2 49 (by decide)) (e2.2 50 (by decide)) rfl rfl rfl rfl rfl rfl rfl rfl
        (fun p _ h => by
          unfold pr_PD at h ⊢
          rw [e2.2 41 (by decide), e2.2 42 (by decide), e2.2 43 (by decide), e2.2 44 (by decide), e2.2 45 (by decide)]
          exact h)
        (fun k _ hJ hO => by
          refine ⟨?_, ?_⟩
          · obtain ⟨p, hp, j⟩ := hJ
            refine ⟨p, hp, ?_⟩
            unfold pr_JK at j ⊢
            rw [e2.2 72 (by decide), e2.2 73 (by decide), e2.2 46 (by decide), e2.2 71 (by decide)]
            exact j
          · unfold pr_JO at hO ⊢
            rw [e2.2 51 (by decide)]; exact hO) (fun p _ _ => by rw [e2.2 71 (by decide)])⟩
    have O2 : pr_O B C2 Sr := pr_O_keep O (fun a h1 h2 => e2.2 a (by simp; omega)) (e2.1 _ (by decide)) (e2.1 _ (by decide)) (e2.1 _ (by decide)) (e2.1 _ (by decide)) (e2.1 _ (by decide)) (fun _ _ _ _ => rfl) rfl rfl rfl rfl (Int.le_refl _) (Int.le_refl _)
    obtain ⟨Sc', Sr', g1, g2, g3, g4, g5, g6, g7, g8, g9, g10, g11, g12, g13⟩ := pr_Bsettle hR2 O2 (by omega) (p := d) (how := how) (s := s) (n := n) (k := 0) hd hw12 hv (pr_free0 Z0)
    have G' : pr_RG (B + 1) Sc' Sr' := by
      intro p k hk hk3 hkp
      rcases g11 k hk with ⟨a1, -⟩ | ⟨a1, a2, a3, -⟩
      · omega
      · by_cases e : p = d
        · subst e
          unfold pr_GD
          rw [g5.1 64 (by omega) (by omega), g5.1 65 (by omega) (by omega), g5.1 66 (by omega) (by omega), g6.1 102 (by omega), g6.1 103 (by omega), g6.1 104 (by omega), g6.1 105 (by omega), x64, x65, e66, ← hkd, ← hsz, ← hct]
          refine ⟨rfl, G2, fun h => ?_, hsm2r, G5, by omega, by omega, Or.inr ⟨g12, ?_⟩⟩
          · have h1 : ¬ how = 1 := by rcases hdec with h2 | h2 | h2 <;> omega
            have hs := hsm2 0
            rw [if_neg h1] at hs
            rw [hs]; exact G3 h
          · rcases G8 with h | h <;> omega
        · refine pr_GD_mono (pr_GD_keep (G p k a1 (a2 ▸ hk3) (a3 ▸ hkp)) (by rw [g5.1 64 (by omega) (by omega), e64]) (by rw [g5.1 65 (by omega) (by omega), e65, am_up_ne _ _ e]) (by rw [g5.1 66 (by omega) (by omega), e66n p e]) (by rw [g6.1 102 (by omega)]) (by rw [g6.1 103 (by omega)]) (by rw [g6.1 104 (by omega)]) (by rw [g6.1 105 (by omega)]) (fun hh h0 => ?_)) (by omega)
          rw [g10] at h0
          exact g13 p (hh h0)
    have Z' : pr_Y (B + 1) Sc' Sr' := ⟨g3, g4, G'⟩
    have hvn := fun h v s n => pr_vain Z' (p := d) (by omega) g12 h v s n
    have kx : pr_kX Sc Sc' := pr_kX_trans ⟨fun a h1 h2 => e2.2 a (by simp; omega), fun n hn => e2.1 n (by simp)⟩ (pr_kX_C g5 g8)
    refine ⟨Sc', Sr', ?_, ?_, pr_Y_mono Z' (by omega) hB, kx, pr_kY_R g6 g7 g9⟩
    · have h74 : sf_X1_settlePlace_74 (d : Int) how (pr_V s n) kd C2 = some Sc' := by
        unfold sf_X1_settlePlace_74 sf_X1_settlePlace_90
        rw [g1, pr_b1]
        rcases hdec with h | ⟨h, h2⟩ | ⟨h, h2⟩
        · rw [if_pos h]
        · rw [if_neg (by omega), if_pos h, if_pos h2]
        · rw [if_neg (by omega), if_neg (by omega), if_pos h, if_pos h2]
      rw [e1, h74, pr_b1, hid]
      exact hsic Sc' (by rw [g5.1 64 (by omega) (by omega)]; exact x64) (by rw [g5.1 65 (by omega) (by omega)]; exact x65) (by rw [g5.1 66 (by omega) (by omega)]; exact e66) (some Sc') (fun _ => rfl) (fun _ _ => rfl) (fun _ _ => (hvn 2 (pr_V 0 (-5)) 0 0).1) (fun _ _ _ => (hvn 1 (pr_V 0 sm2) 0 0).1)
    · have h47 : ∀ t0 : Int, (t0 = 1 ↔ how = 1) → (t0 = 0 ↔ how = 2) → sf_X10_placed_47 (d : Int) s n t0 Sr = some Sr' := by
        intro t0 h1 h2
        unfold sf_X10_placed_47
        rcases hw12 with h | h
        · have ht : ¬ t0 = 0 := fun h3 => by have := h2.mp h3; omega
          have g2' : sf_X10_endBy (d : Int) 0 s n 0 Sr = some Sr' := by rw [h] at g2; exact g2
          rw [if_neg ht, g2', pr_b1]
        · have g2' : sf_X10_endBy (d : Int) 1 s n 0 Sr = some Sr' := by rw [h] at g2; exact g2
          rw [if_pos (h2.mpr h), g2', pr_b1]
      have h10 : ∀ t0 : Int, (t0 = 1 ↔ how = 1) → (t0 = 0 ↔ how = 2) → sf_X10_placed_10 (d : Int) (i : Int) s n t0 Sr = some Sr' := by
        intro t0 h1 h2
        unfold sf_X10_placed_10
        rw [pr_gdn hd100, Int.toNat_natCast, ← hkd]
        rcases hdec with h | ⟨h, h3⟩ | ⟨h, h3⟩
        · rw [if_pos h]; exact h47 t0 h1 h2
        · rw [if_neg (by omega), if_pos h, if_pos (h2.mpr h3)]; exact h47 t0 h1 h2
        · have ht : ¬ t0 = 0 := fun h4 => by have := h2.mp h4; omega
          rw [if_neg (by omega), if_neg (by omega), if_pos h, if_neg ht]; exact h47 t0 h1 h2
      unfold sf_X10_placed
      rcases hw12 with h | h
      · rw [if_pos h]; exact h10 1 (by omega) (by omega)
      · rw [if_neg (by omega)]; exact h10 0 (by omega) (by omega)
  · -- it is counted
    have hc1 : kd ≠ 1 := fun h => hdec (Or.inl h)
    have hc0 : kd = 0 → how = 1 := fun h => by rcases hw12 with h2 | h2; exact h2; exact absurd (Or.inr (Or.inl ⟨h, h2⟩)) hdec
    have hc3 : kd = 3 → how = 2 := fun h => by rcases hw12 with h2 | h2; exact absurd (Or.inr (Or.inr ⟨h, h2⟩)) hdec; exact h2
    have wct : ∀ _ : Nat, am_w32 (ct + 1) = ct + 1 := fun _ => pr_w (by omega) (by omega)
    have href : ∃ R2, sf_X10_placed (d : Int) (i : Int) how s n Sr = sf_X10_placed_121 (d : Int) kd R2 ∧ pr_out [] [102, 103, 104, 105] Sr R2 ∧ R2.2 102 = Sr.2 102 ∧ R2.2 103 = Sr.2 103 ∧ R2.2 104 = am_up (Sr.2 104) d (ct + 1) ∧ (kd = 0 ∨ kd = 2 → R2.2 105 d = sm2) ∧ ∀ q, q ≠ d → R2.2 105 q = Sr.2 105 q := by
      have h68 : ∀ t0 : Int, sf_X10_placed_68 (d : Int) (i : Int) n t0 kd Sr = (if kd = 0 then sf_X10_placed_98 (d : Int) (i : Int) t0 kd (am_sA (am_sA Sr 104 d (ct + 1)) 105 d (am_w32 (Sr.2 105 d + am_w32 (n * ((i : Int) + 1))))) else sf_X10_placed_98 (d : Int) (i : Int) t0 kd (am_sA Sr 104 d (ct + 1))) := by
        intro t0
        unfold sf_X10_placed_68
        rw [pr_gdn hd100, pr_gdn hd100, Int.toNat_natCast, ← hct, wct 0, pr_let]
        have y : (am_sA Sr 104 d (ct + 1)).2 105 d = Sr.2 105 d := rfl
        rw [pr_gdn hd100, pr_gdn hd100, y, wi 0, pr_let]
      have h98 : ∀ (t0 : Int) (R : am_S), sf_X10_placed_98 (d : Int) (i : Int) t0 kd R = (if kd = 2 then (if t0 = 0 then sf_X10_placed_121 (d : Int) kd R else sf_X10_placed_121 (d : Int) kd (am_sA R 105 d (am_w32 (R.2 105 d + ((i : Int) + 1))))) else sf_X10_placed_121 (d : Int) kd R) := by
        intro t0 R
        unfold sf_X10_placed_98
        rw [pr_gdn hd100, pr_gdn hd100, Int.toNat_natCast, wi 0, pr_let]
      have h10 : ∀ t0 : Int, (t0 = 1 ↔ how = 1) → (t0 = 0 ↔ how = 2) → sf_X10_placed_10 (d : Int) (i : Int) s n t0 Sr = sf_X10_placed_68 (d : Int) (i : Int) n t0 kd Sr := by
        intro t0 h1 h2
        unfold sf_X10_placed_10
        rw [pr_gdn hd100, Int.toNat_natCast, ← hkd, if_neg hc1]
        by_cases hk0 : kd = 0
        · have ht : ¬ t0 = 0 := fun h => by have := h2.mp h; have := hc0 hk0; omega
          rw [if_pos hk0, if_neg ht, if_neg (by omega)]
        · rw [if_neg hk0]
          by_cases hk3 : kd = 3
          · rw [if_pos hk3, if_pos (h2.mpr (hc3 hk3))]
          · rw [if_neg hk3]
      have hpl2 : ∃ t0 : Int, (t0 = 1 ↔ how = 1) ∧ (t0 = 0 ↔ how = 2) ∧ sf_X10_placed (d : Int) (i : Int) how s n Sr = sf_X10_placed_10 (d : Int) (i : Int) s n t0 Sr := by
        unfold sf_X10_placed
        rcases hw12 with h | h
        · exact ⟨1, by omega, by omega, by rw [if_pos h]⟩
        · exact ⟨0, by omega, by omega, by rw [if_neg (by omega)]⟩
      obtain ⟨t0, ht1, ht2, hpl3⟩ := hpl2
      rw [hpl3, h10 t0 ht1 ht2, h68]
      by_cases hk0 : kd = 0
      · rw [if_pos hk0, h98, if_neg (by omega)]
        refine ⟨_, rfl, pr_out_sA (pr_out_sA (pr_out_refl _) (by decide)) (by decide), rfl, rfl, rfl, fun _ => ?_, fun q hq => am_up_ne _ _ hq⟩
        have hs := hsm2 0
        rw [if_pos (hc0 hk0), if_pos hk0] at hs
        have y : (am_sA (am_sA Sr 104 d (ct + 1)) 105 d (am_w32 (Sr.2 105 d + am_w32 (n * ((i : Int) + 1))))).2 105 d = am_w32 (Sr.2 105 d + am_w32 (n * ((i : Int) + 1))) := am_up_self _ _ _
        rw [y, hs, ← G3 (Or.inl hk0), Int.mul_comm]
      · rw [if_neg hk0, h98]
        by_cases hk2 : kd = 2
        · rw [if_pos hk2]
          by_cases ht : t0 = 0
          · rw [if_pos ht]
            refine ⟨_, rfl, pr_out_sA (pr_out_refl _) (by decide), rfl, rfl, rfl, fun _ => ?_, fun _ _ => rfl⟩
            have hs := hsm2 0
            have h1 := ht2.mp ht
            rw [if_neg (by omega)] at hs
            show Sr.2 105 d = sm2
            rw [hs]; exact (G3 (Or.inr hk2)).symm
          · rw [if_neg ht]
            refine ⟨_, rfl, pr_out_sA (pr_out_sA (pr_out_refl _) (by decide)) (by decide), rfl, rfl, rfl, fun _ => ?_, fun q hq => am_up_ne _ _ hq⟩
            have hs := hsm2 0
            have h1 : how = 1 := by rcases hw12 with h | h; exact h; exact absurd (ht2.mpr h) ht
            rw [if_pos h1, if_neg hk0, Int.mul_one, wi 0] at hs
            have y : (am_sA (am_sA Sr 104 d (ct + 1)) 105 d (am_w32 ((am_sA Sr 104 d (ct + 1)).2 105 d + ((i : Int) + 1)))).2 105 d = am_w32 ((am_sA Sr 104 d (ct + 1)).2 105 d + ((i : Int) + 1)) := am_up_self _ _ _
            have y2 : (am_sA Sr 104 d (ct + 1)).2 105 d = Sr.2 105 d := rfl
            rw [y, y2, hs, ← G3 (Or.inr hk2)]
        · rw [if_neg hk2]
          exact ⟨_, rfl, pr_out_sA (pr_out_refl _) (by decide), rfl, rfl, rfl, fun h => by omega, fun _ _ => rfl⟩
    obtain ⟨R2, r1, r2, r102, r103, r104, r105, r105n⟩ := href
    have y102 : R2.2 102 d = kd := by rw [r102, ← hkd]
    have y103 : R2.2 103 d = sz := by rw [r103, ← hsz]
    have y104 : R2.2 104 d = ct + 1 := by rw [r104, am_up_self]
    have ymm : R2.1 4745 = Sr.1 4745 := r2.1 _ (by decide)
    have GD2 : pr_GD (B + 1) C2 R2 d := by
      unfold pr_GD
      rw [x64, x65, e66, y102, y103, y104, r2.2 78 (by decide), r2.2 81 (by decide)]
      refine ⟨rfl, G2, fun h => (r105 h).symm, hsm2r, G5, by omega, by omega, ?_⟩
      rcases G8 with h | ⟨h, h2⟩
      · exact Or.inl (by omega)
      · exact Or.inr ⟨h, by omega⟩
    have Z2 : pr_Y (B + 1) C2 R2 := pr_Y_G Z0 (d := d) e2 r2 (fun q hq => ⟨by rw [e64], by rw [e65, am_up_ne _ _ hq], e66n q hq, by rw [r102], by rw [r103], by rw [r104, am_up_ne _ _ hq], r105n q hq⟩) (by omega) (by omega) (fun _ => GD2)
    have h74 : sf_X1_settlePlace_74 (d : Int) how (pr_V s n) kd C2 = some C2 := by
      unfold sf_X1_settlePlace_74 sf_X1_settlePlace_90
      rw [if_neg hc1]
      by_cases hk0 : kd = 0
      · rw [if_pos hk0, if_neg (by have := hc0 hk0; omega), if_neg (by omega)]
      · rw [if_neg hk0]
        by_cases hk3 : kd = 3
        · rw [if_pos hk3, if_neg (by have := hc3 hk3; omega)]
        · rw [if_neg hk3]
    have kx2 : pr_kX Sc C2 := ⟨fun a h1 h2 => e2.2 a (by simp; omega), fun n hn => e2.1 n (by simp)⟩
    have ky2 : pr_kY Sr R2 := ⟨fun a ha => r2.2 a (by simp; omega), fun n hn => r2.1 n (by simp)⟩
    have h121 : ∀ X : Option am_S, (ct + 1 < sz → some R2 = X) → (¬ ct + 1 < sz → kd = 3 → sf_X10_rejectBy (d : Int) 0 (-5) 0 R2 = X) → (¬ ct + 1 < sz → kd ≠ 3 → sf_X10_resolveBy (d : Int) 0 sm2 0 R2 = X) → sf_X10_placed_121 (d : Int) kd R2 = X := by
      intro X h1 h2 h3
      unfold sf_X10_placed_121
      rw [pr_gdn hd100, pr_gdn hd100, Int.toNat_natCast, y103, y104]
      by_cases hlt : ct + 1 < sz
      · rw [if_neg (by omega)]; exact h1 hlt
      · rw [if_pos (by omega)]
        by_cases hk3 : kd = 3
        · rw [if_pos hk3, hid]; exact h2 hlt hk3
        · rw [if_neg hk3, pr_gdn hd100, r105 (by omega), hid]; exact h3 hlt hk3
    rw [e1, h74, pr_b1, hid, r1]
    rcases G8 with hA | ⟨hsp, hle⟩
    · by_cases hlt : ct + 1 < sz
      · refine ⟨C2, R2, hsic C2 x64 x65 e66 _ (fun _ => rfl) (fun h => by omega) (fun h => by omega) (fun h => by omega), h121 _ (fun _ => rfl) (fun h => by omega) (fun h => by omega), pr_Y_mono Z2 (by omega) hB, kx2, ky2⟩
      · by_cases hk3 : kd = 3
        · obtain ⟨Sc', Sr', g1, g2, -, g4, g5, g6, g7, g8, g9, g10, -⟩ := pr_Ysettle Z2 (by omega) (p := d) (how := 2) (s := 0) (n := -5) (k := 0) (by omega) (Or.inr rfl) ⟨by unfold am_r32; omega, Or.inl rfl⟩ (pr_free0 Z2)
          exact ⟨Sc', Sr', hsic C2 x64 x65 e66 _ (fun h => by omega) (fun _ h => by omega) (fun _ _ => g1) (fun _ _ h => absurd hk3 h), h121 _ (fun h => absurd h hlt) (fun _ _ => g4 rfl) (fun _ h => absurd hk3 h), pr_Y_mono g5 (by omega) hB, pr_kX_trans kx2 (pr_kX_C g6 g9), pr_kY_trans ky2 (pr_kY_R g7 g8 g10)⟩
        · obtain ⟨Sc', Sr', g1, g2, g3, -, g5, g6, g7, g8, g9, g10, -⟩ := pr_Ysettle Z2 (by omega) (p := d) (how := 1) (s := 0) (n := sm2) (k := 0) (by omega) (Or.inl rfl) ⟨hsm2r, Or.inl rfl⟩ (pr_free0 Z2)
          exact ⟨Sc', Sr', hsic C2 x64 x65 e66 _ (fun h => by omega) (fun _ h => absurd h hc1) (fun _ h => absurd h hk3) (fun _ _ _ => g1), h121 _ (fun h => absurd h hlt) (fun _ h => absurd h hk3) (fun _ _ => g3 rfl), pr_Y_mono g5 (by omega) hB, pr_kX_trans kx2 (pr_kX_C g6 g9), pr_kY_trans ky2 (pr_kY_R g7 g8 g10)⟩
    · have hsp2 : R2.2 78 d = 0 → R2.2 81 d = 1 := by rw [r2.2 78 (by decide), r2.2 81 (by decide)]; exact hsp
      have hvn := fun h v s n => pr_vain Z2 (p := d) (by omega) hsp2 h v s n
      refine ⟨C2, R2, hsic C2 x64 x65 e66 _ (fun _ => rfl) (fun _ _ => rfl) (fun _ _ => (hvn 2 _ 0 0).1) (fun _ _ _ => (hvn 1 _ 0 0).1), h121 _ (fun _ => rfl) (fun _ _ => (hvn 2 0 0 (-5)).2.2) (fun _ _ => (hvn 1 0 0 sm2).2.1), pr_Y_mono Z2 (by omega) hB, kx2, ky2⟩
