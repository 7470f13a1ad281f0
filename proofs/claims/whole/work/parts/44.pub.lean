/-! public calls: STEPS, a fresh start, what is shown -/
def pr_SK (w s n : Int) : Prop := (0 ≤ w ∧ w ≤ 14) ∧ (w = 2 → pr_VV 100 s n) ∧ (w = 8 ∨ w = 11 ∨ w = 12 → 0 ≤ n ∧ n < 10) ∧ (w = 13 ∨ w = 14 → 0 ≤ n ∧ n ≤ 10) ∧ (w = 9 ∨ w = 10 → 0 ≤ n ∧ n < 100)
theorem pr_ex1 {m s n : Int} (hv : pr_VV m s n) (S : am_S) : sf_X8_exists s n m S = some (1, S) := by
  unfold sf_X8_exists
  rcases hv.2 with h1 | ⟨h1, h2⟩ | ⟨h1, h2⟩
  · rw [if_pos h1]
  · rw [if_neg (by omega), if_pos h1, pr_iw1 h2, pr_b2, pr_gz1]
  · rw [if_neg (by omega), if_neg (by omega), if_pos h1, pr_iw1 h2, pr_b2, pr_gz1]
theorem pr_ex0 {m s n : Int} (hn : am_r32 n) (hv : ¬ pr_VV m s n) (S : am_S) : sf_X8_exists s n m S = some (0, S) := by
  unfold sf_X8_exists
  rw [if_neg (fun h1 => hv ⟨hn, Or.inl h1⟩)]
  by_cases h1 : s = 1
  · rw [if_pos h1, pr_iw0 (fun h2 => hv ⟨hn, Or.inr (Or.inl ⟨h1, h2⟩)⟩), pr_b2, pr_gz0]
  · rw [if_neg h1]
    by_cases h3 : s = 2
    · rw [if_pos h3, pr_iw0 (fun h2 => hv ⟨hn, Or.inr (Or.inr ⟨h3, h2⟩)⟩), pr_b2, pr_gz0]
    · rw [if_neg h3]
theorem pr_mb (w s n : Int) (hn : am_r32 n) (S : am_S) : (pr_SK w s n → sf_X0_mayBeStep w s n S = some (1, S)) ∧ (¬ pr_SK w s n → sf_X0_mayBeStep w s n S = some (0, S)) := by
  unfold sf_X0_mayBeStep
  by_cases h2 : w = 2
  · rw [if_pos h2]
    constructor
    · intro h
      rw [pr_ex1 (h.2.1 h2), pr_b2, pr_gz1]
    · intro h
      rw [pr_ex0 hn (fun hv => h ⟨by omega, fun _ => hv, by omega, by omega, by omega⟩), pr_b2, pr_gz0]
  · rw [if_neg h2]
    by_cases h8 : w = 8
    · rw [if_pos h8]
      constructor
      · intro h
        rw [pr_isFn1 (h.2.2.1 (by omega)), pr_b2, pr_gz1]
      · intro h
        rw [pr_isFn0 (fun hv => h ⟨by omega, fun e => absurd e h2, fun _ => hv, by omega, by omega⟩), pr_b2, pr_gz0]
    · rw [if_neg h8]
      by_cases h9 : w = 9
      · rw [if_pos h9]
        constructor
        · intro h
          rw [pr_iw1 (h.2.2.2.2 (by omega)), pr_b2, pr_gz1]
        · intro h
          rw [pr_iw0 (fun hv => h ⟨by omega, fun e => absurd e h2, by omega, by omega, fun _ => hv⟩), pr_b2, pr_gz0]
      · rw [if_neg h9]
        by_cases h10 : w = 10
        · rw [if_pos h10]
          constructor
          · intro h
            rw [pr_iw1 (h.2.2.2.2 (by omega)), pr_b2, pr_gz1]
          · intro h
            rw [pr_iw0 (fun hv => h ⟨by omega, fun e => absurd e h2, by omega, by omega, fun _ => hv⟩), pr_b2, pr_gz0]
        · rw [if_neg h10]
          by_cases h11 : w = 11
          · rw [if_pos h11]
            constructor
            · intro h
              rw [pr_isFn1 (h.2.2.1 (by omega)), pr_b2, pr_gz1]
            · intro h
              rw [pr_isFn0 (fun hv => h ⟨by omega, fun e => absurd e h2, fun _ => hv, by omega, by omega⟩), pr_b2, pr_gz0]
          · rw [if_neg h11]
            by_cases h12 : w = 12
            · rw [if_pos h12]
              constructor
              · intro h
                rw [pr_isFn1 (h.2.2.1 (by omega)), pr_b2, pr_gz1]
              · intro h
                rw [pr_isFn0 (fun hv => h ⟨by omega, fun e => absurd e h2, fun _ => hv, by omega, by omega⟩), pr_b2, pr_gz0]
            · rw [if_neg h12]
              by_cases h13 : w = 13
              · rw [if_pos h13]
                constructor
                · intro h
                  rw [pr_iw1 (by have := h.2.2.2.1 (by omega); omega), pr_b2, pr_gz1]
                · intro h
                  rw [pr_iw0 (fun hv => h ⟨by omega, fun e => absurd e h2, by omega, by omega, by omega⟩), pr_b2, pr_gz0]
              · rw [if_neg h13]
                by_cases h14 : w = 14
                · rw [if_pos h14]
                  constructor
                  · intro h
                    rw [pr_iw1 (by have := h.2.2.2.1 (by omega); omega), pr_b2, pr_gz1]
                  · intro h
                    rw [pr_iw0 (fun hv => h ⟨by omega, fun e => absurd e h2, by omega, by omega, by omega⟩), pr_b2, pr_gz0]
                · rw [if_neg h14]
                  constructor
                  · intro h
                    rw [pr_iw1 (by have := h.1; omega), pr_b2, pr_gz1]
                  · intro h
                    rw [pr_iw0 (fun hv => h ⟨by omega, fun e => absurd e h2, by omega, by omega, by omega⟩), pr_b2, pr_gz0]
theorem pr_stepR64 (f w s n : Int) (S : am_S) : ((w = 8 ∨ w = 11 ∨ w = 12 → 0 ≤ n ∧ n < 10) ∧ (w = 13 ∨ w = 14 → 0 ≤ n ∧ n ≤ 10) ∧ (w = 9 ∨ w = 10 → 0 ≤ n ∧ n < 100) → sf_X10_step_64 f w s n S = sf_X10_step_142 f w s n S) ∧ (¬ ((w = 8 ∨ w = 11 ∨ w = 12 → 0 ≤ n ∧ n < 10) ∧ (w = 13 ∨ w = 14 → 0 ≤ n ∧ n ≤ 10) ∧ (w = 9 ∨ w = 10 → 0 ≤ n ∧ n < 100)) → sf_X10_step_64 f w s n S = some (-1, S)) := by
  unfold sf_X10_step_64
  by_cases h8 : w = 8
  · rw [if_pos h8]
    constructor
    · intro h
      rw [pr_in1 (by omega), pr_b2, if_neg (by decide)]
    · intro h
      rw [pr_in0 (by omega), pr_b2, if_pos rfl]
  · rw [if_neg h8]
    by_cases h11 : w = 11
    · rw [if_pos h11]
      constructor
      · intro h
        rw [pr_in1 (by omega), pr_b2, if_neg (by decide)]
      · intro h
        rw [pr_in0 (by omega), pr_b2, if_pos rfl]
    · rw [if_neg h11]
      by_cases h12 : w = 12
      · rw [if_pos h12]
        constructor
        · intro h
          rw [pr_in1 (by omega), pr_b2, if_neg (by decide)]
        · intro h
          rw [pr_in0 (by omega), pr_b2, if_pos rfl]
      · rw [if_neg h12]
        by_cases h13 : w = 13
        · rw [if_pos h13]
          constructor
          · intro h
            rw [pr_in1 (by omega), pr_b2, if_neg (by decide)]
          · intro h
            rw [pr_in0 (by omega), pr_b2, if_pos rfl]
        · rw [if_neg h13]
          by_cases h14 : w = 14
          · rw [if_pos h14]
            constructor
            · intro h
              rw [pr_in1 (by omega), pr_b2, if_neg (by decide)]
            · intro h
              rw [pr_in0 (by omega), pr_b2, if_pos rfl]
          · rw [if_neg h14]
            by_cases h9 : w = 9
            · rw [if_pos h9]
              constructor
              · intro h
                rw [pr_in1 (by omega), pr_b2, if_neg (by decide)]
              · intro h
                rw [pr_in0 (by omega), pr_b2, if_pos rfl]
            · rw [if_neg h9]
              by_cases h10 : w = 10
              · rw [if_pos h10]
                constructor
                · intro h
                  rw [pr_in1 (by omega), pr_b2, if_neg (by decide)]
                · intro h
                  rw [pr_in0 (by omega), pr_b2, if_pos rfl]
              · rw [if_neg h10]
                exact ⟨fun _ => rfl, fun h => absurd ⟨by omega, by omega, by omega⟩ h⟩
theorem pr_stepR {f : Int} (hf : 0 ≤ f ∧ f < 10) (w s n : Int) (hn : am_r32 n) (S : am_S) : (pr_SK w s n → sf_X10_step f w s n S = sf_X10_step_142 f w s n S) ∧ (¬ pr_SK w s n → sf_X10_step f w s n S = some (-1, S)) := by
  obtain ⟨g1, g2⟩ := pr_stepR64 f w s n S
  unfold sf_X10_step
  rw [pr_in1 (by omega), pr_b2, if_neg (by decide)]
  by_cases h14 : 0 ≤ w ∧ w ≤ 14
  · rw [pr_in1 h14, pr_b2, if_neg (by decide)]
    by_cases h2 : w = 2
    · have g3 : sf_X10_step_64 f w s n S = sf_X10_step_142 f w s n S := g1 ⟨by omega, by omega, by omega⟩
      rw [if_pos h2, g3]
      constructor
      · intro h
        rcases (h.2.1 h2).2 with h3 | ⟨h3, h4⟩ | ⟨h3, h4⟩
        · rw [if_pos h3]
        · rw [if_neg (by omega), if_pos h3, pr_in1 (by omega), pr_b2, if_neg (by decide)]; exact g3
        · rw [if_neg (by omega), if_neg (by omega), if_pos h3, pr_in1 (by omega), pr_b2, if_neg (by decide)]; exact g3
      · intro h
        have hv : ¬ pr_VV 100 s n := fun hv => h ⟨h14, fun _ => hv, by omega, by omega, by omega⟩
        have h0 : ¬ s = 0 := fun e => hv ⟨hn, Or.inl e⟩
        rw [if_neg h0]
        by_cases h3 : s = 1
        · rw [if_pos h3, pr_in0 (fun h4 => hv ⟨hn, Or.inr (Or.inl ⟨h3, by omega⟩)⟩), pr_b2, if_pos rfl, if_neg (by omega)]
        · rw [if_neg h3]
          by_cases h4 : s = 2
          · rw [if_pos h4, pr_in0 (fun h5 => hv ⟨hn, Or.inr (Or.inr ⟨h4, by omega⟩)⟩), pr_b2, if_pos rfl]
          · rw [if_neg h4]
    · rw [if_neg h2]
      constructor
      · intro h; exact g1 ⟨h.2.2.1, h.2.2.2.1, h.2.2.2.2⟩
      · intro h
        exact g2 (fun h3 => h ⟨h14, fun e => absurd e h2, h3.1, h3.2.1, h3.2.2⟩)
  · rw [pr_in0 h14, pr_b2, if_pos rfl]
    exact ⟨fun h => absurd h.1 h14, fun _ => rfl⟩
theorem pr_pub_step {B : Int} {Sc Sr : am_S} (I : pr_I B Sc Sr) (hB : B + 2000000 < 2000000000) (f w s : Int) {n : Int} (hn : am_r32 n) : pr_pub B Sc Sr (sf_X9_step f w s n) (sf_X10_step f w s n) := by
  unfold pr_pub sf_X9_step
  by_cases hf : 0 ≤ f ∧ f < 10
  · obtain ⟨r1, r2⟩ := pr_stepR hf w s n hn Sr
    obtain ⟨c1, c2⟩ := pr_mb w s n hn Sc
    rw [pr_isFn1 hf, pr_b2, if_neg (by decide)]
    by_cases hk : pr_SK w s n
    · rw [r1 hk, c1 hk, pr_b2, if_neg (by decide)]
      obtain ⟨q, hq⟩ : ∃ q : Nat, f = (q : Int) := ⟨f.toNat, by omega⟩
      subst hq
      have hq10 : q < 10 := by omega
      obtain ⟨p1, p2, p3, p4, p5⟩ := I.1.2.1
      obtain ⟨s1, s2, s3, s4⟩ := p2 q hq10
      obtain ⟨z, hz⟩ : ∃ z : Nat, Sr.2 98 q = (z : Int) := ⟨(Sr.2 98 q).toNat, by omega⟩
      have w55 : ∀ _ : Nat, am_w32 (Sc.2 55 q) = (z : Int) := fun _ => by rw [s1, hz, pr_w (by omega) (by omega)]
      unfold sf_X0_isFull
      rw [pr_atn hq10, pr_b2, w55 0]
      by_cases hz10 : z = 10
      · refine ⟨-2, Sc, Sr, ?_, ?_, pr_I_mono I (by omega) hB⟩
        · rw [if_neg (by omega), pr_b2, if_neg (by decide)]
        · unfold sf_X10_step_142
          rw [pr_gdn hq10, Int.toNat_natCast, hz, if_pos (by omega)]
      · have hzl : z < 10 := by omega
        have hk100 : 10 * q + z < 100 := by omega
        obtain ⟨sv, hsv⟩ : ∃ sv, sv = (if w = 2 then s else 0) := ⟨_, rfl⟩
        obtain ⟨Sc', hSc⟩ : ∃ Sc', Sc' = am_sA (am_sA (am_sA Sc 56 (10 * q + z) w) 57 (10 * q + z) (pr_V sv n)) 55 q ((z : Int) + 1) := ⟨_, rfl⟩
        obtain ⟨Sr', hSr⟩ : ∃ Sr', Sr' = am_sA (am_sA (am_sA (am_sA Sr 99 (10 * q + z) w) 100 (10 * q + z) s) 101 (10 * q + z) n) 98 q ((z : Int) + 1) := ⟨_, rfl⟩
        have oc : pr_out [] [55, 56, 57] Sc Sc' := by rw [hSc]; exact pr_out_sA (pr_out_sA (pr_out_sA (pr_out_refl _) (by decide)) (by decide)) (by decide)
        have or' : pr_out [] [98, 99, 100, 101] Sr Sr' := by rw [hSr]; exact pr_out_sA (pr_out_sA (pr_out_sA (pr_out_sA (pr_out_refl _) (by decide)) (by decide)) (by decide)) (by decide)
        have wk : ∀ _ : Nat, am_w32 (am_w32 ((q : Int) * 10) + (z : Int)) = ((10 * q + z : Nat) : Int) := fun _ => by
          rw [pr_w (x := (q : Int) * 10) (by omega) (by omega), pr_w (by omega) (by omega)]; omega
        have wk2 : ∀ _ : Nat, am_w32 (am_w32 (10 * (q : Int)) + (z : Int)) = ((10 * q + z : Nat) : Int) := fun _ => by
          rw [pr_w (x := 10 * (q : Int)) (by omega) (by omega), pr_w (by omega) (by omega)]; omega
        have wz : ∀ _ : Nat, am_w32 ((z : Int) + 1) = (z : Int) + 1 := fun _ => pr_w (by omega) (by omega)
        have hadd : sf_X0_add (q : Int) w (pr_V sv n) Sc = some ((z : Int) + 1, Sc') := by
          unfold sf_X0_add
          rw [pr_atn hq10, pr_b2, w55 0, wk 0, pr_putn hk100, pr_b1, pr_putn hk100, pr_b1, wz 0, pr_putn hq10, pr_b1, hSc]
        have Z' : pr_Y B Sc' Sr' := by
          refine pr_Y_O I.1 (fun a ha => oc.2 a (by simp; omega)) (fun n hn => oc.1 n (by simp)) (fun a ha => or'.2 a (by simp; omega)) (or'.1 _ (by decide)) (or'.1 _ (by decide)) ?_
          refine ⟨?_, ?_, ?_, ?_, ?_⟩
          · rw [hSc, hSr]; exact p1
          · have x55 : Sc'.2 55 = am_up (Sc.2 55) q ((z : Int) + 1) := by rw [hSc]; rfl
            have x56 : Sc'.2 56 = am_up (Sc.2 56) (10 * q + z) w := by rw [hSc]; rfl
            have x57 : Sc'.2 57 = am_up (Sc.2 57) (10 * q + z) (pr_V sv n) := by rw [hSc]; rfl
            have x98 : Sr'.2 98 = am_up (Sr.2 98) q ((z : Int) + 1) := by rw [hSr]; rfl
            have x99 : Sr'.2 99 = am_up (Sr.2 99) (10 * q + z) w := by rw [hSr]; rfl
            have x100 : Sr'.2 100 = am_up (Sr.2 100) (10 * q + z) s := by rw [hSr]; rfl
            have x101 : Sr'.2 101 = am_up (Sr.2 101) (10 * q + z) n := by rw [hSr]; rfl
            have hSD : ∀ k, k ≠ 10 * q + z → pr_SD Sc Sr k → pr_SD Sc' Sr' k := fun k hk h => pr_SD_same h (by rw [x56, am_up_ne _ _ hk]) (by rw [x57, am_up_ne _ _ hk]) (by rw [x99, am_up_ne _ _ hk]) (by rw [x100, am_up_ne _ _ hk]) (by rw [x101, am_up_ne _ _ hk])
            intro g hg
            by_cases e : g = q
            · rw [e, x55, x98, am_up_self, am_up_self]
              refine ⟨rfl, by omega, by omega, fun i hi => ?_⟩
              by_cases ei : i = z
              · rw [ei]
                unfold pr_SD
                rw [x56, x57, x99, x100, x101, am_up_self, am_up_self, am_up_self, am_up_self, am_up_self, hsv]
                exact ⟨rfl, hk.1.1, hk.1.2, rfl, hn, hk.2.1, hk.2.2.1, hk.2.2.2.1, hk.2.2.2.2⟩
              · exact hSD _ (by omega) (s4 i (by omega))
            · obtain ⟨t1, t2, t3, t4⟩ := p2 g hg
              rw [x55, x98, am_up_ne _ _ e, am_up_ne _ _ e]
              exact ⟨t1, t2, t3, fun i hi => hSD _ (by omega) (t4 i hi)⟩
          · rw [hSc, hSr]; exact p3
          · rw [hSc, hSr]; exact p4
          · rw [hSc, hSr]; exact p5
        refine ⟨(z : Int) + 1, Sc', Sr', ?_, ?_, pr_I_mono (pr_I_same I Z' (oc.2 _ (by decide)) (oc.2 _ (by decide)) (oc.2 _ (by decide)) (oc.1 _ (by decide)) (or'.2 _ (by decide)) (or'.2 _ (by decide)) (or'.2 _ (by decide)) (or'.1 _ (by decide))) (by omega) hB⟩
        · rw [if_pos (by omega), pr_b2, if_pos rfl]
          by_cases h2 : w = 2
          · rw [if_pos h2] at hsv
            rw [if_pos h2, pr_of (pr_VV_s (hk.2.1 h2)), pr_b2, ← hsv, hadd, pr_b2]
          · rw [if_neg h2] at hsv
            rw [if_neg h2, pr_of (by decide), pr_b2, ← hsv, hadd, pr_b2]
        · unfold sf_X10_step_142
          have y98 : (am_sA (am_sA (am_sA Sr 99 (10 * q + z) w) 100 (10 * q + z) s) 101 (10 * q + z) n).2 98 q = (z : Int) := hz
          have hz10' : ¬ (z : Int) = 10 := by omega
          rw [pr_gdn hq10, Int.toNat_natCast, hz, if_neg hz10', wk2 0]
          simp only [pr_gdn hq10, pr_gdn hk100, pr_let, Int.toNat_natCast]
          rw [y98, wz 0, hSr]
    · rw [r2 hk, c2 hk, pr_b2, if_pos rfl]
      exact ⟨-1, Sc, Sr, rfl, rfl, pr_I_mono I (by omega) hB⟩
  · refine ⟨-1, Sc, Sr, ?_, ?_, pr_I_mono I (by omega) hB⟩
    · rw [pr_isFn0 hf, pr_b2, if_pos rfl]
    · unfold sf_X10_step
      rw [pr_in0 (by omega), pr_b2, if_pos rfl]
theorem pr_pub_empty {B : Int} {Sc Sr : am_S} (I : pr_I B Sc Sr) (hB : B + 2000000 < 2000000000) (f : Int) : pr_pub B Sc Sr (sf_X9_empty f) (sf_X10_empty f) := by
  unfold pr_pub sf_X9_empty sf_X10_empty
  by_cases hf : 0 ≤ f ∧ f < 10
  · obtain ⟨q, hq⟩ : ∃ q : Nat, f = (q : Int) := ⟨f.toNat, by omega⟩
    subst hq
    have hq10 : q < 10 := by omega
    obtain ⟨p1, p2, p3, p4, p5⟩ := I.1.2.1
    obtain ⟨s1, s2, s3, s4⟩ := p2 q hq10
    have w55 : ∀ _ : Nat, am_w32 (Sc.2 55 q) = Sr.2 98 q := fun _ => by rw [s1, pr_w (by omega) (by omega)]
    have Z' : pr_Y B (am_sA Sc 55 q 0) (am_sA Sr 98 q 0) := by
      refine pr_Y_O I.1 (fun a ha => pr_AA _ _ _ (by omega)) (fun _ _ => rfl) (fun a ha => pr_AA _ _ _ (by omega)) rfl rfl ⟨p1, fun g hg => ?_, p3, p4, p5⟩
      obtain ⟨t1, t2, t3, t4⟩ := p2 g hg
      have x55 : (am_sA Sc 55 q 0).2 55 = am_up (Sc.2 55) q 0 := rfl
      have x98 : (am_sA Sr 98 q 0).2 98 = am_up (Sr.2 98) q 0 := rfl
      by_cases e : g = q
      · rw [e, x55, x98, am_up_self, am_up_self]
        exact ⟨rfl, by omega, by omega, fun i hi => by omega⟩
      · rw [x55, x98, am_up_ne _ _ e, am_up_ne _ _ e]
        exact ⟨t1, t2, t3, fun i hi => pr_SD_same (t4 i hi) rfl rfl rfl rfl rfl⟩
    refine ⟨Sr.2 98 q, am_sA Sc 55 q 0, am_sA Sr 98 q 0, ?_, ?_, pr_I_mono (pr_I_same I Z' rfl rfl rfl rfl rfl rfl rfl rfl) (by omega) hB⟩
    · unfold sf_X0_removeAll
      rw [pr_isFn1 hf, pr_b2, if_neg (by decide), pr_atn hq10, pr_b2, w55 0, pr_putn hq10, pr_b1, pr_b2]
    · rw [pr_in1 (by omega), pr_b2, if_neg (by decide), pr_gdn hq10, pr_gdn hq10, pr_let, Int.toNat_natCast]
  · refine ⟨-1, Sc, Sr, ?_, ?_, pr_I_mono I (by omega) hB⟩
    · rw [pr_isFn0 hf, pr_b2, if_pos rfl]
    · rw [pr_in0 (by omega), pr_b2, if_pos rfl]
/-- a fresh start -/
theorem pr_fresh {B : Int} {Sc Sr : am_S} (hB : 0 ≤ B ∧ B < 2000000000) (c75 : Sc.1 75 = 0) (c76 : Sc.1 76 = 0) (c259 : Sc.1 259 = 0) (c260 : Sc.1 260 = 0) (c322 : Sc.1 322 = 0) (c323 : Sc.1 323 = 0) (c389 : Sc.1 389 = 0) (c459 : Sc.1 459 = -1)
    (d52 : ∀ j, j < 4 → Sc.2 52 j = 3) (d71 : ∀ j, j < 100 → Sc.2 71 j = 0) (F : pr_RF Sc Sr) (f1 : Sr.1 4745 = 0) (f2 : Sr.1 4755 = 0) (f3 : Sr.1 4771 = 0) (f4 : Sr.1 4777 = 0) (f5 : Sr.1 4778 = 0) (f6 : Sr.1 4782 = 0)
    (e84 : ∀ k, k < 800 → Sr.2 84 k = 0) (e108 : ∀ k, k < 32 → Sr.2 108 k < 0) (e93 : ∀ j, j < 4 → Sr.2 93 j = 3) : pr_I B Sc Sr := by
  have hnl : ∀ k, ¬ pr_live Sr k := fun k h => h.2 (e84 k h.1)
  have hW : pr_W Sr = 0 := by
    unfold pr_W
    rw [pr_cnt_list (P := fun k => decide (Sr.2 84 k ≠ 0) && decide (0 ≤ Sr.2 85 k)) 800 [] List.nodup_nil (fun k => ⟨fun h => (by cases h), fun h => ?_⟩)]
    · rfl
    · have := e84 k h.1
      simp [this] at h
  refine ⟨⟨⟨fun _ => [], ?_, by omega, ⟨fun q k => ⟨fun h => (by cases h), fun h => absurd (e84 k h.1) h.2.1⟩, fun q => List.Pairwise.nil, fun k hk h => absurd (e84 k hk) h⟩, fun p hp => by omega, ?_, fun p hp => by omega, fun k h => absurd h (hnl k), fun k _ h => absurd h (hnl k), ?_, fun p _ hp => d71 p hp⟩, ⟨?_, F, ?_, ?_, ?_⟩, fun p k h => absurd h (hnl k)⟩, c459, fun r hr => by omega, fun p hp => by omega⟩
  · rw [c75, f1]
  · exact ⟨c76, fun b h => (by cases h), fun b h => (by cases h), True.intro⟩
  · rw [f2, hW]; simp; omega
  · intro t ht
    rw [d52 t ht, e93 t ht]
    exact ⟨rfl, by decide, by decide, fun h => absurd rfl h⟩
  · refine ⟨[], fun t => ⟨fun h => (by cases h), fun h => by have := e108 t h.1; omega⟩, List.Pairwise.nil, fun t h => (by cases h), c259, by rw [c260, f4], by rw [f4]; omega, fun i t h => by simp at h⟩
  · exact ⟨by rw [c322, f6], by rw [f6]; omega, by rw [c323, f5], by rw [f5]; unfold am_r32; omega, fun i _ h => by rw [f6] at h; omega⟩
  · exact ⟨by rw [c389, f3], by rw [f3]; omega, fun i _ h => by rw [f3] at h; omega⟩
theorem pr_fill_loop (a n : Nat) (v : Int) (hn : n < 900) : ∀ (k i fu : Nat) (S : am_S), i + k = n → k < fu → ∃ S', sf_X4_fill_2 a n fu v (i : Int) S = some S' ∧ pr_out [] [a] S S' ∧ (∀ j, j < i → S'.2 a j = S.2 a j) ∧ ∀ j, i ≤ j → j < n → S'.2 a j = v := by
  intro k
  induction k with
  | zero =>
    intro i fu S hi hfu
    cases fu with
    | zero => omega
    | succ fu =>
      refine ⟨S, ?_, pr_out_refl _, fun _ _ => rfl, fun j h1 h2 => by omega⟩
      simp only [sf_X4_fill_2]
      rw [if_pos (by omega)]
  | succ k ih =>
    intro i fu S hi hfu
    cases fu with
    | zero => omega
    | succ fu =>
      obtain ⟨S', g1, g2, g3, g4⟩ := ih (i + 1) fu (am_sA S a i v) (by omega) (by omega)
      refine ⟨S', ?_, pr_out_trans (pr_out_sA (pr_out_refl _) List.mem_cons_self) g2, fun j hj => ?_, fun j h1 h2 => ?_⟩
      · simp only [sf_X4_fill_2]
        rw [if_neg (by omega), pr_gdn (by omega), pr_let, Int.toNat_natCast, pr_ws (by omega)]; exact g1
      · rw [g3 j (by omega), pr_Aj _ _ _ (by omega)]
      · by_cases e : j = i
        · rw [e, g3 i (by omega), pr_Ai]
        · exact g4 j (by omega) h2
theorem pr_fill (a n : Nat) (v : Int) (hn : n < 900) (S : am_S) : ∃ S', sf_X4_fill a n v S = some S' ∧ pr_out [] [a] S S' ∧ ∀ j, j < n → S'.2 a j = v := by
  obtain ⟨S', g1, g2, g3, g4⟩ := pr_fill_loop a n v hn n 0 1000 S (by omega) (by omega)
  exact ⟨S', g1, g2, fun j hj => g4 j (by omega) hj⟩
theorem pr_clr75 : ∀ (k i fu : Nat) (S : am_S), i + k = 4 → k < fu → ∃ S', sf_X10_clear_75 fu (i : Int) S = (some S') ∧ pr_out [] [93] S S' ∧ (∀ j, j < i → S'.2 93 j = S.2 93 j) ∧ ∀ j, i ≤ j → j < 4 → S'.2 93 j = 3 := by
  intro k
  induction k with
  | zero =>
    intro i fu S hi hfu
    cases fu with
    | zero => omega
    | succ fu =>
      refine ⟨S, ?_, pr_out_refl _, fun _ _ => rfl, fun j h1 h2 => by omega⟩
      simp only [sf_X10_clear_75]
      rw [if_pos (by omega)]
  | succ k ih =>
    intro i fu S hi hfu
    cases fu with
    | zero => omega
    | succ fu =>
      obtain ⟨S', g1, g2, g3, g4⟩ := ih (i + 1) fu (am_sA S 93 i 3) (by omega) (by omega)
      refine ⟨S', ?_, pr_out_trans (pr_out_sA (pr_out_refl _) List.mem_cons_self) g2, fun j hj => ?_, fun j h1 h2 => ?_⟩
      · simp only [sf_X10_clear_75]
        rw [if_neg (by omega), pr_gdn (by omega), pr_let, Int.toNat_natCast, pr_ws (by omega)]; exact g1
      · rw [g3 j (by omega), pr_Aj _ _ _ (by omega)]
      · by_cases e : j = i
        · rw [e, g3 i (by omega), pr_Ai]
        · exact g4 j (by omega) h2
theorem pr_clr54 : ∀ (k i fu : Nat) (S : am_S), i + k = 32 → k < fu → ∃ S', sf_X10_clear_54 fu (i : Int) S = (sf_X10_clear_75 1000 0 S') ∧ pr_out [] [108] S S' ∧ (∀ j, j < i → S'.2 108 j = S.2 108 j) ∧ ∀ j, i ≤ j → j < 32 → S'.2 108 j = (-1) := by
  intro k
  induction k with
  | zero =>
    intro i fu S hi hfu
    cases fu with
    | zero => omega
    | succ fu =>
      refine ⟨S, ?_, pr_out_refl _, fun _ _ => rfl, fun j h1 h2 => by omega⟩
      simp only [sf_X10_clear_54]
      rw [if_pos (by omega)]
  | succ k ih =>
    intro i fu S hi hfu
    cases fu with
    | zero => omega
    | succ fu =>
      obtain ⟨S', g1, g2, g3, g4⟩ := ih (i + 1) fu (am_sA S 108 i (-1)) (by omega) (by omega)
      refine ⟨S', ?_, pr_out_trans (pr_out_sA (pr_out_refl _) List.mem_cons_self) g2, fun j hj => ?_, fun j h1 h2 => ?_⟩
      · simp only [sf_X10_clear_54]
        rw [if_neg (by omega), pr_gdn (by omega), pr_let, Int.toNat_natCast, pr_ws (by omega)]; exact g1
      · rw [g3 j (by omega), pr_Aj _ _ _ (by omega)]
      · by_cases e : j = i
        · rw [e, g3 i (by omega), pr_Ai]
        · exact g4 j (by omega) h2
theorem pr_clr32 : ∀ (k i fu : Nat) (S : am_S), i + k = 800 → k < fu → ∃ S', sf_X10_clear_32 fu (i : Int) S = (sf_X10_clear_54 1000 0 S') ∧ pr_out [] [84] S S' ∧ (∀ j, j < i → S'.2 84 j = S.2 84 j) ∧ ∀ j, i ≤ j → j < 800 → S'.2 84 j = 0 := by
  intro k
  induction k with
  | zero =>
    intro i fu S hi hfu
    cases fu with
    | zero => omega
    | succ fu =>
      refine ⟨S, ?_, pr_out_refl _, fun _ _ => rfl, fun j h1 h2 => by omega⟩
      simp only [sf_X10_clear_32]
      rw [if_pos (by omega)]
  | succ k ih =>
    intro i fu S hi hfu
    cases fu with
    | zero => omega
    | succ fu =>
      obtain ⟨S', g1, g2, g3, g4⟩ := ih (i + 1) fu (am_sA S 84 i 0) (by omega) (by omega)
      refine ⟨S', ?_, pr_out_trans (pr_out_sA (pr_out_refl _) List.mem_cons_self) g2, fun j hj => ?_, fun j h1 h2 => ?_⟩
      · simp only [sf_X10_clear_32]
        rw [if_neg (by omega), pr_gdn (by omega), pr_let, Int.toNat_natCast, pr_ws (by omega)]; exact g1
      · rw [g3 j (by omega), pr_Aj _ _ _ (by omega)]
      · by_cases e : j = i
        · rw [e, g3 i (by omega), pr_Ai]
        · exact g4 j (by omega) h2
theorem pr_clear (S : am_S) : ∃ S', sf_X10_clear S = some S' ∧ pr_out [4745, 4755, 4771, 4777, 4778, 4782] [84, 93, 108] S S' ∧ S'.1 4745 = 0 ∧ S'.1 4755 = 0 ∧ S'.1 4771 = 0 ∧ S'.1 4777 = 0 ∧ S'.1 4778 = 0 ∧ S'.1 4782 = 0 ∧ (∀ j, j < 800 → S'.2 84 j = 0) ∧ (∀ j, j < 32 → S'.2 108 j = -1) ∧ (∀ j, j < 4 → S'.2 93 j = 3) := by
  obtain ⟨S0, h0⟩ : ∃ S0, S0 = am_sI (am_sI (am_sI (am_sI (am_sI (am_sI S 4745 0) 4755 0) 4771 0) 4777 0) 4778 0) 4782 0 := ⟨_, rfl⟩
  obtain ⟨S1, a1, a2, -, a4⟩ := pr_clr32 800 0 1000 S0 (by omega) (by omega)
  obtain ⟨S2, b1, b2, -, b4⟩ := pr_clr54 32 0 1000 S1 (by omega) (by omega)
  obtain ⟨S3, c1, c2, -, c4⟩ := pr_clr75 4 0 1000 S2 (by omega) (by omega)
  have o0 : pr_out [4745, 4755, 4771, 4777, 4778, 4782] [] S S0 := by
    rw [h0]
    refine pr_out_sI (pr_out_sI (pr_out_sI (pr_out_sI (pr_out_sI (pr_out_sI (pr_out_refl _) ?_) ?_) ?_) ?_) ?_) ?_ <;> decide
  have hi : ∀ n, S3.1 n = S0.1 n := fun n => by rw [c2.1 n (by simp), b2.1 n (by simp), a2.1 n (by simp)]
  refine ⟨S3, ?_, ?_, by rw [hi, h0]; rfl, by rw [hi, h0]; rfl, by rw [hi, h0]; rfl, by rw [hi, h0]; rfl, by rw [hi, h0]; rfl, by rw [hi, h0]; rfl, fun j hj => ?_, fun j hj => ?_, fun j hj => c4 j (by omega) hj⟩
  · unfold sf_X10_clear
    rw [pr_let, pr_let, pr_let, pr_let, pr_let, pr_let, ← h0]
    rw [show ((0 : Nat) : Int) = 0 from rfl] at a1 b1 c1
    rw [a1, b1, c1]
  · exact pr_out_trans (pr_out_mono o0 (by decide) (by decide)) (pr_out_trans (pr_out_mono a2 (by decide) (by decide)) (pr_out_trans (pr_out_mono b2 (by decide) (by decide)) (pr_out_mono c2 (by decide) (by decide))))
  · rw [c2.2 84 (by decide), b2.2 84 (by decide)]; exact a4 j (by omega) hj
  · rw [c2.2 108 (by decide)]; exact b4 j (by omega) hj
theorem pr_pub_forget {B : Int} {Sc Sr : am_S} (I : pr_I B Sc Sr) (hB : B + 2000000 < 2000000000) : pr_pub B Sc Sr sf_X9_forget sf_X10_forget := by
  obtain ⟨m1, m2, m3, m4, m5⟩ := pr_Y_m I.1
  obtain ⟨C0, hC0⟩ : ∃ C0, C0 = am_sI (am_sI Sc 75 0) 76 0 := ⟨_, rfl⟩
  obtain ⟨C1, a1, a2, a3⟩ := pr_fill 52 4 3 (by omega) C0
  obtain ⟨C2, hC2⟩ : ∃ C2, C2 = am_sI (am_sI (am_sI (am_sI (am_sI C1 259 0) 260 0) 322 0) 323 0) 389 0 := ⟨_, rfl⟩
  obtain ⟨C3, b1, b2, b3⟩ := pr_fill 71 100 0 (by omega) C2
  obtain ⟨Sr', c1, c2, g1, g2, g3, g4, g5, g6, g7, g8, g9⟩ := pr_clear Sr
  have o2 : pr_out [259, 260, 322, 323, 389] [] C1 C2 := by
    rw [hC2]
    refine pr_out_sI (pr_out_sI (pr_out_sI (pr_out_sI (pr_out_sI (pr_out_refl _) ?_) ?_) ?_) ?_) ?_ <;> decide
  have hA : ∀ a, a ≠ 52 → a ≠ 71 → C3.2 a = Sc.2 a := fun a h1 h2 => by rw [b2.2 a (by simp; omega), o2.2 a (by simp), a2.2 a (by simp; omega), hC0]; rfl
  have hF : pr_RF C3 Sr' := by
    intro f hf
    obtain ⟨t1, t2, t3, t4⟩ := I.1.2.1.2.1 f hf
    rw [hA 55 (by omega) (by omega), c2.2 98 (by decide)]
    exact ⟨t1, t2, t3, fun i hi => pr_SD_same (t4 i hi) (by rw [hA 56 (by omega) (by omega)]) (by rw [hA 57 (by omega) (by omega)]) (by rw [c2.2 99 (by decide)]) (by rw [c2.2 100 (by decide)]) (by rw [c2.2 101 (by decide)])⟩
  have h3i : ∀ n, C3.1 n = C2.1 n := fun n => b2.1 n (by simp)
  have h1i : ∀ n, C1.1 n = C0.1 n := fun n => a2.1 n (by simp)
  have hI : pr_I (B + 2000000) C3 Sr' := by
    refine pr_fresh ⟨by omega, hB⟩ ?_ ?_ (by rw [h3i, hC2]; rfl) (by rw [h3i, hC2]; rfl) (by rw [h3i, hC2]; rfl) (by rw [h3i, hC2]; rfl) (by rw [h3i, hC2]; rfl) ?_ (fun j hj => ?_) b3 hF g1 g2 g3 g4 g5 g6 g7 (fun k hk => by rw [g8 k hk]; decide) g9
    · rw [h3i, o2.1 75 (by decide), h1i, hC0]; rfl
    · rw [h3i, o2.1 76 (by decide), h1i, hC0]; rfl
    · rw [h3i, o2.1 459 (by decide), h1i, hC0]; exact I.2.1
    · rw [b2.2 52 (by decide), o2.2 52 (by decide)]; exact a3 j hj
  refine ⟨Sr.1 4745, C3, Sr', ?_, ?_, hI⟩
  · unfold sf_X9_forget sf_X3_made sf_X3_clear sf_X7_clear sf_X6_clear sf_X2_clear sf_X1_clear sf_X5_clear
    rw [pr_b2, pr_let, pr_let, ← hC0, pr_b1, a1, pr_b1, pr_b1]
    simp only [pr_let, pr_b1]
    rw [← hC2, b1, pr_b1, pr_b1, m1]
  · unfold sf_X10_forget
    rw [c1, pr_b1]
