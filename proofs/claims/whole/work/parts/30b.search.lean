/-! the class -/
theorem pr_bt2 {Sc : am_S} {K : Nat → Int} {f N at' : Nat} (hf : f < 10) (hN : N ≤ 10) (h55 : am_w32 (Sc.2 55 f) = (N : Int)) (h56 : ∀ i, i < N → am_w32 (Sc.2 56 (10 * f + i)) = K i) (hK : ∀ i, N ≤ i → K i = 0) : ∀ (u j c i fu : Nat), j + u = 21 → at' < j → u < fu → c < 100 → i < 100 + j →
    sf_X0_behindTry_8 fu (f : Int) (at' : Int) (c : Int) (i : Int) (j : Int) Sc = some ((if 0 < c then pr_res (pr_eo K u i j) else -1), Sc) := by
  intro u
  induction u with
  | zero =>
    intro j c i fu hj _ hfu _ _
    cases fu with
    | zero => omega
    | succ fu =>
      simp only [sf_X0_behindTry_8]
      rw [pr_atn hf, pr_b2, h55, if_pos (by omega)]
      have : pr_res (pr_eo K 0 i j) = -1 := rfl
      rw [this]
      by_cases hc : 0 < c
      · rw [if_pos hc]
      · rw [if_neg hc]
  | succ u ih =>
    intro j c i fu hj hat hfu hc hi
    cases fu with
    | zero => omega
    | succ fu =>
      simp only [sf_X0_behindTry_8]
      rw [pr_atn hf, pr_b2, h55]
      by_cases hjN : (N : Int) ≤ (j : Int)
      · rw [if_pos hjN, pr_eo_zero K _ _ _ (fun x hx => hK x (by omega))]
        have : pr_res (-1) = -1 := rfl
        rw [this]
        by_cases hc : 0 < c
        · rw [if_pos hc]
        · rw [if_neg hc]
      · rw [if_neg hjN]
        have hk : sf_X0_kindOf (f : Int) (j : Int) Sc = some (K j, Sc) := by
          unfold sf_X0_kindOf
          have e1 : am_w32 (am_w32 ((f : Int) * 10) + (j : Int)) = ((10 * f + j : Nat) : Int) := by
            rw [pr_w (x := (f : Int) * 10) (by omega) (by omega), pr_w (by omega) (by omega)]; omega
          rw [e1, pr_atn (by omega), pr_b2, h56 j (by omega)]
        rw [hk, pr_b2]
        have ej : ∀ _ : Nat, am_w32 ((j : Int) + 1) = ((j + 1 : Nat) : Int) := fun _ => pr_ws (by omega)
        have ei : ∀ _ : Nat, am_w32 ((i : Int) + 1) = ((i + 1 : Nat) : Int) := fun _ => pr_ws (by omega)
        rw [pr_eo_s]
        have hatj : (at' : Int) ≤ (j : Int) := by omega
        have hjat : ¬ (j : Int) ≤ (at' : Int) := by omega
        by_cases h6 : K j = 6
        · have h7 : ¬ K j = 7 := by omega
          simp only [if_pos h6, if_neg h7, if_pos hatj, ei 0, ej 0]
          exact ih (j + 1) c (i + 1) fu (by omega) (by omega) (by omega) hc (by omega)
        · simp only [if_neg h6]
          by_cases h7 : K j = 7
          · simp only [if_pos h7]
            by_cases hi0 : i = 0
            · have hi1 : (i : Int) ≤ 0 := by omega
              simp only [if_pos hi1, if_pos hi0]
              by_cases hc0 : 0 < c
              · have hc1 : ¬ (c : Int) ≤ 0 := by omega
                have hj1 : ¬ (j : Int) = -1 := by omega
                simp only [if_neg hc1, if_neg hjat, if_pos hc0, ej 0]
                unfold pr_res
                rw [if_neg hj1]
                have : ((j + 1 : Nat) : Int) = (j : Int) + 1 := by omega
                rw [this]
              · have hc1 : (c : Int) ≤ 0 := by omega
                have hq := ih (j + 1) c i fu (by omega) (by omega) (by omega) hc (by omega)
                rw [if_neg hc0] at hq
                simp only [if_pos hc1, if_neg hc0, ej 0]
                exact hq
            · have hi1 : ¬ (i : Int) ≤ 0 := by omega
              have ei2 : ∀ _ : Nat, am_w32 ((i : Int) + -1) = ((i - 1 : Nat) : Int) := fun _ => (by rw [pr_w (by omega) (by omega)]; omega)
              simp only [if_neg hi1, if_neg hi0, ei2 0, ej 0]
              exact ih (j + 1) c (i - 1) fu (by omega) (by omega) (by omega) hc (by omega)
          · simp only [if_neg h7, ej 0]
            exact ih (j + 1) c i fu (by omega) (by omega) (by omega) hc (by omega)
theorem pr_A_le (K : Nat → Int) : ∀ t, pr_A K t ≤ t
  | 0 => Nat.le_refl _
  | t + 1 => by
    have := pr_A_le K t
    rw [pr_A_s]
    split
    · omega
    · split <;> omega
theorem pr_bt1 {Sc : am_S} {K : Nat → Int} {f N at' : Nat} (hf : f < 10) (hN : N ≤ 10) (ha : at' ≤ 10) (h55 : am_w32 (Sc.2 55 f) = (N : Int)) (h56 : ∀ i, i < N → am_w32 (Sc.2 56 (10 * f + i)) = K i) (hK : ∀ i, N ≤ i → K i = 0) : ∀ (n j fu : Nat), j + n = at' → n + 30 < fu →
    sf_X0_behindTry_8 fu (f : Int) (at' : Int) (pr_A K j : Int) 0 (j : Int) Sc = some (pr_find K at', Sc) := by
  intro n
  induction n with
  | zero =>
    intro j fu hj hfu
    have hja : j = at' := by omega
    subst hja
    cases fu with
    | zero => omega
    | succ fu =>
      simp only [sf_X0_behindTry_8]
      rw [pr_atn hf, pr_b2, h55]
      have hA := pr_A_le K j
      unfold pr_find
      by_cases hjN : (N : Int) ≤ (j : Int)
      · rw [if_pos hjN, pr_eo_zero K _ _ _ (fun x hx => hK x (by omega))]
        have : pr_res (-1) = -1 := rfl
        rw [this]
        split <;> rfl
      · rw [if_neg hjN]
        have hk : sf_X0_kindOf (f : Int) (j : Int) Sc = some (K j, Sc) := by
          unfold sf_X0_kindOf
          have e1 : am_w32 (am_w32 ((f : Int) * 10) + (j : Int)) = ((10 * f + j : Nat) : Int) := by
            rw [pr_w (x := (f : Int) * 10) (by omega) (by omega), pr_w (by omega) (by omega)]; omega
          rw [e1, pr_atn (by omega), pr_b2, h56 j (by omega)]
        rw [hk, pr_b2]
        have ej : ∀ _ : Nat, am_w32 ((j : Int) + 1) = ((j + 1 : Nat) : Int) := fun _ => pr_ws (by omega)
        have hu : ∀ c i : Nat, c < 100 → i < 100 → sf_X0_behindTry_8 fu (f : Int) (j : Int) (c : Int) (i : Int) ((j + 1 : Nat) : Int) Sc = some ((if 0 < c then pr_res (pr_eo K (20 - j) i (j + 1)) else -1), Sc) := fun c i hc hi => pr_bt2 hf hN h55 h56 hK (20 - j) (j + 1) c i fu (by omega) (by omega) (by omega) hc (by omega)
        by_cases h6 : K j = 6
        · have hs : pr_seg K 1 j = (0, 1) := by rw [pr_seg_1, if_pos h6]
          have e1 : ∀ _ : Nat, am_w32 ((0 : Int) + 1) = ((1 : Nat) : Int) := fun _ => pr_ws (i := 0) (by omega)
          rw [if_pos h6, if_pos (Int.le_refl _), if_pos h6, e1 0, ej 0, hu (pr_A K j) 1 (by omega) (by omega), hs]
        · rw [if_neg h6, if_neg h6]
          by_cases h7 : K j = 7
          · have hs : pr_seg K 1 j = (1, 0) := by rw [pr_seg_1, if_neg h6, if_pos h7]
            rw [if_pos h7, if_pos (Int.le_refl _), if_pos h7, hs]
            by_cases hA0 : pr_A K j = 0
            · have := hu (pr_A K j) 0 (by omega) (by omega)
              rw [if_neg (by omega)] at this
              rw [if_pos (by omega), ej 0, if_neg (by omega)]
              exact this
            · have e1 : ∀ _ : Nat, am_w32 ((pr_A K j : Int) + -1) = ((pr_A K j - 1 : Nat) : Int) := fun _ => (by rw [pr_w (by omega) (by omega)]; omega)
              rw [if_neg (by omega), if_pos (Int.le_refl _), e1 0, ej 0]
              have := hu (pr_A K j - 1) 0 (by omega) (by omega)
              rw [show ((0 : Nat) : Int) = 0 from rfl] at this
              rw [this]
              by_cases hA1 : 1 < pr_A K j
              · rw [if_pos (by omega), if_pos hA1]
              · rw [if_neg (by omega), if_neg hA1]
          · have hs : pr_seg K 1 j = (0, 0) := by rw [pr_seg_1, if_neg h6, if_neg h7]
            simp only [if_neg h7, ej 0, hs]
            exact hu (pr_A K j) 0 (by omega) (by omega)
  | succ n ih =>
    intro j fu hj hfu
    cases fu with
    | zero => omega
    | succ fu =>
      simp only [sf_X0_behindTry_8]
      rw [pr_atn hf, pr_b2, h55]
      have hA := pr_A_le K j
      by_cases hjN : (N : Int) ≤ (j : Int)
      · rw [if_pos hjN]
        unfold pr_find
        rw [pr_eo_zero K _ _ _ (fun x hx => hK x (by omega))]
        have : pr_res (-1) = -1 := rfl
        rw [this]
        split <;> rfl
      · rw [if_neg hjN]
        have hk : sf_X0_kindOf (f : Int) (j : Int) Sc = some (K j, Sc) := by
          unfold sf_X0_kindOf
          have e1 : am_w32 (am_w32 ((f : Int) * 10) + (j : Int)) = ((10 * f + j : Nat) : Int) := by
            rw [pr_w (x := (f : Int) * 10) (by omega) (by omega), pr_w (by omega) (by omega)]; omega
          rw [e1, pr_atn (by omega), pr_b2, h56 j (by omega)]
        rw [hk, pr_b2]
        have ej : ∀ _ : Nat, am_w32 ((j : Int) + 1) = ((j + 1 : Nat) : Int) := fun _ => pr_ws (by omega)
        have hih := ih (j + 1) fu (by omega) (by omega)
        rw [pr_A_s] at hih
        by_cases h6 : K j = 6
        · rw [if_pos h6] at hih
          have e1 : ∀ _ : Nat, am_w32 ((pr_A K j : Int) + 1) = ((pr_A K j + 1 : Nat) : Int) := fun _ => pr_ws (by omega)
          rw [if_pos h6, if_neg (by omega), e1 0, ej 0]
          exact hih
        · rw [if_neg h6] at hih ⊢
          rw [if_neg h6]
          by_cases h7 : K j = 7
          · rw [if_pos h7] at hih
            rw [if_pos h7, if_pos (Int.le_refl _), if_pos h7]
            by_cases hA0 : pr_A K j = 0
            · rw [if_pos (by omega), ej 0]
              have e2 : ((pr_A K j - 1 : Nat) : Int) = (pr_A K j : Int) := by omega
              rw [e2] at hih; exact hih
            · have e1 : ∀ _ : Nat, am_w32 ((pr_A K j : Int) + -1) = ((pr_A K j - 1 : Nat) : Int) := fun _ => (by rw [pr_w (by omega) (by omega)]; omega)
              rw [if_neg (by omega), if_pos (by omega), e1 0, ej 0]; exact hih
          · rw [if_neg h7] at hih
            simp only [if_neg h7, ej 0]; exact hih
theorem pr_behindTry {Sc Sr : am_S} (F : pr_RF Sc Sr) {f at' : Nat} (hf : f < 10) (ha : at' ≤ 10) : sf_X0_behindTry (f : Int) (at' : Int) Sc = some (pr_find (pr_K Sr f) at', Sc) := by
  obtain ⟨h1, h2, h3, h4⟩ := F f hf
  obtain ⟨N, hN⟩ : ∃ N : Nat, Sr.2 98 f = (N : Int) := ⟨(Sr.2 98 f).toNat, by omega⟩
  exact pr_bt1 (K := pr_K Sr f) (N := N) hf (by omega) ha (by rw [h1, pr_w (by omega) (by omega)]; exact hN)
    (fun i hi => by
      obtain ⟨a1, a2, a3, -⟩ := h4 i (by omega)
      unfold pr_K
      rw [if_pos (by omega), a1, pr_w (by omega) (by omega)])
    (fun i hi => by unfold pr_K; rw [if_neg (by omega)]) at' 0 1000 (by omega) (by omega)
