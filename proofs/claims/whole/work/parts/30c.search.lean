/-! the reference -/
theorem pr_endOf_loop {Sr : am_S} {f N : Nat} (hf : f < 10) (hN : Sr.2 98 f = (N : Int)) (hN10 : N ≤ 10) : ∀ (u i k fu : Nat), N ≤ k + u → u < fu → i < 100 → k < 100 → i + u < 100 → sf_X10_endOf_7 fu (f : Int) (i : Int) (k : Int) Sr = some (pr_eo (pr_K Sr f) u i k, Sr) := by
  intro u
  induction u with
  | zero =>
    intro i k fu hu hfu hi hk hiu
    cases fu with
    | zero => omega
    | succ fu =>
      simp only [sf_X10_endOf_7, pr_gdn hf, Int.toNat_natCast]
      rw [if_pos (by omega)]
      rfl
  | succ u ih =>
    intro i k fu hu hfu hi hk hiu
    cases fu with
    | zero => omega
    | succ fu =>
      simp only [sf_X10_endOf_7, pr_gdn hf, Int.toNat_natCast]
      by_cases hkN : Sr.2 98 f ≤ (k : Int)
      · rw [if_pos hkN, pr_eo_zero _ _ _ _ (fun j hj => by unfold pr_K; rw [if_neg (by omega)])]
      · rw [if_neg hkN]
        have e1 : ∀ _ : Nat, am_w32 (am_w32 (10 * (f : Int)) + (k : Int)) = ((10 * f + k : Nat) : Int) := fun _ => (by
          rw [pr_w (x := 10 * (f : Int)) (by omega) (by omega), pr_w (by omega) (by omega)]; omega)
        have hKk : pr_K Sr f k = Sr.2 99 (10 * f + k) := by unfold pr_K; rw [if_pos (by omega)]
        have ek : ∀ _ : Nat, am_w32 ((k : Int) + 1) = ((k + 1 : Nat) : Int) := fun _ => pr_ws (by omega)
        simp only [e1 0, pr_gdn (show 10 * f + k < 100 by omega), Int.toNat_natCast]
        rw [ek 0]
        rw [pr_eo_s]
        rw [hKk]
        by_cases h7 : Sr.2 99 (10 * f + k) = 7
        · simp only [if_pos h7]
          by_cases hi0 : i = 0
          · have hi1 : (i : Int) = 0 := by omega
            simp only [if_pos hi1, if_pos hi0]
          · have hi1 : ¬ (i : Int) = 0 := by omega
            have h6 : ¬ Sr.2 99 (10 * f + k) = 6 := by omega
            have e2 : ∀ _ : Nat, am_w32 ((i : Int) + -1) = ((i - 1 : Nat) : Int) := fun _ => (by rw [pr_w (by omega) (by omega)]; omega)
            simp only [if_neg hi1, if_neg hi0, if_neg h6, e2 0]
            exact ih (i - 1) (k + 1) fu (by omega) (by omega) (by omega) (by omega) (by omega)
        · simp only [if_neg h7]
          by_cases h6 : Sr.2 99 (10 * f + k) = 6
          · have e2 : ∀ _ : Nat, am_w32 ((i : Int) + 1) = ((i + 1 : Nat) : Int) := fun _ => pr_ws (by omega)
            simp only [if_pos h6, e2 0]
            exact ih (i + 1) (k + 1) fu (by omega) (by omega) (by omega) (by omega) (by omega)
          · have e2 : ∀ _ : Nat, am_w32 ((i : Int) + 0) = ((i : Nat) : Int) := fun _ => (by rw [pr_w (by omega) (by omega)]; omega)
            simp only [if_neg h6, e2 0]
            exact ih i (k + 1) fu (by omega) (by omega) (by omega) (by omega) (by omega)
theorem pr_endOf {Sr : am_S} {f N : Nat} (hf : f < 10) (hN : Sr.2 98 f = (N : Int)) (hN10 : N ≤ 10) {t u : Nat} (ht : t < 50) (hu : N ≤ t + 1 + u) (hu2 : u < 50) : sf_X10_endOf (f : Int) (t : Int) Sr = some (pr_eo (pr_K Sr f) u 0 (t + 1), Sr) := by
  have h := pr_endOf_loop hf hN hN10 u 0 (t + 1) 1000 hu (by omega) (by omega) (by omega) (by omega)
  unfold sf_X10_endOf
  rw [pr_ws (by omega)]
  exact h
def pr_Q (K : Nat → Int) (at' t : Nat) : Int := if (pr_seg K (at' + 1 - t) t).1 < pr_A K t then pr_res (pr_eo K (20 - at') (pr_seg K (at' + 1 - t) t).2 (at' + 1)) else -1
theorem pr_Q_find (K : Nat → Int) (at' : Nat) : pr_Q K at' at' = pr_find K at' := by
  unfold pr_Q pr_find
  rw [show at' + 1 - at' = 1 by omega]
theorem pr_fling_loop {Sr : am_S} {f N at' d : Nat} {s n : Int} (hf : f < 10) (hN : Sr.2 98 f = (N : Int)) (hN10 : N ≤ 10) (ha : at' ≤ 10) (hd : Sr.1 4788 = (d : Int)) (hd110 : d < 110) : ∀ (t fu : Nat), t ≤ at' → t < fu →
    sf_X10_fling_35 fu s n (f : Int) (at' : Int) ((t : Int) - 1) Sr = if pr_Q (pr_K Sr f) at' t = -1 then am_b1 (sf_X10_finish 1 s n Sr) (fun S3 => some S3) else some (am_sA Sr 117 d (pr_Q (pr_K Sr f) at' t)) := by
  intro t
  induction t with
  | zero =>
    intro fu _ hfu
    cases fu with
    | zero => omega
    | succ fu =>
      simp only [sf_X10_fling_35]
      have : pr_Q (pr_K Sr f) at' 0 = -1 := by unfold pr_Q; rw [if_neg (by simp [pr_A])]
      rw [if_pos (by omega), if_pos this]
  | succ t ih =>
    intro fu ht hfu
    cases fu with
    | zero => omega
    | succ fu =>
      have et : ((t + 1 : Nat) : Int) - 1 = (t : Int) := by omega
      rw [et]
      simp only [sf_X10_fling_35, pr_gdn hf, Int.toNat_natCast]
      rw [if_neg (by omega)]
      have ew : ∀ _ : Nat, am_w32 ((t : Int) + -1) = (t : Int) - 1 := fun _ => (by rw [pr_w (by omega) (by omega)]; omega)
      rw [ew 0]
      have hih := ih fu (by omega) (by omega)
      -- what the segment from t says
      have eseg : at' + 1 - t = (at' + 1 - (t + 1)) + 1 := by omega
      have hQt : pr_Q (pr_K Sr f) at' t = if (pr_seg (pr_K Sr f) ((at' + 1 - (t + 1)) + 1) t).1 < pr_A (pr_K Sr f) t then pr_res (pr_eo (pr_K Sr f) (20 - at') (pr_seg (pr_K Sr f) ((at' + 1 - (t + 1)) + 1) t).2 (at' + 1)) else -1 := by
        unfold pr_Q; rw [eseg]
      have hpass : pr_K Sr f t ≠ 6 → pr_Q (pr_K Sr f) at' (t + 1) = pr_Q (pr_K Sr f) at' t := by
        intro h6
        rw [hQt]
        unfold pr_Q
        rw [pr_seg_s, pr_A_s, if_neg h6, if_neg h6]
        by_cases h7 : pr_K Sr f t = 7
        · rw [if_pos h7, if_pos h7]
          by_cases hlt : (pr_seg (pr_K Sr f) (at' + 1 - (t + 1)) (t + 1)).1 < pr_A (pr_K Sr f) t - 1
          · rw [if_pos hlt, if_pos (by show (pr_seg (pr_K Sr f) (at' + 1 - (t + 1)) (t + 1)).1 + 1 < _; omega)]
          · rw [if_neg hlt, if_neg (by show ¬ (pr_seg (pr_K Sr f) (at' + 1 - (t + 1)) (t + 1)).1 + 1 < _; omega)]
        · rw [if_neg h7, if_neg h7]
      by_cases htN : Sr.2 98 f ≤ (t : Int)
      · rw [if_pos htN, hih, hpass (by unfold pr_K; rw [if_neg (by omega)]; omega)]
      · rw [if_neg htN]
        have e1 : ∀ _ : Nat, am_w32 (am_w32 (10 * (f : Int)) + (t : Int)) = ((10 * f + t : Nat) : Int) := fun _ => (by
          rw [pr_w (x := 10 * (f : Int)) (by omega) (by omega), pr_w (by omega) (by omega)]; omega)
        have hKt : pr_K Sr f t = Sr.2 99 (10 * f + t) := by unfold pr_K; rw [if_pos (by omega)]
        simp only [e1 0, pr_gdn (show 10 * f + t < 100 by omega), Int.toNat_natCast]
        by_cases h6 : Sr.2 99 (10 * f + t) = 6
        · rw [if_pos h6, pr_endOf hf hN hN10 (t := t) (u := (at' + 1 - (t + 1)) + (20 - at')) (by omega) (by omega) (by omega), pr_b2]
          have hsg := pr_eo_seg (pr_K Sr f) (20 - at') (at' + 1 - (t + 1)) 0 (t + 1)
          have hAs : pr_A (pr_K Sr f) (t + 1) = pr_A (pr_K Sr f) t + 1 := by
            show (if pr_K Sr f t = 6 then pr_A (pr_K Sr f) t + 1 else if pr_K Sr f t = 7 then pr_A (pr_K Sr f) t - 1 else pr_A (pr_K Sr f) t) = _
            rw [if_pos (hKt.trans h6)]
          have hsegs : pr_seg (pr_K Sr f) ((at' + 1 - (t + 1)) + 1) t = (if 0 < (pr_seg (pr_K Sr f) (at' + 1 - (t + 1)) (t + 1)).1 then ((pr_seg (pr_K Sr f) (at' + 1 - (t + 1)) (t + 1)).1 - 1, (pr_seg (pr_K Sr f) (at' + 1 - (t + 1)) (t + 1)).2) else (0, (pr_seg (pr_K Sr f) (at' + 1 - (t + 1)) (t + 1)).2 + 1)) := by
            show (if pr_K Sr f t = 6 then _ else _) = _
            rw [if_pos (hKt.trans h6)]
          have hQ1 : pr_Q (pr_K Sr f) at' (t + 1) = if (pr_seg (pr_K Sr f) (at' + 1 - (t + 1)) (t + 1)).1 < pr_A (pr_K Sr f) t + 1 then pr_res (pr_eo (pr_K Sr f) (20 - at') (pr_seg (pr_K Sr f) (at' + 1 - (t + 1)) (t + 1)).2 (at' + 1)) else -1 := by
            unfold pr_Q; rw [hAs]
          by_cases hD : 0 < (pr_seg (pr_K Sr f) (at' + 1 - (t + 1)) (t + 1)).1
          · have hlt := hsg.1 hD
            rw [if_neg (by omega), hih]
            have : pr_Q (pr_K Sr f) at' (t + 1) = pr_Q (pr_K Sr f) at' t := by
              rw [hQ1, hQt, hsegs, if_pos hD]
              by_cases hlt2 : (pr_seg (pr_K Sr f) (at' + 1 - (t + 1)) (t + 1)).1 < pr_A (pr_K Sr f) t + 1
              · rw [if_pos hlt2, if_pos (by show (pr_seg (pr_K Sr f) (at' + 1 - (t + 1)) (t + 1)).1 - 1 < _; omega)]
              · rw [if_neg hlt2, if_neg (by show ¬ (pr_seg (pr_K Sr f) (at' + 1 - (t + 1)) (t + 1)).1 - 1 < _; omega)]
            rw [this]
          · have hD0 : (pr_seg (pr_K Sr f) (at' + 1 - (t + 1)) (t + 1)).1 = 0 := by omega
            have heq := hsg.2 (by omega)
            rw [hD0, show 0 - 0 + (pr_seg (pr_K Sr f) (at' + 1 - (t + 1)) (t + 1)).2 = (pr_seg (pr_K Sr f) (at' + 1 - (t + 1)) (t + 1)).2 by omega, show t + 1 + (at' + 1 - (t + 1)) = at' + 1 by omega] at heq
            have hQ2 : pr_Q (pr_K Sr f) at' (t + 1) = pr_res (pr_eo (pr_K Sr f) (20 - at') (pr_seg (pr_K Sr f) (at' + 1 - (t + 1)) (t + 1)).2 (at' + 1)) := by rw [hQ1, hD0, if_pos (by omega)]
            rw [heq, hQ2]
            have hge := pr_eo_ge (pr_K Sr f) (20 - at') (pr_seg (pr_K Sr f) (at' + 1 - (t + 1)) (t + 1)).2 (at' + 1)
            have hmo := pr_eo_mono (pr_K Sr f) (20 - at') (pr_seg (pr_K Sr f) (at' + 1 - (t + 1)) (t + 1)).2 (at' + 1)
            have h1 : pr_res (-1) = -1 := rfl
            rcases hge with hm | ⟨hg, hg2, -⟩
            · have hlt : ¬ (at' : Int) < -1 := by omega
              rw [hm, if_neg hlt, hih]
              have : pr_Q (pr_K Sr f) at' t = -1 := by
                rw [hQt, hsegs, if_neg hD]
                by_cases hlt2 : 0 < pr_A (pr_K Sr f) t
                · rw [if_pos hlt2]
                  show pr_res (pr_eo (pr_K Sr f) (20 - at') ((pr_seg (pr_K Sr f) (at' + 1 - (t + 1)) (t + 1)).2 + 1) (at' + 1)) = -1
                  rw [hmo hm, h1]
                · rw [if_neg hlt2]
              rw [this, h1]
            · clear hmo hQ2 hQ1 heq hsg hih hpass hQt
              generalize pr_eo (pr_K Sr f) (20 - at') (pr_seg (pr_K Sr f) (at' + 1 - (t + 1)) (t + 1)).2 (at' + 1) = ee at *
              have hr : pr_res ee = ee + 1 := by unfold pr_res; rw [if_neg (by omega)]
              have hlt : (at' : Int) < ee := by omega
              have hne : ¬ ee + 1 = -1 := by omega
              rw [hr, if_pos hlt, if_neg hne, hd, pr_gdn hd110, pr_let, Int.toNat_natCast, pr_w (by omega) (by omega)]
        · rw [if_neg h6, hih, hpass (by rw [hKt]; exact h6)]
