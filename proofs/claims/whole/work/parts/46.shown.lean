/-! what is shown: state, noted, count -/
theorem pr_loose {B : Int} {Sc Sr : am_S} (Z : pr_Y B Sc Sr) {q : Nat} (hq : (q : Int) < Sr.1 4745) : ∃ x : Int, (x = 0 ∨ x = 1) ∧ sf_X3_isLoose (q : Int) Sc = some (x, Sc) ∧ sf_X10_isLoose (q : Int) Sr = some (x, Sr) := by
  obtain ⟨m1, m2, m3, m4, m5⟩ := pr_Y_m Z
  obtain ⟨d1, d2, d3, d4, d5, d6, d7, d8, d9, d10⟩ := pr_Y_pd Z hq
  have hq100 : q < 100 := by omega
  have w41 : ∀ _ : Nat, am_w32 (Sc.2 41 q) = Sr.2 75 q := fun _ => by rw [d1, pr_w (by omega) (by omega)]
  have w45 : ∀ _ : Nat, am_w32 (Sc.2 45 q) = Sr.2 82 q := fun _ => by rw [d9, pr_w (by omega) (by omega)]
  unfold sf_X3_isLoose sf_X10_isLoose
  rw [pr_atn hq100, pr_b2, w41 0, pr_gdn hq100, Int.toNat_natCast]
  by_cases h2 : Sr.2 75 q = 2
  · rw [if_pos h2, if_pos h2, pr_atn hq100, pr_b2, w45 0, pr_gdn hq100]
    by_cases h0 : Sr.2 82 q = 0
    · rw [if_pos h0, if_pos h0]; exact ⟨1, Or.inr rfl, rfl, rfl⟩
    · rw [if_neg h0, if_neg h0]; exact ⟨0, Or.inl rfl, rfl, rfl⟩
  · rw [if_neg h2, if_neg h2]; exact ⟨0, Or.inl rfl, rfl, rfl⟩
theorem pr_loose_loop {B : Int} {Sc Sr : am_S} (Z : pr_Y B Sc Sr) {m : Nat} (hm : Sr.1 4745 = (m : Int)) : ∀ (k p c fuC fuR : Nat), p + k = m → k < fuC → k < fuR → c ≤ p → ∃ r : Int, sf_X3_loose_4 fuC (c : Int) (p : Int) Sc = some (r, Sc) ∧ sf_X10_count_104 fuR (c : Int) (p : Int) Sr = some (r, Sr) := by
  obtain ⟨m1, m2, m3, m4, m5⟩ := pr_Y_m Z
  intro k
  induction k with
  | zero =>
    intro p c fuC fuR hp hC hR hc
    cases fuC with
    | zero => omega
    | succ fuC =>
    cases fuR with
    | zero => omega
    | succ fuR =>
      refine ⟨(c : Int), ?_, ?_⟩
      · simp only [sf_X3_loose_4]
        rw [if_pos (by omega)]
      · simp only [sf_X10_count_104]
        rw [if_pos (by omega)]
  | succ k ih =>
    intro p c fuC fuR hp hC hR hc
    cases fuC with
    | zero => omega
    | succ fuC =>
    cases fuR with
    | zero => omega
    | succ fuR =>
      obtain ⟨x, h0, h1, h2⟩ := pr_loose Z (q := p) (by omega)
      have e1 : sf_X3_loose_4 (fuC + 1) (c : Int) (p : Int) Sc = (if x = 0 then sf_X3_loose_4 fuC (c : Int) ((p + 1 : Nat) : Int) Sc else sf_X3_loose_4 fuC ((c + 1 : Nat) : Int) ((p + 1 : Nat) : Int) Sc) := by
        simp only [sf_X3_loose_4]
        rw [if_neg (by omega), h1, pr_b2, pr_ws (show p < 2000000000 by omega), pr_ws (show c < 2000000000 by omega)]
      have e2 : sf_X10_count_104 (fuR + 1) (c : Int) (p : Int) Sr = (if x = 0 then sf_X10_count_104 fuR (c : Int) ((p + 1 : Nat) : Int) Sr else sf_X10_count_104 fuR ((c + 1 : Nat) : Int) ((p + 1 : Nat) : Int) Sr) := by
        simp only [sf_X10_count_104]
        rw [if_neg (by omega), h2, pr_b2, pr_ws (show p < 2000000000 by omega), pr_ws (show c < 2000000000 by omega)]
      rw [e1, e2]
      by_cases hx : x = 0
      · rw [if_pos hx, if_pos hx]; exact ih (p + 1) c fuC fuR (by omega) (by omega) (by omega) (by omega)
      · rw [if_neg hx, if_neg hx]; exact ih (p + 1) (c + 1) fuC fuR (by omega) (by omega) (by omega) (by omega)
theorem pr_pub_count {B : Int} {Sc Sr : am_S} (I : pr_I B Sc Sr) (hB : B + 2000000 < 2000000000) (w : Int) : pr_pub B Sc Sr (sf_X9_count w) (sf_X10_count w) := by
  obtain ⟨m1, m2, m3, m4, m5⟩ := pr_Y_m I.1
  have I2 := pr_I_mono I (show B ≤ B + 2000000 by omega) hB
  have hN := I.1.2.1.2.2.2.1
  have hI := I.1.2.1.2.2.2.2
  unfold pr_pub
  by_cases h3 : w = 3
  · subst h3
    refine ⟨Sc.1 259, Sc, Sr, ?_, pr_count3 I.1.2.1.2.2.1, I2⟩
    unfold sf_X9_count sf_X6_size
    rw [if_neg (by decide), if_neg (by decide), if_neg (by decide), if_pos rfl, pr_b2]
  · unfold sf_X9_count sf_X10_count
    by_cases h0 : w = 0
    · rw [if_pos h0, if_pos h0]
      refine ⟨Sr.1 4745, Sc, Sr, ?_, rfl, I2⟩
      unfold sf_X3_made
      rw [pr_b2, m1]
    · rw [if_neg h0, if_neg h0]
      by_cases h1 : w = 1
      · rw [if_pos h1, if_pos h1]
        obtain ⟨⟨KS, R⟩, -⟩ := I.1
        refine ⟨((KS (-1)).length : Int), Sc, Sr, ?_, ?_, I2⟩
        · unfold sf_X3_jobs
          rw [pr_b2, R.2.2.2.2.1.1, List.length_map]
        · rw [pr_waiting R.2.2.1, pr_b2]
      · rw [if_neg h1, if_neg h1]
        by_cases h2 : w = 2
        · rw [if_pos h2, if_pos h2]
          refine ⟨Sr.1 4778, Sc, Sr, ?_, rfl, I2⟩
          unfold sf_X2_turns
          rw [pr_b2, hN.2.2.1]
        · rw [if_neg h2, if_neg h2, if_neg h3, if_neg h3]
          by_cases h4 : w = 4
          · rw [if_pos h4, if_pos h4]
            refine ⟨Sr.1 4777, Sc, Sr, ?_, rfl, I2⟩
            obtain ⟨TS, a1, a2, a3, a4, a5, -⟩ := I.1.2.1.2.2.1
            unfold sf_X6_time
            rw [pr_b2, a5]
          · rw [if_neg h4, if_neg h4]
            by_cases h5 : w = 5
            · rw [if_pos h5, if_pos h5]
              refine ⟨Sr.1 4782, Sc, Sr, ?_, rfl, I2⟩
              unfold sf_X2_total
              rw [pr_b2, hN.1]
            · rw [if_neg h5, if_neg h5]
              by_cases h6 : w = 6
              · rw [if_pos h6, if_pos h6]
                obtain ⟨m, hm⟩ : ∃ m : Nat, Sr.1 4745 = (m : Int) := ⟨(Sr.1 4745).toNat, by omega⟩
                obtain ⟨r, g1, g2⟩ := pr_loose_loop I.1 hm m 0 0 1000 1000 (by omega) (by omega) (by omega) (by omega)
                rw [show ((0 : Nat) : Int) = 0 from rfl] at g1 g2
                refine ⟨r, Sc, Sr, ?_, g2, I2⟩
                unfold sf_X3_loose
                rw [g1, pr_b2]
              · rw [if_neg h6, if_neg h6]
                by_cases h7 : w = 7
                · rw [if_pos h7, if_pos h7]
                  refine ⟨Sr.1 4771, Sc, Sr, ?_, rfl, I2⟩
                  unfold sf_X1_items
                  rw [pr_b2, hI.1]
                · rw [if_neg h7, if_neg h7]
                  exact ⟨-1, Sc, Sr, rfl, rfl, I2⟩
theorem pr_pub_state {B : Int} {Sc Sr : am_S} (I : pr_I B Sc Sr) (hB : B + 2000000 < 2000000000) (p w : Int) : pr_pub B Sc Sr (sf_X9_state p w) (sf_X10_state p w) := by
  obtain ⟨m1, m2, m3, m4, m5⟩ := pr_Y_m I.1
  have I2 := pr_I_mono I (show B ≤ B + 2000000 by omega) hB
  unfold pr_pub sf_X9_state sf_X10_state
  by_cases hp : 0 ≤ p ∧ p < Sr.1 4745
  · obtain ⟨q, hq⟩ : ∃ q : Nat, p = (q : Int) := ⟨p.toNat, by omega⟩
    subst hq
    have hq100 : q < 100 := by omega
    obtain ⟨d1, d2, d3, d4, d5, d6, d7, d8, d9, d10⟩ := pr_Y_pd I.1 hp.2
    obtain ⟨fl1, fl2⟩ := I.2.2.2 q hp.2
    have w41 : ∀ _ : Nat, am_w32 (Sc.2 41 q) = Sr.2 75 q := fun _ => by rw [d1, pr_w (by omega) (by omega)]
    have w43 : ∀ _ : Nat, am_w32 (Sc.2 43 q) = Sr.2 78 q := fun _ => by rw [d4, pr_w (by omega) (by omega)]
    have w44 : ∀ _ : Nat, am_w32 (Sc.2 44 q) = Sr.2 81 q := fun _ => by rw [d7, pr_w (by omega) (by omega)]
    have w71 : ∀ _ : Nat, am_w32 (Sc.2 71 q) = Sr.2 83 q := fun _ => by rw [fl1, pr_w (by omega) (by omega)]
    have hst : ∀ S : am_S, S = Sc → sf_X3_statusOf (q : Int) S = some (Sr.2 75 q, S) := fun S hS => by
      subst hS
      unfold sf_X3_statusOf
      rw [pr_atn hq100, pr_b2, w41 0]
    have hC29 : (if Sr.2 75 q = 0 then sf_X9_state_29 (q : Int) w 1 Sc else sf_X9_state_29 (q : Int) w 0 Sc) = sf_X9_state_29 (q : Int) w (if Sr.2 75 q = 0 then 1 else 0) Sc := by
      by_cases h : Sr.2 75 q = 0
      · rw [if_pos h, if_pos h]
      · rw [if_neg h, if_neg h]
    rw [pr_hasC1 m1 hp, pr_b2, if_neg (show ¬ (1 : Int) = 0 by decide), hst Sc rfl, pr_b2, hC29, pr_isP1 ⟨m2, m3⟩ hp, pr_b2, if_neg (show ¬ (1 : Int) = 0 by decide)]
    unfold sf_X9_state_29
    by_cases h0 : w = 0
    · rw [if_pos h0, if_pos h0, hst Sc rfl, pr_b2, pr_gdn hq100, Int.toNat_natCast]
      exact ⟨Sr.2 75 q, Sc, Sr, rfl, rfl, I2⟩
    · rw [if_neg h0, if_neg h0]
      by_cases h1 : w = 1
      · rw [if_pos h1, if_pos h1, pr_gdn hq100, Int.toNat_natCast]
        by_cases hs : Sr.2 75 q = 0
        · rw [if_pos hs, if_pos hs, if_neg (by decide)]
          exact ⟨-1, Sc, Sr, rfl, rfl, I2⟩
        · obtain ⟨e1, e2, -⟩ := d3 hs
          rw [if_neg hs, if_neg hs, if_pos rfl, pr_gdn hq100]
          refine ⟨Sr.2 76 q, Sc, Sr, ?_, rfl, I2⟩
          unfold sf_X3_valueOf
          rw [pr_van hq100, pr_b2, pr_b2, e1, pr_sortOf (pr_VV_s e2), pr_b2]
      · rw [if_neg h1, if_neg h1]
        by_cases h2 : w = 2
        · rw [if_pos h2, if_pos h2, pr_gdn hq100, Int.toNat_natCast]
          by_cases hs : Sr.2 75 q = 0
          · rw [if_pos hs, if_pos hs, if_neg (by decide)]
            exact ⟨-1, Sc, Sr, rfl, rfl, I2⟩
          · obtain ⟨e1, e2, -⟩ := d3 hs
            rw [if_neg hs, if_neg hs, if_pos rfl, pr_gdn hq100]
            refine ⟨Sr.2 77 q, Sc, Sr, ?_, rfl, I2⟩
            unfold sf_X3_valueOf
            rw [pr_van hq100, pr_b2, pr_b2, e1, pr_numberOf e2.1, pr_b2]
        · rw [if_neg h2, if_neg h2]
          by_cases h3 : w = 3
          · obtain ⟨x, x0, x1, x2⟩ := pr_loose I.1 hp.2
            rw [if_pos h3, if_pos h3, x1, x2, pr_b2, pr_b2]
            by_cases hx : x = 0
            · rw [if_pos hx, if_pos hx]; exact ⟨0, Sc, Sr, rfl, rfl, I2⟩
            · rw [if_neg hx, if_neg hx]; exact ⟨1, Sc, Sr, rfl, rfl, I2⟩
          · rw [if_neg h3, if_neg h3]
            by_cases h4 : w = 4
            · rw [if_pos h4, if_pos h4]
              obtain ⟨⟨KS, R⟩, -⟩ := I.1
              have hlen := (R.2.2.2.2.2.1 q hp.2).1
              have h8 := pr_TB_len R.2.2.1 (q : Int)
              rw [List.length_map] at hlen
              refine ⟨((KS (q : Int)).length : Int), Sc, Sr, ?_, ?_, I2⟩
              · unfold sf_X3_reactionsOf
                rw [pr_atn hq100, pr_b2, pr_b2, hlen, pr_w (by omega) (by omega)]
              · rw [pr_waiting R.2.2.1, pr_b2]
            · rw [if_neg h4, if_neg h4]
              by_cases h5 : w = 5
              · rw [if_pos h5, if_pos h5, pr_gdn hq100, Int.toNat_natCast]
                refine ⟨Sr.2 78 q, Sc, Sr, ?_, rfl, I2⟩
                unfold sf_X3_lastKeyOf
                rw [pr_atn hq100, pr_b2, pr_b2, w43 0]
              · rw [if_neg h5, if_neg h5]
                by_cases h6 : w = 6
                · rw [if_pos h6, if_pos h6, pr_gdn hq100, Int.toNat_natCast]
                  unfold sf_X3_isKeyUsed
                  rw [pr_atn hq100, pr_b2, w44 0]
                  rcases d8 with h8 | h8
                  · rw [h8, if_neg (by decide), pr_b2, if_pos rfl, if_pos rfl]; exact ⟨0, Sc, Sr, rfl, rfl, I2⟩
                  · rw [h8, if_pos rfl, pr_b2, if_neg (by decide), if_neg (by decide)]; exact ⟨1, Sc, Sr, rfl, rfl, I2⟩
                · rw [if_neg h6, if_neg h6]
                  by_cases h7 : w = 7
                  · rw [if_pos h7, if_pos h7, pr_gdn hq100, Int.toNat_natCast]
                    unfold sf_X5_isStopped
                    rw [pr_atn hq100, pr_b2, w71 0]
                    rcases fl2 with h8 | h8
                    · rw [h8, if_neg (by decide), pr_b2, if_pos rfl, if_pos rfl]; exact ⟨0, Sc, Sr, rfl, rfl, I2⟩
                    · rw [h8, if_pos rfl, pr_b2, if_neg (by decide), if_neg (by decide)]; exact ⟨1, Sc, Sr, rfl, rfl, I2⟩
                  · rw [if_neg h7, if_neg h7]
                    exact ⟨-1, Sc, Sr, rfl, rfl, I2⟩
  · rw [pr_hasC0 m1 hp, pr_b2, if_pos rfl, pr_isP0 ⟨m2, m3⟩ hp, pr_b2, if_pos rfl]
    exact ⟨-1, Sc, Sr, rfl, rfl, I2⟩
theorem pr_pub_noted {B : Int} {Sc Sr : am_S} (I : pr_I B Sc Sr) (hB : B + 2000000 < 2000000000) (k w : Int) : pr_pub B Sc Sr (sf_X9_noted k w) (sf_X10_noted k w) := by
  have I2 := pr_I_mono I (show B ≤ B + 2000000 by omega) hB
  obtain ⟨n1, n2, n3, n4, n5⟩ := I.1.2.1.2.2.2.1
  obtain ⟨t, ht⟩ : ∃ t : Nat, Sr.1 4782 = (t : Int) := ⟨(Sr.1 4782).toNat, by omega⟩
  have htc : Sc.1 322 = (t : Int) := n1.trans ht
  have hB2 := (pr_Y_m I.1).2.2.2.1
  unfold pr_pub sf_X9_noted sf_X10_noted
  have hkept : sf_X2_kept Sc = some ((if 60 < (t : Int) then 60 else (t : Int)), Sc) := by
    unfold sf_X2_kept
    rw [htc]; rfl
  rw [hkept, pr_b2]
  by_cases hk : 0 ≤ k ∧ k < 60 ∧ k < (t : Int)
  · have hwin : 0 ≤ k ∧ k < (if 60 < (t : Int) then 60 else (t : Int)) := by
      refine ⟨hk.1, ?_⟩
      by_cases h : 60 < (t : Int)
      · rw [if_pos h]; exact hk.2.1
      · rw [if_neg h]; exact hk.2.2
    obtain ⟨j, hj⟩ : ∃ j : Nat, (t : Int) - 1 - k = (j : Int) := ⟨((t : Int) - 1 - k).toNat, by omega⟩
    have wj : ∀ _ : Nat, am_w32 (am_w32 ((t : Int) - 1) - k) = (j : Int) := fun _ => by rw [pr_w (x := (t : Int) - 1) (by omega) (by omega), hj, pr_w (by omega) (by omega)]
    have hi : j % 60 < 60 := by omega
    have hit : ((j % 60 : Nat) : Int) < Sr.1 4782 := by
      have : j % 60 ≤ j := Nat.mod_le _ _
      omega
    obtain ⟨v1, v2, v3, v4, v5⟩ := n5 (j % 60) hi hit
    have hval : sf_X2_valueOf k Sc = some (pr_V (Sr.2 113 (j % 60)) (Sr.2 114 (j % 60)), Sc) := by
      unfold sf_X2_valueOf
      rw [htc, wj 0, pr_tmod60, pr_van hi, pr_b2, v1]
    rw [pr_iw1 hwin, pr_b2, if_neg (show ¬ (1 : Int) = 0 by decide), if_neg (show ¬ k < 0 by omega), if_neg (show ¬ 60 ≤ k by omega), ht, if_pos hk.2.2, wj 0, pr_tmod60, pr_gdn hi, pr_gdn hi, pr_gdn hi, Int.toNat_natCast]
    by_cases h0 : w = 0
    · rw [if_pos h0, if_pos h0, hval, pr_b2, pr_numberOf v3, pr_b2]
      exact ⟨_, Sc, Sr, rfl, rfl, I2⟩
    · rw [if_neg h0, if_neg h0]
      by_cases h1 : w = 1
      · rw [if_pos h1, if_pos h1, hval, pr_b2, pr_sortOf (by omega), pr_b2]
        exact ⟨_, Sc, Sr, rfl, rfl, I2⟩
      · rw [if_neg h1, if_neg h1]
        by_cases h2 : w = 2
        · rw [if_pos h2, if_pos h2]
          refine ⟨Sr.2 115 (j % 60), Sc, Sr, ?_, rfl, I2⟩
          unfold sf_X2_turnOf
          have w62 : am_w32 (Sc.2 62 (j % 60)) = Sr.2 115 (j % 60) := by rw [v4]; exact am_w32_id v5
          rw [htc, wj 0, pr_tmod60, pr_atn hi, pr_b2, pr_b2, w62]
        · rw [if_neg h2, if_neg h2]
          exact ⟨1099511627776, Sc, Sr, rfl, rfl, I2⟩
  · have hwin : ¬ (0 ≤ k ∧ k < (if 60 < (t : Int) then 60 else (t : Int))) := by
      intro ⟨h1, h2⟩
      by_cases h : 60 < (t : Int)
      · rw [if_pos h] at h2; omega
      · rw [if_neg h] at h2; omega
    rw [pr_iw0 hwin, pr_b2, if_pos rfl]
    refine ⟨1099511627776, Sc, Sr, rfl, ?_, I2⟩
    by_cases h1 : k < 0
    · rw [if_pos h1]
    · rw [if_neg h1]
      by_cases h2 : 60 ≤ k
      · rw [if_pos h2]
      · rw [if_neg h2, ht, if_neg (show ¬ k < (t : Int) by omega)]
