/-! GROUPS formed -/
theorem pr_sI_self (S : am_S) (n : Nat) : am_sI S n (S.1 n) = S := by
  have : am_up S.1 n (S.1 n) = S.1 := by
    funext j
    unfold am_up
    split
    · rename_i e; rw [e]
    · rfl
  show (am_up S.1 n (S.1 n), S.2) = S
  rw [this]
theorem pr_cnt_mono (P : Nat → Bool) : ∀ (n i : Nat), i ≤ n → pr_cnt P i ≤ pr_cnt P n
  | 0, i, h => by
    have : i = 0 := by omega
    subst this; exact Nat.le_refl _
  | n + 1, i, h => by
    by_cases e : i = n + 1
    · subst e; exact Nat.le_refl _
    · have := pr_cnt_mono P n i (by omega)
      simp only [pr_cnt]
      omega
def pr_np (A : Nat → Int) (i : Nat) : Nat := pr_cnt (fun j => decide (A j ≠ 1)) i
theorem pr_np_s (A : Nat → Int) (i : Nat) : pr_np A (i + 1) = (if A i = 1 then 0 else 1) + pr_np A i := by
  unfold pr_np
  show (if decide (A i ≠ 1) = true then 1 else 0) + _ = _
  by_cases h : A i = 1
  · rw [if_pos h, if_neg (by simp [h])]
  · rw [if_neg h, if_pos (by simp [h])]
theorem pr_room_loop {B : Int} {Sc Sr : am_S} (RI : pr_RI Sc Sr) {z : Nat} (hz : Sr.1 4771 = (z : Int)) (hz5 : z ≤ 5) : ∀ (k i b fu : Nat), i + k = z → k < fu → b ≤ 200 + i → sf_X1_hasRoom_12 fu (b : Int) (i : Int) Sc = some ((if 100 < b + (pr_np (Sr.2 106) z - pr_np (Sr.2 106) i) then 0 else 1), Sc) := by
  intro k
  induction k with
  | zero =>
    intro i b fu hi hfu hb
    cases fu with
    | zero => omega
    | succ fu =>
      have : i = z := by omega
      subst this
      simp only [sf_X1_hasRoom_12]
      rw [RI.1, hz, if_pos (Int.le_refl _), Nat.sub_self, Nat.add_zero]
      by_cases h : 100 < b
      · rw [if_pos h, if_pos (by omega)]
      · rw [if_neg h, if_neg (by omega)]
  | succ k ih =>
    intro i b fu hi hfu hb
    cases fu with
    | zero => omega
    | succ fu =>
      have hi5 : i < 5 := by omega
      obtain ⟨v1, v2⟩ := RI.2.2 i hi5 (by omega)
      have hmon := pr_cnt_mono (fun j => decide (Sr.2 106 j ≠ 1)) z (i + 1) (by omega)
      have hmon' : pr_np (Sr.2 106) (i + 1) ≤ pr_np (Sr.2 106) z := hmon
      have hs := pr_np_s (Sr.2 106) i
      simp only [sf_X1_hasRoom_12]
      rw [RI.1, hz, if_neg (by omega), pr_van hi5, pr_b2, v1, pr_sortOf (pr_VV_s v2), pr_b2, pr_ws (show i < 2000000000 by omega), pr_ws (show b < 2000000000 by omega)]
      by_cases h1 : Sr.2 106 i = 1
      · rw [if_pos h1] at hs
        rw [if_pos h1, ih (i + 1) b fu (by omega) (by omega) (by omega), hs, Nat.zero_add]
      · rw [if_neg h1] at hs
        rw [if_neg h1, ih (i + 1) (b + 1) fu (by omega) (by omega) (by omega)]
        have : b + 1 + (pr_np (Sr.2 106) z - pr_np (Sr.2 106) (i + 1)) = b + (pr_np (Sr.2 106) z - pr_np (Sr.2 106) i) := by omega
        rw [this]
def pr_gtail (b1 : Int) (b2 : Int) (S : am_S) : Option (Int × am_S) := if (am_w32 ((S.1 4745) + b2)) ≤ 100 then (am_b2 (sf_X10_promise S) (fun x5 S4 => (am_gd x5 100 (am_let (am_sA S4 102 (Int.toNat x5) b1) (fun S7 => (am_gd x5 100 (am_let (am_sA S7 103 (Int.toNat x5) (S7.1 4771)) (fun S8 => (am_gd x5 100 (am_let (am_sA S8 104 (Int.toNat x5) 0) (fun S9 => (am_gd x5 100 (am_let (am_sA S9 105 (Int.toNat x5) 0) (fun S10 => (sf_X10_group_95 1000 b1 x5 0 S10))))))))))))))) else (some ((-2), S))
theorem pr_roomR_loop {Sr : am_S} {z : Nat} (hz : Sr.1 4771 = (z : Int)) (hz5 : z ≤ 5) (b1 : Int) : ∀ (k i b fu : Nat), i + k = z → k < fu → b ≤ 200 + i → sf_X10_group_15 fu b1 (b : Int) (i : Int) Sr = pr_gtail b1 ((b + (pr_np (Sr.2 106) z - pr_np (Sr.2 106) i) : Nat) : Int) Sr := by
  intro k
  induction k with
  | zero =>
    intro i b fu hi hfu hb
    cases fu with
    | zero => omega
    | succ fu =>
      have : i = z := by omega
      subst this
      simp only [sf_X10_group_15]
      rw [hz, if_pos (Int.le_refl _), Nat.sub_self, Nat.add_zero]; rfl
  | succ k ih =>
    intro i b fu hi hfu hb
    cases fu with
    | zero => omega
    | succ fu =>
      have hi5 : i < 5 := by omega
      have hmon := pr_cnt_mono (fun j => decide (Sr.2 106 j ≠ 1)) z (i + 1) (by omega)
      have hmon' : pr_np (Sr.2 106) (i + 1) ≤ pr_np (Sr.2 106) z := hmon
      have hs := pr_np_s (Sr.2 106) i
      simp only [sf_X10_group_15]
      rw [hz, if_neg (by omega), pr_gdn hi5, Int.toNat_natCast, pr_ws (show i < 2000000000 by omega), pr_ws (show b < 2000000000 by omega)]
      by_cases h1 : Sr.2 106 i = 1
      · rw [if_pos h1] at hs
        rw [if_pos h1, ih (i + 1) b fu (by omega) (by omega) (by omega), hs, Nat.zero_add]
      · rw [if_neg h1] at hs
        rw [if_neg h1, ih (i + 1) (b + 1) fu (by omega) (by omega) (by omega)]
        have : b + 1 + (pr_np (Sr.2 106) z - pr_np (Sr.2 106) (i + 1)) = b + (pr_np (Sr.2 106) z - pr_np (Sr.2 106) i) := by omega
        rw [this]
theorem pr_form_loop {d z : Nat} {kind : Int} (hz5 : z ≤ 5) (A : Nat → Int) : ∀ (k i : Nat) (B : Int) (C R : am_S) (fuC fuR : Nat), i + k = z → k < fuC → k < fuR → pr_I B C R → R.1 4771 = (z : Int) → R.2 106 = A → pr_GD B C R d → (d : Int) < R.1 4745 → (∀ k', pr_live R k' → R.2 84 k' = 3 → R.2 87 k' = (d : Int) → R.2 88 k' < (i : Int)) → R.1 4745 + ((pr_np A z - pr_np A i : Nat) : Int) ≤ 100 → B + 4 * (k : Int) < 2000000000 →
    ∃ C' R', sf_X1_form_42 fuC (d : Int) (i : Int) C = sf_X1_form_42 (fuC - k) (d : Int) (z : Int) C' ∧ sf_X10_group_95 fuR kind (d : Int) (i : Int) R = sf_X10_group_95 (fuR - k) kind (d : Int) (z : Int) R' ∧ pr_I (B + 4 * (k : Int)) C' R' ∧ R'.1 4771 = (z : Int) ∧ (d : Int) < R'.1 4745 ∧ C'.2 64 = C.2 64 ∧ C'.2 65 = C.2 65 ∧ C'.2 66 = C.2 66 := by
  intro k
  induction k with
  | zero =>
    intro i B C R fuC fuR hi _ _ I hz hA hG hd _ _ hB
    have : i = z := by omega
    subst this
    exact ⟨C, R, rfl, rfl, pr_I_mono I (by omega) hB, hz, hd, rfl, rfl, rfl⟩
  | succ k ih =>
    intro i B C R fuC fuR hi hfC hfR I hz hA hG hd hpl hroom hB
    cases fuC with
    | zero => omega
    | succ fuC =>
    cases fuR with
    | zero => omega
    | succ fuR =>
      have hi5 : i < 5 := by omega
      obtain ⟨m1, m2, m3, m4, m5⟩ := pr_Y_m I.1
      have RI := I.1.2.1.2.2.2.2
      obtain ⟨v1, v2⟩ := RI.2.2 i hi5 (by omega)
      have hs := pr_np_s A i
      have hmon : pr_np A (i + 1) ≤ pr_np A z := pr_cnt_mono (fun j => decide (A j ≠ 1)) z (i + 1) (by omega)
      have hd100 : d < 100 := by omega
      have hjv : pr_jv 3 (d : Int) (i : Int) 0 = 9 * d + (4 + i) := by unfold pr_jv; simp; omega
      have wj : ∀ _ : Nat, am_w32 (4 + (i : Int)) = ((4 + i : Nat) : Int) := fun _ => (by rw [pr_w (by omega) (by omega)]; omega)
      have hjob : ∀ S, sf_X9_jobOf (d : Int) (am_w32 (4 + (i : Int))) S = some (((9 * d + (4 + i) : Nat) : Int), S) := fun S => by rw [wj 0]; exact pr_jobOf hd100 (by omega) S
      obtain ⟨s, hs106⟩ : ∃ s, s = R.2 106 i := ⟨_, rfl⟩
      obtain ⟨n, hn107⟩ : ∃ n, n = R.2 107 i := ⟨_, rfl⟩
      rw [← hs106, ← hn107] at v1 v2
      have hAi : A i = s := by rw [← hA, ← hs106]
      have hCev : sf_X1_form_42 (fuC + 1) (d : Int) (i : Int) C = am_b2 (sf_X3_promiseFor (pr_V s n) C) (fun x17 S16 => (am_b2 (sf_X9_jobOf (d : Int) (am_w32 (4 + (i : Int))) S16) (fun x20 S19 => (am_b1 (sf_X3_waitFor x17 x20 S19) (fun S22 => (sf_X1_form_42 fuC (d : Int) ((i + 1 : Nat) : Int) S22)))))) := by
        simp only [sf_X1_form_42]
        rw [RI.1, hz, if_neg (by omega), pr_van hi5, pr_b2, v1, pr_ws (by omega)]
      have hRev : sf_X10_group_95 (fuR + 1) kind (d : Int) (i : Int) R = (if s = 1 then (am_b1 (sf_X10_waitFor n 3 (d : Int) (i : Int) 0 R) (fun S13 => (sf_X10_group_95 fuR kind (d : Int) ((i + 1 : Nat) : Int) S13))) else (am_b2 (sf_X10_promise R) (fun x16 S15 => (am_b1 (sf_X10_resolveBy x16 (S15.2 106 i) (S15.2 107 i) 0 S15) (fun S18 => (am_b1 (sf_X10_waitFor x16 3 (d : Int) (i : Int) 0 S18) (fun S20 => (sf_X10_group_95 fuR kind (d : Int) ((i + 1 : Nat) : Int) S20)))))))) := by
        simp only [sf_X10_group_95]
        rw [hz, if_neg (by omega), pr_gdn hi5, pr_gdn hi5, Int.toNat_natCast, ← hs106, ← hn107, pr_ws (by omega)]
        simp only [pr_gdn hi5]
      rw [hCev, hRev]
      have hstep : ∀ (C1 R1 : am_S) (q : Nat) (B1 : Int), pr_I B1 C1 R1 → B1 ≤ B + 1 → (q : Int) < R1.1 4745 → R1.1 4771 = (z : Int) → R1.2 106 = A → pr_GD B1 C1 R1 d → (d : Int) < R1.1 4745 → (∀ k', pr_live R1 k' → R1.2 84 k' = 3 → R1.2 87 k' = (d : Int) → R1.2 88 k' < (i : Int)) → R1.1 4745 + ((pr_np A z - pr_np A (i + 1) : Nat) : Int) ≤ 100 → C1.2 64 = C.2 64 → C1.2 65 = C.2 65 → C1.2 66 = C.2 66 →
          ∃ C2 R2 C' R', sf_X3_waitFor (q : Int) ((9 * d + (4 + i) : Nat) : Int) C1 = some C2 ∧ sf_X10_waitFor (q : Int) 3 (d : Int) (i : Int) 0 R1 = some R2 ∧ sf_X1_form_42 fuC (d : Int) ((i + 1 : Nat) : Int) C2 = sf_X1_form_42 (fuC + 1 - (k + 1)) (d : Int) (z : Int) C' ∧ sf_X10_group_95 fuR kind (d : Int) ((i + 1 : Nat) : Int) R2 = sf_X10_group_95 (fuR + 1 - (k + 1)) kind (d : Int) (z : Int) R' ∧ pr_I (B + 4 * ((k + 1 : Nat) : Int)) C' R' ∧ R'.1 4771 = (z : Int) ∧ (d : Int) < R'.1 4745 ∧ C'.2 64 = C.2 64 ∧ C'.2 65 = C.2 65 ∧ C'.2 66 = C.2 66 := by
        intro C1 R1 q B1 I1 hB1 hq hz1 hA1 hG1 hd1 hpl1 hroom1 e64 e65 e66
        obtain ⟨C2, R2, w1, w2, w3, w4, w5, w6, w7, w8, w9, w10, w11, w12⟩ := pr_Ywait I1.1 (by omega) (q := q) (p := d) (j := 9 * d + (4 + i)) hq hd1 (w := 3) (a := (d : Int)) (b := (i : Int)) (c := 0) (Or.inr (Or.inr (Or.inl ⟨rfl, rfl, by omega, by omega⟩))) hjv (pr_ncd3 I1.1 hi5 hpl1) (fun _ => hG1)
        have I2 : pr_I (B1 + 2) C2 R2 := pr_I_core I1 w3 w4 w5 (fun q _ => by rw [w8]) (fun r h1 h2 => by omega) w7
        have hG2 : pr_GD (B1 + 2) C2 R2 d := pr_GD_mono (pr_GD_keep hG1 (by rw [w4.1 64 (by omega) (by omega)]) (by rw [w4.1 65 (by omega) (by omega)]) (by rw [w4.1 66 (by omega) (by omega)]) (by rw [w5.1 102 (by omega)]) (by rw [w5.1 103 (by omega)]) (by rw [w5.1 104 (by omega)]) (by rw [w5.1 105 (by omega)]) (fun h => by rw [w9, w10]; exact h)) (by omega)
        obtain ⟨C', R', y1, y2, y3, y4, y5, y6, y7, y8⟩ := ih (i + 1) (B1 + 2) C2 R2 fuC fuR (by omega) (by omega) (by omega) I2 (by rw [w5.2 4771 (by omega) (by omega)]; exact hz1) (by rw [w5.1 106 (by omega)]; exact hA1) hG2 (by omega) (fun k' hk' h3 h87 => by
          rcases w12 k' hk' with h | ⟨l1, l2, l3, l4⟩
          · rw [h]; omega
          · have := hpl1 k' l1 (by rw [← l2]; exact h3) (by rw [← l3]; exact h87)
            rw [l4]; omega) (by rw [w6]; exact hroom1) (by omega)
        have hf1 : fuC + 1 - (k + 1) = fuC - k := by omega
        have hf2 : fuR + 1 - (k + 1) = fuR - k := by omega
        rw [hf1, hf2]
        exact ⟨C2, R2, C', R', w1, w2, y1, y2, pr_I_mono y3 (by omega) (by omega), y4, y5, by rw [y6, w4.1 64 (by omega) (by omega), e64], by rw [y7, w4.1 65 (by omega) (by omega), e65], by rw [y8, w4.1 66 (by omega) (by omega), e66]⟩
      by_cases hs1 : s = 1
      · rw [if_pos (hAi.trans hs1)] at hs
        have hn : 0 ≤ n ∧ n < R.1 4745 := by
          rcases v2.2 with h | ⟨_, h⟩ | h
          · omega
          · exact h
          · omega
        obtain ⟨q, hq⟩ : ∃ q : Nat, n = (q : Int) := ⟨n.toNat, by omega⟩
        obtain ⟨C2, R2, C', R', w1, w2, y1, y2, y3⟩ := hstep C R q B I (by omega) (by omega) hz hA hG hd hpl (by omega) rfl rfl rfl
        refine ⟨C', R', ?_, ?_, y3⟩
        · unfold sf_X3_promiseFor
          rw [pr_sortOf (pr_VV_s v2), pr_b2, if_pos hs1, pr_numberOf v2.1, pr_b2, pr_b2, hjob, pr_b2, hq, w1, pr_b1]; exact y1
        · rw [if_pos hs1, hq, w2, pr_b1]; exact y2
      · rw [if_neg (fun h => hs1 (hAi.symm.trans h))] at hs
        obtain ⟨Cm, Rm, p, e1, e2, e3, e4, e5, e6, e7, e8, e9, e10, e11, e12, e13⟩ := pr_Ymake I.1 (by omega)
        obtain ⟨C1, R1, g1, g2, g3, -, g5, g6, g7, g8, g9, g10, g11, g12, g13, g14⟩ := pr_Ysettle e4 (by omega) (p := p) (how := 1) (s := s) (n := n) (k := 0) (by omega) (Or.inl rfl) (pr_VV_mono v2 (by omega)) (pr_free0 e4)
        have Im := pr_I_core I e4 e6 e7 (fun q hq => (e10 q (by omega)).2.2.2) (fun r h1 h2 => by
          have : r = p := by omega
          subst this; exact ⟨e8.2.2.2.1, e8.2.2.2.2⟩) e9
        have I1 : pr_I (B + 1) C1 R1 := pr_I_core Im g5 g6 g7 (fun q _ => by rw [g10]) (fun r h1 h2 => by omega) g9
        have hdp : d ≠ p := by omega
        have hG1 : pr_GD (B + 1) C1 R1 d := by
          have ha : pr_GD B Cm Rm d := pr_GD_keep hG (by rw [e6.1 64 (by omega) (by omega)]) (by rw [e6.1 65 (by omega) (by omega)]) (by rw [e6.1 66 (by omega) (by omega)]) (by rw [e7.1 102 (by omega)]) (by rw [e7.1 103 (by omega)]) (by rw [e7.1 104 (by omega)]) (by rw [e7.1 105 (by omega)]) (fun h => by rw [(e10 d hdp).2.1, (e10 d hdp).2.2.1]; exact h)
          exact pr_GD_mono (pr_GD_keep ha (by rw [g6.1 64 (by omega) (by omega)]) (by rw [g6.1 65 (by omega) (by omega)]) (by rw [g6.1 66 (by omega) (by omega)]) (by rw [g7.1 102 (by omega)]) (by rw [g7.1 103 (by omega)]) (by rw [g7.1 104 (by omega)]) (by rw [g7.1 105 (by omega)]) (fun h h0 => by rw [g11] at h0; exact g14 d (h h0))) (by omega)
        obtain ⟨C2, R2, C', R', w1, w2, y1, y2, y3⟩ := hstep C1 R1 p (B + 1) I1 (Int.le_refl _) (by omega) (by rw [g7.2 4771 (by omega) (by omega), e7.2 4771 (by omega) (by omega)]; exact hz) (by rw [g7.1 106 (by omega), e7.1 106 (by omega)]; exact hA) hG1 (by omega) (fun k' hk' h3 h87 => by
          rcases g12 k' hk' with ⟨h5, -⟩ | ⟨l1, l2, l3, l4, -⟩
          · omega
          · rcases e12 k' l1 with ⟨h5, -⟩ | ⟨n1, n2, n3, n4, -⟩
            · exact absurd h5 l1.2
            · rw [l4, n4]
              exact hpl k' n1 (by rw [← n2, ← l2]; exact h3) (by rw [← n3, ← l3]; exact h87)) (by omega) (by rw [g6.1 64 (by omega) (by omega), e6.1 64 (by omega) (by omega)]) (by rw [g6.1 65 (by omega) (by omega), e6.1 65 (by omega) (by omega)]) (by rw [g6.1 66 (by omega) (by omega), e6.1 66 (by omega) (by omega)])
        refine ⟨C', R', ?_, ?_, y3⟩
        · unfold sf_X3_promiseFor
          rw [pr_sortOf (pr_VV_s v2), pr_b2, if_neg hs1, e2, pr_b2, g1, pr_b1, pr_b2, hjob, pr_b2, w1, pr_b1]; exact y1
        · rw [if_neg hs1, e3, pr_b2, e7.1 106 (by omega), e7.1 107 (by omega), ← hs106, ← hn107, g3 rfl, pr_b1, w2, pr_b1]; exact y2
theorem pr_pub_group {B : Int} {Sc Sr : am_S} (I : pr_I B Sc Sr) (hB : B + 2000000 < 2000000000) (kind : Int) : pr_pub B Sc Sr (sf_X9_group kind) (sf_X10_group kind) := by
  obtain ⟨m1, m2, m3, m4, m5⟩ := pr_Y_m I.1
  have RI := I.1.2.1.2.2.2.2
  obtain ⟨z, hz⟩ : ∃ z : Nat, Sr.1 4771 = (z : Int) := ⟨(Sr.1 4771).toNat, by have := RI.2.1; omega⟩
  obtain ⟨m, hm⟩ : ∃ m : Nat, Sr.1 4745 = (m : Int) := ⟨(Sr.1 4745).toNat, by omega⟩
  have hz5 : z ≤ 5 := by have := RI.2.1; omega
  have hid : ∀ o : Option am_S, am_b1 o (fun S => some S) = o := fun o => by cases o <;> rfl
  unfold pr_pub sf_X9_group sf_X10_group
  by_cases hk : 0 ≤ kind ∧ kind < 4
  · have hroomC := pr_room_loop (B := B) RI hz hz5 z 0 (m + 1) 1000 (by omega) (by omega) (by omega)
    have hroomR := pr_roomR_loop hz hz5 kind z 0 1 1000 (by omega) (by omega) (by omega)
    have hnp0 : pr_np (Sr.2 106) 0 = 0 := rfl
    rw [hnp0, Nat.sub_zero] at hroomC hroomR
    have hnp5 : pr_np (Sr.2 106) z ≤ 5 := by
      have := pr_cnt_le (fun j => decide (Sr.2 106 j ≠ 1)) z
      exact Nat.le_trans this hz5
    have hrC : sf_X1_hasRoom Sc = some ((if 100 < m + 1 + pr_np (Sr.2 106) z then 0 else 1), Sc) := by
      unfold sf_X1_hasRoom sf_X3_made
      have wm : ∀ _ : Nat, am_w32 (Sc.1 75 + 1) = ((m + 1 : Nat) : Int) := fun _ => by rw [m1, hm, pr_ws (by omega)]
      rw [pr_b2, wm 0]; exact hroomC
    have hrR : sf_X10_group_15 1000 kind 1 0 Sr = pr_gtail kind ((1 + pr_np (Sr.2 106) z : Nat) : Int) Sr := hroomR
    have wtot : ∀ _ : Nat, am_w32 (Sr.1 4745 + ((1 + pr_np (Sr.2 106) z : Nat) : Int)) = Sr.1 4745 + ((1 + pr_np (Sr.2 106) z : Nat) : Int) := fun _ => pr_w (by omega) (by omega)
    by_cases hfull : 100 < m + 1 + pr_np (Sr.2 106) z
    · refine ⟨-2, Sc, Sr, ?_, ?_, pr_I_mono I (by omega) hB⟩
      · rw [pr_iw1 hk, pr_b2, if_neg (by decide), hrC, if_pos hfull, pr_b2, if_pos rfl]
      · rw [pr_in1 (by omega), pr_b2, if_neg (by decide), hrR]
        unfold pr_gtail
        rw [wtot 0, if_neg (by omega)]
    · obtain ⟨Cm, Rm, d, e1, e2, e3, e4, e5, e6, e7, e8, e9, e10, e11, e12, e13⟩ := pr_Ymake I.1 (by omega)
      have hd100 : d < 100 := by omega
      have Im := pr_I_core I e4 e6 e7 (fun q hq => (e10 q (by omega)).2.2.2) (fun r h1 h2 => by
        have : r = d := by omega
        subst this; exact ⟨e8.2.2.2.1, e8.2.2.2.2⟩) e9
      obtain ⟨C1, hC1⟩ : ∃ C1, C1 = am_sA (am_sA (am_sA Cm 64 d kind) 65 d (z : Int)) 66 d 0 := ⟨_, rfl⟩
      obtain ⟨R1, hR1⟩ : ∃ R1, R1 = am_sA (am_sA (am_sA (am_sA Rm 102 d kind) 103 d (z : Int)) 104 d 0) 105 d 0 := ⟨_, rfl⟩
      have oC : pr_out [] [64, 65, 66] Cm C1 := by rw [hC1]; exact pr_out_sA (pr_out_sA (pr_out_sA (pr_out_refl _) (by decide)) (by decide)) (by decide)
      have oR : pr_out [] [102, 103, 104, 105] Rm R1 := by rw [hR1]; exact pr_out_sA (pr_out_sA (pr_out_sA (pr_out_sA (pr_out_refl _) (by decide)) (by decide)) (by decide)) (by decide)
      have x64 : C1.2 64 = am_up (Cm.2 64) d kind := by rw [hC1]; rfl
      have x65 : C1.2 65 = am_up (Cm.2 65) d (z : Int) := by rw [hC1]; rfl
      have x66 : C1.2 66 = am_up (Cm.2 66) d 0 := by rw [hC1]; rfl
      have y102 : R1.2 102 = am_up (Rm.2 102) d kind := by rw [hR1]; rfl
      have y103 : R1.2 103 = am_up (Rm.2 103) d (z : Int) := by rw [hR1]; rfl
      have y104 : R1.2 104 = am_up (Rm.2 104) d 0 := by rw [hR1]; rfl
      have y105 : R1.2 105 = am_up (Rm.2 105) d 0 := by rw [hR1]; rfl
      have hGD : pr_GD B C1 R1 d := by
        unfold pr_GD
        rw [x64, x65, x66, y102, y103, y104, y105]
        repeat rw [am_up_self]
        exact ⟨rfl, by omega, fun _ => rfl, by unfold am_r32; omega, by omega, by omega, by omega, Or.inl (by omega)⟩
      have Z1 : pr_Y B C1 R1 := pr_Y_G e4 (d := d) oC oR (fun q hq => ⟨by rw [x64, am_up_ne _ _ hq], by rw [x65, am_up_ne _ _ hq], by rw [x66, am_up_ne _ _ hq], by rw [y102, am_up_ne _ _ hq], by rw [y103, am_up_ne _ _ hq], by rw [y104, am_up_ne _ _ hq], by rw [y105, am_up_ne _ _ hq]⟩) (Int.le_refl _) (by omega) (fun _ => hGD)
      have I1 : pr_I B C1 R1 := pr_I_same Im Z1 (oC.2 _ (by decide)) (oC.2 _ (by decide)) (oC.2 _ (by decide)) (oC.1 _ (by decide)) (oR.2 _ (by decide)) (oR.2 _ (by decide)) (oR.2 _ (by decide)) (oR.1 _ (by decide))
      have hz1 : R1.1 4771 = (z : Int) := by rw [oR.1 4771 (by decide), e7.2 4771 (by omega) (by omega)]; exact hz
      have hA1 : R1.2 106 = Sr.2 106 := by rw [oR.2 106 (by decide), e7.1 106 (by omega)]
      have hmR1 : R1.1 4745 = Sr.1 4745 + 1 := by rw [oR.1 4745 (by decide)]; exact e5
      obtain ⟨C', R', l1, l2, l3, l4, l5, l6, l7, l8⟩ := pr_form_loop (d := d) (z := z) (kind := kind) hz5 (Sr.2 106) z 0 B C1 R1 1000 1000 (by omega) (by omega) (by omega) I1 hz1 hA1 hGD (by omega) (fun k' hk' h3 h87 => by
        have hl : pr_live Rm k' := ⟨hk'.1, by have := hk'.2; rw [oR.2 84 (by decide)] at this; exact this⟩
        have := e11 k' hl
        unfold pr_own at this
        rw [← oR.2 84 (by decide), ← oR.2 87 (by decide), if_neg (by omega)] at this
        exact absurd h87 this) (by rw [hnp0]; omega) (by omega)
      have hl1 : sf_X1_form_42 1000 (d : Int) 0 C1 = sf_X1_form_42 (1000 - z) (d : Int) (z : Int) C' := l1
      have hl2 : sf_X10_group_95 1000 kind (d : Int) 0 R1 = sf_X10_group_95 (1000 - z) kind (d : Int) (z : Int) R' := l2
      have hform : sf_X1_form kind Sc = sf_X1_form_42 1000 (d : Int) 0 C1 := by
        unfold sf_X1_form
        have q1 : (am_sA Cm 64 d kind).1 389 = (z : Int) := by
          show Cm.1 389 = _
          rw [e6.2 389 (by omega), RI.1]; exact hz
        rw [e2, pr_b2, pr_putn hd100, pr_b1, q1, pr_putn hd100, pr_b1, pr_putn hd100, pr_b1, hC1]
      have hgt : pr_gtail kind ((1 + pr_np (Sr.2 106) z : Nat) : Int) Sr = sf_X10_group_95 1000 kind (d : Int) 0 R1 := by
        unfold pr_gtail
        have q1 : (am_sA Rm 102 d kind).1 4771 = (z : Int) := by
          show Rm.1 4771 = _
          rw [e7.2 4771 (by omega) (by omega)]; exact hz
        rw [wtot 0, if_pos (by omega), e3, pr_b2, pr_gdn hd100, pr_let, Int.toNat_natCast, pr_gdn hd100, q1, pr_let, pr_gdn hd100, pr_let, pr_gdn hd100, pr_let, hR1]
      obtain ⟨fC, hfC⟩ : ∃ f, 1000 - z = f + 1 := ⟨1000 - z - 1, by omega⟩
      rw [hfC] at hl1 hl2
      have RI' := l3.1.2.1.2.2.2.2
      have c389 : C'.1 389 = (z : Int) := RI'.1.trans l4
      have k64 : C'.2 64 d = kind := by rw [l6, x64, am_up_self]
      have k65 : C'.2 65 d = (z : Int) := by rw [l7, x65, am_up_self]
      have k66 : C'.2 66 d = 0 := by rw [l8, x66, am_up_self]
      have hCend : sf_X1_form_42 (fC + 1) (d : Int) (z : Int) C' = am_b1 (sf_X1_settleIfComplete (d : Int) (am_sI C' 389 0)) (fun S11 => (some ((d : Int), S11))) := by
        simp only [sf_X1_form_42]
        rw [c389, if_pos (Int.le_refl _), pr_let]
      have w64 : ∀ _ : Nat, am_w32 ((am_sI C' 389 0).2 64 d) = kind := fun _ => by
        show am_w32 (C'.2 64 d) = kind
        rw [k64, pr_w (by omega) (by omega)]
      have w65 : ∀ _ : Nat, am_w32 ((am_sI C' 389 0).2 65 d) = (z : Int) := fun _ => by
        show am_w32 (C'.2 65 d) = (z : Int)
        rw [k65, pr_w (by omega) (by omega)]
      have w66 : ∀ _ : Nat, am_w32 ((am_sI C' 389 0).2 66 d) = 0 := fun _ => by
        show am_w32 (C'.2 66 d) = 0
        rw [k66, pr_w (by omega) (by omega)]
      have hfinC : ∀ X, sf_X1_settleIfComplete (d : Int) (am_sI C' 389 0) = some X → am_b2 (sf_X9_isWithin kind 4 Sc) (fun x2 S1 => (if x2 = 0 then (some ((-1), S1)) else (am_b2 (sf_X1_hasRoom S1) (fun x5 S4 => (if x5 = 0 then (some ((-2), S4)) else (am_b2 (sf_X1_form kind S4) (fun x8 S7 => (some (x8, S7))))))))) = some ((d : Int), X) := by
        intro X hX
        rw [pr_iw1 hk, pr_b2, if_neg (by decide), hrC, if_neg hfull, pr_b2, if_neg (by decide), hform, hl1, hCend, hX, pr_b1, pr_b2]
      have hfinR : ∀ X, sf_X10_group_95 (fC + 1) kind (d : Int) (z : Int) R' = some ((d : Int), X) → am_b2 (sf_X10_in kind 0 3 Sr) (fun x2 S1 => (if x2 = 0 then (some ((-1), S1)) else (sf_X10_group_15 1000 kind 1 0 S1))) = some ((d : Int), X) := by
        intro X hX
        rw [pr_in1 (by omega), pr_b2, if_neg (by decide), hrR, hgt, hl2]; exact hX
      by_cases hz0 : z = 0
      · have hz0' : ((z : Nat) : Int) = 0 := by omega
        have hself : am_sI C' 389 0 = C' := by
          have := pr_sI_self C' 389
          rw [c389, hz0'] at this; exact this
        have hself2 : ∀ R2 : am_S, R2.1 4771 = 0 → am_sI R2 4771 0 = R2 := fun R2 h => by
          have := pr_sI_self R2 4771
          rw [h] at this; exact this
        have h47 : R'.1 4771 = 0 := l4.trans hz0'
        have hR189 : ∀ R2 : am_S, R2.1 4771 = 0 → sf_X10_group_189 kind (d : Int) R2 = (if Int.tmod kind 2 = 0 then (am_b1 (sf_X10_resolveBy (d : Int) 0 0 0 R2) (fun S24 => (some ((d : Int), am_sI S24 4771 0)))) else (some ((d : Int), R2))) := fun R2 h => by
          unfold sf_X10_group_189
          rw [if_pos h, pr_let, hself2 R2 h]
          simp only [pr_let]
        have hR95 : sf_X10_group_95 (fC + 1) kind (d : Int) (z : Int) R' = (if kind = 3 then (am_b1 (sf_X10_rejectBy (d : Int) 0 (-5) 0 R') (fun S11 => (sf_X10_group_189 kind (d : Int) S11))) else (sf_X10_group_189 kind (d : Int) R')) := by
          simp only [sf_X10_group_95]
          rw [l4, if_pos (Int.le_refl _), hz0', if_pos rfl]
        by_cases hk1 : kind = 1
        · refine ⟨(d : Int), C', R', hfinC C' ?_, hfinR R' ?_, pr_I_mono l3 (by omega) hB⟩
          · unfold sf_X1_settleIfComplete
            rw [pr_atn hd100, pr_b2, w65 0, if_neg (by omega), pr_atn hd100, pr_b2, w64 0, if_pos hk1, hself]
          · rw [hR95, if_neg (by omega), hR189 R' h47, hk1, if_neg (by decide)]
        · by_cases hk3 : kind = 3
          · obtain ⟨C2, R2, g1, g2, -, g4, g5, g6, g7, g8, g9, g10, -⟩ := pr_Ysettle l3.1 (by omega) (p := d) (how := 2) (s := 0) (n := -5) (k := 0) l5 (Or.inr rfl) ⟨by unfold am_r32; omega, Or.inl rfl⟩ (pr_free0 l3.1)
            have I2 := pr_I_core l3 g5 g6 g7 (fun q _ => by rw [g10]) (fun r h1 h2 => by omega) g9
            refine ⟨(d : Int), C2, R2, hfinC C2 ?_, hfinR R2 ?_, pr_I_mono I2 (by omega) hB⟩
            · unfold sf_X1_settleIfComplete
              rw [pr_atn hd100, pr_b2, w65 0, if_neg (by omega), pr_atn hd100, pr_b2, w64 0, if_neg hk1, pr_atn hd100, pr_b2, w64 0, if_pos hk3, pr_of (by decide), pr_b2, hself, g1, pr_b1]
            · rw [hR95, if_pos hk3, g4 rfl, pr_b1, hR189 R2 (by rw [g7.2 4771 (by omega) (by omega)]; exact h47), hk3, if_neg (by decide)]
          · obtain ⟨C2, R2, g1, g2, g3, -, g5, g6, g7, g8, g9, g10, -⟩ := pr_Ysettle l3.1 (by omega) (p := d) (how := 1) (s := 0) (n := 0) (k := 0) l5 (Or.inl rfl) ⟨by unfold am_r32; omega, Or.inl rfl⟩ (pr_free0 l3.1)
            have I2 := pr_I_core l3 g5 g6 g7 (fun q _ => by rw [g10]) (fun r h1 h2 => by omega) g9
            have h47b : R2.1 4771 = 0 := by rw [g7.2 4771 (by omega) (by omega)]; exact h47
            have htm : Int.tmod kind 2 = 0 := by
              have h02 : kind = 0 ∨ kind = 2 := by omega
              rcases h02 with h | h <;> rw [h] <;> decide
            refine ⟨(d : Int), C2, R2, hfinC C2 ?_, hfinR R2 ?_, pr_I_mono I2 (by omega) hB⟩
            · unfold sf_X1_settleIfComplete
              rw [pr_atn hd100, pr_b2, w65 0, if_neg (by omega), pr_atn hd100, pr_b2, w64 0, if_neg hk1, pr_atn hd100, pr_b2, w64 0, if_neg hk3, pr_atn hd100, pr_b2, w66 0, pr_of (by decide), pr_b2, hself, g1, pr_b1]
            · rw [hR95, if_neg hk3, hR189 R' h47, if_pos htm, g3 rfl, pr_b1, hself2 R2 h47b]
      · have hz0' : ¬ ((z : Nat) : Int) = 0 := by omega
        have Z2 : pr_Y (B + 4 * (z : Int)) (am_sI C' 389 0) (am_sI R' 4771 0) := by
          refine pr_Y_O l3.1 (fun _ _ => rfl) (fun n hn => pr_Im _ _ (by omega)) (fun _ _ => rfl) rfl rfl ?_
          obtain ⟨o1, o2, o3, o4, o5⟩ := l3.1.2.1
          refine ⟨o1, o2, o3, o4, rfl, ⟨by show (0 : Int) ≤ 0; omega, by show (0 : Int) ≤ 5; omega⟩, fun i _ hi => ?_⟩
          have hi' : (i : Int) < 0 := hi
          omega
        have I2 : pr_I (B + 4 * (z : Int)) (am_sI C' 389 0) (am_sI R' 4771 0) := pr_I_same l3 Z2 rfl rfl rfl rfl rfl rfl rfl rfl
        refine ⟨(d : Int), am_sI C' 389 0, am_sI R' 4771 0, hfinC _ ?_, hfinR _ ?_, pr_I_mono I2 (by omega) hB⟩
        · unfold sf_X1_settleIfComplete
          rw [pr_atn hd100, pr_b2, w65 0, if_pos (by omega)]
        · simp only [sf_X10_group_95]
          unfold sf_X10_group_189
          rw [l4, if_pos (Int.le_refl _), if_neg hz0', if_neg hz0', pr_let]
  · refine ⟨-1, Sc, Sr, ?_, ?_, pr_I_mono I (by omega) hB⟩
    · rw [pr_iw0 hk, pr_b2, if_pos rfl]
    · rw [pr_in0 (by omega), pr_b2, if_pos rfl]
