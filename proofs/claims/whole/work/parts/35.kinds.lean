/-! the single STEPS: class against reference -/
theorem pr_Y_le {B : Int} {Sc Sr : am_S} (Z : pr_Y B Sc Sr) {B2 : Int} (h : B ≤ B2) (h2 : B2 < 2000000000) : pr_Y B2 Sc Sr := pr_Y_mono Z h h2
theorem pr_fin_mono {B B2 dn : Int} {Sc Sr : am_S} (h : pr_fin B dn Sc Sr) (hb : B ≤ B2) (h2 : B2 < 2000000000) : pr_fin B2 dn Sc Sr := by
  refine ⟨fun h0 => ?_, fun h0 => ⟨pr_Y_mono (h.2 h0).1 hb h2, (h.2 h0).2⟩⟩
  obtain ⟨S2, a1, a2, a3⟩ := h.1 h0
  exact ⟨S2, a1, pr_Y_mono a2 hb h2, a3⟩
theorem pr_o1_mono {B B2 dn W : Int} {μ : Nat} {Sc Sr : am_S} (h : pr_o1 B dn μ W Sc Sr) (hb : B ≤ B2) (h2 : B2 < 2000000000) : pr_o1 B2 dn μ W Sc Sr := by
  rcases h with ⟨st, T, a1, a2⟩ | ⟨a1, a2, a3⟩
  · exact Or.inl ⟨st, T, pr_Y_mono a1 hb h2, a2⟩
  · exact Or.inr ⟨a1, a2, pr_fin_mono a3 hb h2⟩
def pr_H (B dn T1 W : Int) (μ a at' : Nat) (st : List Nat) (C1 R1 : am_S) : Prop :=
  pr_Y B C1 R1 ∧ B + 4 < 2000000000 ∧ pr_RX C1 R1 (a :: st) ∧ pr_dn dn C1 R1 (a :: st) ∧ C1.2 68 a = (at' : Int) + 1 ∧ C1.1 461 = T1 ∧ R1.1 4789 = T1 ∧ 0 ≤ T1 ∧ T1 ≤ 200 ∧ (200 - T1).toNat * 24 + 24 + (12 - at') + pr_sum C1 st ≤ μ ∧ T1 + (μ : Int) ≤ W + 1 ∧ at' ≤ 9
def pr_sC (a at' : Nat) (w val n x : Int) (C : am_S) : Option am_S := am_b2 (am_b2 (sf_X5_faultOf (a : Int) w val C) (fun x21 S20 => pr_disp (a : Int) w val n x x21 S20)) (fun o S13 => pr_oC (a : Int) (at' : Int) o S13)
def pr_goal (B dn W : Int) (μ a at' : Nat) (w val n so : Int) (C1 R1 : am_S) : Prop :=
  ∃ Sc' Sr', pr_sC a at' w val n (C1.2 69 a) C1 = some Sc' ∧ sf_X10_does w so n R1 = some Sr' ∧ pr_o1 (B + 4) dn μ W Sc' Sr'
theorem pr_H_pos {B dn T1 W : Int} {μ a at' : Nat} {st : List Nat} {C1 R1 : am_S} (H : pr_H B dn T1 W μ a at' st C1 R1) : R1.1 4788 = (st.length : Int) ∧ st.length < 110 ∧ a < 101 ∧ a ∉ st ∧ C1.1 75 = R1.1 4745 ∧ 0 ≤ R1.1 4745 ∧ R1.1 4745 ≤ 100 ∧ C1.2 69 a = pr_V (R1.2 118 st.length) (R1.2 119 st.length) ∧ pr_VV (R1.1 4745) (R1.2 118 st.length) (R1.2 119 st.length) ∧ R1.2 120 st.length = (if a = 100 then -1 else (a : Int)) := by
  obtain ⟨Z, hB, X, -⟩ := H
  obtain ⟨p1, p2, p3, p4⟩ := pr_RX_pos X
  obtain ⟨m1, m2, m3, m4, m5⟩ := pr_Y_m Z
  obtain ⟨f1, f2, f3, f4, f5, f6, f7, -⟩ := X.1.1
  exact ⟨p1, by omega, p3, X.1.2.1, m1, m2, m3, f6, f7, f1⟩
theorem pr_sc_ft {a at' : Nat} {w val n x ft : Int} {C : am_S} (ha : a < 101) (hft : -2147483648 ≤ ft ∧ ft < 0) (h : sf_X5_faultOf (a : Int) w val C = some (ft, C)) : pr_sC a at' w val n x C = pr_oC (a : Int) (at' : Int) 2 (am_sA C 69 a (pr_V 0 ft)) := by
  unfold pr_sC
  rw [h, pr_b2]
  unfold pr_disp
  rw [if_neg (by omega), pr_of (by omega), pr_b2, pr_putn ha, pr_b1, pr_b2]
theorem pr_ft_pre {B dn T1 W : Int} {μ a at' : Nat} {st : List Nat} {C1 R1 : am_S} (H : pr_H B dn T1 W μ a at' st C1 R1) (w val : Int) : sf_X5_faultOf (a : Int) w val C1 = sf_X5_faultOf_33 (a : Int) w val (if R1.2 118 st.length = 1 then 1 else 0) C1 := by
  obtain ⟨q1, q2, q3, q4, q5, q6, q7, q8, q9, q10⟩ := pr_H_pos H
  obtain ⟨Z, hB, X, hd, hp, t1, t2, t3, t4, -⟩ := H
  unfold sf_X5_faultOf
  rw [if_pos (by omega), pr_van q3, pr_b2, q8, pr_sortOf (pr_VV_s q9), pr_b2]
  by_cases h : R1.2 118 st.length = 1
  · rw [if_pos h, if_pos h]
  · rw [if_neg h, if_neg h]
/-- a fault: class and reference throw ft -/
theorem pr_k_fault {B dn T1 W : Int} {μ a at' : Nat} {st : List Nat} {C1 R1 : am_S} (H : pr_H B dn T1 W μ a at' st C1 R1) {w val n so ft : Int} (hft : -100 ≤ ft ∧ ft < 0) (h : sf_X5_faultOf (a : Int) w val C1 = some (ft, C1)) (hr : ∀ S', sf_X10_fling 0 ft R1 = some S' → sf_X10_does w so n R1 = some S') : pr_goal B dn W μ a at' w val n so C1 R1 := by
  obtain ⟨q1, q2, q3, q4, q5, q6, q7, q8, q9, q10⟩ := pr_H_pos H
  obtain ⟨Z, hB, X, hd, hp, t1, t2, t3, t4, h1, h2, hat⟩ := H
  obtain ⟨Sc', Sr', e1, e2, e3⟩ := pr_mv_throw Z (by omega) X hd hp t1 t2 t3 (by omega) h2 hat (s := 0) (n := ft) ⟨by unfold am_r32; omega, Or.inl rfl⟩
  refine ⟨Sc', Sr', ?_, hr _ e2, pr_o1_mono e3 (by omega) hB⟩
  rw [pr_sc_ft q3 (by omega) h]; exact e1
/-- the FUNCTION goes on -/
theorem pr_k_stay {B dn T1 W : Int} {μ a at' : Nat} {st : List Nat} {C1 R1 C2 R2 : am_S} (H : pr_H B dn T1 W μ a at' st C1 R1) {w val n so : Int} {B2 : Int} (hB2 : B2 ≤ B + 4) (h : sf_X5_faultOf (a : Int) w val C1 = some (0, C1)) (hc : pr_disp (a : Int) w val n (C1.2 69 a) 0 C1 = some (0, C2)) (hr : sf_X10_does w so n R1 = some R2)
    (Z2 : pr_Y B2 C2 R2) (X2 : pr_RX C2 R2 (a :: st)) (e460 : C2.1 460 = C1.1 460) (e461 : C2.1 461 = C1.1 461) (e4789 : R2.1 4789 = R1.1 4789) (hm : R1.1 4745 ≤ R2.1 4745) (h68 : ∀ b, b ≠ a → C2.2 68 b = C1.2 68 b) : pr_goal B dn W μ a at' w val n so C1 R1 := by
  obtain ⟨q1, q2, q3, q4, -⟩ := pr_H_pos H
  obtain ⟨Z, hB, X, hd, hp, t1, t2, t3, t4, h1, h2, hat⟩ := H
  have hsum : pr_sum C2 st = pr_sum C1 st := pr_sum_congr (fun b hb => h68 b (fun e => q4 (e ▸ hb)))
  have hd2 : pr_dn dn C2 R2 (a :: st) := ⟨fun hm2 => by
    obtain ⟨d1, d2, d3⟩ := hd.1 hm2
    exact ⟨by rw [e460]; exact d1, d2, by omega⟩, hd.2⟩
  obtain ⟨g1, g2⟩ := pr_mv_stay (at' := at') Z2 X2 hd2 (e461.trans t1) (e4789.trans t2) t3 (W := W) (μ := μ) (by rw [hsum]; exact h1) h2 (by omega)
  refine ⟨C2, R2, ?_, hr, pr_o1_mono g2 hB2 hB⟩
  unfold pr_sC
  rw [h, pr_b2, hc, pr_b2]; exact g1
theorem pr_ft_none {B dn T1 W : Int} {μ a at' : Nat} {st : List Nat} {C1 R1 : am_S} (H : pr_H B dn T1 W μ a at' st C1 R1) {w sv n : Int} (hn : am_r32 n) (h2 : w ≠ 2) (h5 : w ≠ 5) (h8 : w ≠ 8) (h9 : w ≠ 9) (h10 : w ≠ 10) (h11 : w ≠ 11) (h12 : w ≠ 12) : sf_X5_faultOf (a : Int) w (pr_V sv n) C1 = some (0, C1) := by
  rw [pr_ft_pre H]
  unfold sf_X5_faultOf_33
  rw [pr_numberOf hn, pr_b2, if_neg h2, if_neg h5, if_neg h8, if_neg h9, if_neg h10, if_neg h11, if_neg h12]
theorem pr_isPromise {Sr : am_S} (h : 0 ≤ Sr.1 4745 ∧ Sr.1 4745 ≤ 100) (p : Int) : sf_X10_isPromise p Sr = some ((if 0 ≤ p ∧ p < Sr.1 4745 then 1 else 0), Sr) := by
  unfold sf_X10_isPromise sf_X10_in
  rw [pr_w (by omega) (by omega)]
  by_cases h1 : p < 0
  · rw [if_pos h1, pr_b2, pr_gz0, if_neg (by omega)]
  · rw [if_neg h1]
    by_cases h2 : Sr.1 4745 - 1 < p
    · rw [if_pos h2, pr_b2, pr_gz0, if_neg (by omega)]
    · rw [if_neg h2, pr_b2, pr_gz1, if_pos (by omega)]
theorem pr_isFull {Sc : am_S} {m : Int} (h : Sc.1 75 = m) : sf_X3_isFull Sc = some ((if m < 100 then 0 else 1), Sc) := by
  unfold sf_X3_isFull
  rw [h]
  by_cases h1 : m < 100
  · rw [if_pos h1, if_pos h1]
  · rw [if_neg h1, if_neg h1]
theorem pr_k0 {B dn T1 W : Int} {μ a at' : Nat} {st : List Nat} {C1 R1 : am_S} (H : pr_H B dn T1 W μ a at' st C1 R1) {sv n so : Int} (hn : am_r32 n) : pr_goal B dn W μ a at' 0 (pr_V 0 n) n so C1 R1 := by
  obtain ⟨q1, q2, q3, q4, q5, q6, q7, q8, q9, q10⟩ := pr_H_pos H
  have H0 := H
  obtain ⟨Z, hB, X, hd, hp, t1, t2, t3, t4, h1, h2, hat⟩ := H
  obtain ⟨C2, R2, g1, g2, g3, g4, g5⟩ := (pr_note Z (by omega) (s := 0) (n := n) (by omega) hn)
  refine pr_k_stay H0 (B2 := B + 1) (by omega) (pr_ft_none H0 hn (by decide) (by decide) (by decide) (by decide) (by decide) (by decide) (by decide)) (C2 := C2) (R2 := R2) ?_ ?_ g3 (pr_RX_same X (g4.2 _ (by decide)) (g4.2 _ (by decide)) (g4.2 _ (by decide)) (g4.2 _ (by decide)) (g4.2 _ (by decide)) (g4.1 _ (by decide)) (g5.2 _ (by decide)) (g5.2 _ (by decide)) (g5.2 _ (by decide)) (g5.2 _ (by decide)) (g5.2 _ (by decide)) (g5.2 _ (by decide)) (g5.2 _ (by decide)) (g5.2 _ (by decide)) (g5.1 _ (by decide)) (g5.1 _ (by decide))) (g4.1 _ (by decide)) (g4.1 _ (by decide)) (g5.1 _ (by decide)) (by rw [g5.1 _ (by decide)]; exact Int.le_refl _) (fun b _ => by rw [g4.2 68 (by decide)])
  · unfold pr_disp
    rw [if_pos rfl, if_pos rfl, g1, pr_b1]
  · unfold sf_X10_does
    rw [q1, pr_gdn q2, pr_gdn q2, if_pos rfl, g2, pr_b1]
theorem pr_k1 {B dn T1 W : Int} {μ a at' : Nat} {st : List Nat} {C1 R1 : am_S} (H : pr_H B dn T1 W μ a at' st C1 R1) {sv n so : Int} (hn : am_r32 n) : pr_goal B dn W μ a at' 1 (pr_V sv n) n so C1 R1 := by
  obtain ⟨q1, q2, q3, q4, q5, q6, q7, q8, q9, q10⟩ := pr_H_pos H
  have H0 := H
  obtain ⟨Z, hB, X, hd, hp, t1, t2, t3, t4, h1, h2, hat⟩ := H
  obtain ⟨C2, R2, g1, g2, g3, g4, g5⟩ := (pr_note Z (by omega) (s := R1.2 118 st.length) (n := R1.2 119 st.length) (by rcases q9.2 with h | h | h <;> omega) q9.1)
  refine pr_k_stay H0 (B2 := B + 1) (by omega) (pr_ft_none H0 hn (by decide) (by decide) (by decide) (by decide) (by decide) (by decide) (by decide)) (C2 := C2) (R2 := R2) ?_ ?_ g3 (pr_RX_same X (g4.2 _ (by decide)) (g4.2 _ (by decide)) (g4.2 _ (by decide)) (g4.2 _ (by decide)) (g4.2 _ (by decide)) (g4.1 _ (by decide)) (g5.2 _ (by decide)) (g5.2 _ (by decide)) (g5.2 _ (by decide)) (g5.2 _ (by decide)) (g5.2 _ (by decide)) (g5.2 _ (by decide)) (g5.2 _ (by decide)) (g5.2 _ (by decide)) (g5.1 _ (by decide)) (g5.1 _ (by decide))) (g4.1 _ (by decide)) (g4.1 _ (by decide)) (g5.1 _ (by decide)) (by rw [g5.1 _ (by decide)]; exact Int.le_refl _) (fun b _ => by rw [g4.2 68 (by decide)])
  · unfold pr_disp
    rw [if_pos rfl, if_neg (by decide), if_pos rfl, q8, g1, pr_b1]
  · unfold sf_X10_does
    rw [q1, pr_gdn q2, pr_gdn q2, if_neg (by decide), if_pos rfl, Int.toNat_natCast, g2, pr_b1]
theorem pr_k6 {B dn T1 W : Int} {μ a at' : Nat} {st : List Nat} {C1 R1 : am_S} (H : pr_H B dn T1 W μ a at' st C1 R1) {sv n so : Int} (hn : am_r32 n) : pr_goal B dn W μ a at' 6 (pr_V sv n) n so C1 R1 := by
  obtain ⟨q1, q2, q3, q4, q5, q6, q7, q8, q9, q10⟩ := pr_H_pos H
  have H0 := H
  obtain ⟨Z, hB, X, hd, hp, t1, t2, t3, t4, h1, h2, hat⟩ := H
  refine pr_k_stay H0 (B2 := B) (by omega) (pr_ft_none H0 hn (by decide) (by decide) (by decide) (by decide) (by decide) (by decide) (by decide)) (C2 := C1) (R2 := R1) ?_ ?_ Z X rfl rfl rfl (Int.le_refl _) (fun _ _ => rfl)
  · unfold pr_disp
    rw [if_pos rfl, if_neg (by decide), if_neg (by decide), if_neg (by decide), if_neg (by decide), if_neg (by decide), if_neg (by decide), if_neg (by decide), if_neg (by decide), if_neg (by decide), if_neg (by decide), if_neg (by decide), if_neg (by decide), if_neg (by decide)]
  · unfold sf_X10_does
    rw [q1, pr_gdn q2, pr_gdn q2, if_neg (by decide), if_neg (by decide), if_neg (by decide), if_neg (by decide), if_neg (by decide), if_neg (by decide), if_neg (by decide), if_neg (by decide), if_neg (by decide), if_neg (by decide), if_neg (by decide), if_neg (by decide), if_neg (by decide)]
theorem pr_k7 {B dn T1 W : Int} {μ a at' : Nat} {st : List Nat} {C1 R1 : am_S} (H : pr_H B dn T1 W μ a at' st C1 R1) {sv n so : Int} (hn : am_r32 n) : pr_goal B dn W μ a at' 7 (pr_V sv n) n so C1 R1 := by
  obtain ⟨q1, q2, q3, q4, q5, q6, q7, q8, q9, q10⟩ := pr_H_pos H
  have H0 := H
  obtain ⟨Z, hB, X, hd, hp, t1, t2, t3, t4, h1, h2, hat⟩ := H
  refine pr_k_stay H0 (B2 := B) (by omega) (pr_ft_none H0 hn (by decide) (by decide) (by decide) (by decide) (by decide) (by decide) (by decide)) (C2 := C1) (R2 := R1) ?_ ?_ Z X rfl rfl rfl (Int.le_refl _) (fun _ _ => rfl)
  · unfold pr_disp
    rw [if_pos rfl, if_neg (by decide), if_neg (by decide), if_neg (by decide), if_neg (by decide), if_neg (by decide), if_neg (by decide), if_neg (by decide), if_neg (by decide), if_neg (by decide), if_neg (by decide), if_neg (by decide), if_neg (by decide), if_neg (by decide)]
  · unfold sf_X10_does
    rw [q1, pr_gdn q2, pr_gdn q2, if_neg (by decide), if_neg (by decide), if_neg (by decide), if_neg (by decide), if_neg (by decide), if_neg (by decide), if_neg (by decide), if_neg (by decide), if_neg (by decide), if_neg (by decide), if_neg (by decide), if_neg (by decide), if_neg (by decide)]
theorem pr_k2 {B dn T1 W : Int} {μ a at' : Nat} {st : List Nat} {C1 R1 : am_S} (H : pr_H B dn T1 W μ a at' st C1 R1) {n so : Int} (hv : pr_VV 100 so n) : pr_goal B dn W μ a at' 2 (pr_V so n) n so C1 R1 := by
  obtain ⟨q1, q2, q3, q4, q5, q6, q7, q8, q9, q10⟩ := pr_H_pos H
  have H0 := H
  obtain ⟨Z, hB, X, hd, hp, t1, t2, t3, t4, h1, h2, hat⟩ := H
  have hs := pr_VV_s hv
  by_cases hbad : so = 1 ∧ ¬ (0 ≤ n ∧ n < R1.1 4745)
  · refine pr_k_fault H0 (ft := -3) (by omega) ?_ (fun S' hS => ?_)
    · rw [pr_ft_pre H0]
      unfold sf_X5_faultOf_33
      rw [pr_numberOf hv.1, pr_b2, if_pos rfl, pr_sortOf hs, pr_b2, if_pos hbad.1, pr_has q5, if_neg hbad.2, pr_b2, if_pos rfl]
    · unfold sf_X10_does
      rw [q1, pr_gdn q2, pr_gdn q2, if_neg (by decide), if_neg (by decide), if_pos rfl, if_pos hbad.1, pr_isPromise ⟨q6, q7⟩, if_neg hbad.2, pr_b2, if_pos rfl, hS, pr_b1]
  · have hv2 : pr_VV (R1.1 4745) so n := by
      refine ⟨hv.1, ?_⟩
      rcases hv.2 with h | ⟨h, h3⟩ | h
      · exact Or.inl h
      · refine Or.inr (Or.inl ⟨h, ?_⟩)
        rcases Classical.em (0 ≤ n ∧ n < R1.1 4745) with h4 | h4
        · exact h4
        · exact absurd ⟨h, h4⟩ hbad
      · exact Or.inr (Or.inr h)
    refine pr_k_stay H0 (B2 := B) (by omega) ?_ (C2 := am_sA C1 69 a (pr_V so n)) (R2 := am_sA (am_sA R1 118 st.length so) 119 st.length n) ?_ ?_ (pr_Y_run Z (pr_out_sA (pr_out_refl _) (by decide)) (pr_out_sA (pr_out_sA (pr_out_refl _) (by decide)) (by decide))) (pr_setX X q7 hv2) rfl rfl rfl (Int.le_refl _) (fun _ _ => rfl)
    · rw [pr_ft_pre H0]
      unfold sf_X5_faultOf_33
      rw [pr_numberOf hv.1, pr_b2, if_pos rfl, pr_sortOf hs, pr_b2]
      by_cases h1 : so = 1
      · have h4 : 0 ≤ n ∧ n < R1.1 4745 := by
          rcases Classical.em (0 ≤ n ∧ n < R1.1 4745) with h4 | h4
          · exact h4
          · exact absurd ⟨h1, h4⟩ hbad
        rw [if_pos h1, pr_has q5, if_pos h4, pr_b2, if_neg (by decide)]
      · rw [if_neg h1]
    · unfold pr_disp
      rw [if_pos rfl, if_neg (by decide), if_neg (by decide), if_pos rfl, pr_putn q3, pr_b1]
    · unfold sf_X10_does
      rw [q1, pr_gdn q2, pr_gdn q2, if_neg (by decide), if_neg (by decide), if_pos rfl]
      by_cases h1 : so = 1
      · have h4 : 0 ≤ n ∧ n < R1.1 4745 := by
          rcases Classical.em (0 ≤ n ∧ n < R1.1 4745) with h4 | h4
          · exact h4
          · exact absurd ⟨h1, h4⟩ hbad
        rw [if_pos h1, pr_isPromise ⟨q6, q7⟩, if_pos h4, pr_b2, if_neg (by decide), pr_putR q1 q2, pr_b1]
      · rw [if_neg h1, pr_putR q1 q2, pr_b1]
theorem pr_k3 {B dn T1 W : Int} {μ a at' : Nat} {st : List Nat} {C1 R1 : am_S} (H : pr_H B dn T1 W μ a at' st C1 R1) {sv n so : Int} (hn : am_r32 n) : pr_goal B dn W μ a at' 3 (pr_V sv n) n so C1 R1 := by
  obtain ⟨q1, q2, q3, q4, q5, q6, q7, q8, q9, q10⟩ := pr_H_pos H
  have H0 := H
  obtain ⟨Z, hB, X, hd, hp, t1, t2, t3, t4, h1, h2, hat⟩ := H
  obtain ⟨Sc', Sr', e1, e2, e3⟩ := pr_mv_give (C0 := C1) Z (by omega) X hd t1 t2 t3 (W := W) (μ := μ) (at' := at') (by omega) h2 (by omega) (fun _ _ => ⟨rfl, rfl, rfl, rfl⟩) rfl rfl q8 q9
  refine ⟨Sc', Sr', ?_, ?_, pr_o1_mono e3 (by omega) hB⟩
  · unfold pr_sC
    rw [pr_ft_none H0 hn (by decide) (by decide) (by decide) (by decide) (by decide) (by decide) (by decide), pr_b2]
    unfold pr_disp
    rw [if_pos rfl, if_neg (by decide), if_neg (by decide), if_neg (by decide), if_pos rfl, pr_b2]; exact e1
  · unfold sf_X10_does
    rw [q1, pr_gdn q2, pr_gdn q2, if_neg (by decide), if_neg (by decide), if_neg (by decide), if_pos rfl, Int.toNat_natCast, e2, pr_b1]
theorem pr_sA_self (S : am_S) (a i : Nat) : am_sA S a i (S.2 a i) = S := by
  have h : am_up (S.2 a) i (S.2 a i) = S.2 a := by
    funext j
    unfold am_up
    split
    · rename_i e; rw [e]
    · rfl
  have h2 : am_up S.2 a (S.2 a) = S.2 := by
    funext j
    unfold am_up
    split
    · rename_i e; rw [e]
    · rfl
  show (S.1, am_up S.2 a (am_up (S.2 a) i (S.2 a i))) = S
  rw [h, h2]
theorem pr_k4 {B dn T1 W : Int} {μ a at' : Nat} {st : List Nat} {C1 R1 : am_S} (H : pr_H B dn T1 W μ a at' st C1 R1) {sv n so : Int} (hn : am_r32 n) : pr_goal B dn W μ a at' 4 (pr_V sv n) n so C1 R1 := by
  obtain ⟨q1, q2, q3, q4, q5, q6, q7, q8, q9, q10⟩ := pr_H_pos H
  have H0 := H
  obtain ⟨Z, hB, X, hd, hp, t1, t2, t3, t4, h1, h2, hat⟩ := H
  obtain ⟨Sc', Sr', e1, e2, e3⟩ := pr_mv_throw Z (by omega) X hd hp t1 t2 t3 (by omega) h2 hat q9
  refine ⟨Sc', Sr', ?_, ?_, pr_o1_mono e3 (by omega) hB⟩
  · unfold pr_sC
    rw [pr_ft_none H0 hn (by decide) (by decide) (by decide) (by decide) (by decide) (by decide) (by decide), pr_b2]
    unfold pr_disp
    rw [if_pos rfl, if_neg (by decide), if_neg (by decide), if_neg (by decide), if_neg (by decide), if_pos rfl, pr_b2]
    rw [← q8, pr_sA_self] at e1
    exact e1
  · unfold sf_X10_does
    rw [q1, pr_gdn q2, pr_gdn q2, if_neg (by decide), if_neg (by decide), if_neg (by decide), if_neg (by decide), if_pos rfl, Int.toNat_natCast, e2, pr_b1]
theorem pr_k9 {B dn T1 W : Int} {μ a at' : Nat} {st : List Nat} {C1 R1 : am_S} (H : pr_H B dn T1 W μ a at' st C1 R1) {sv n so : Int} (hn : am_r32 n) : pr_goal B dn W μ a at' 9 (pr_V sv n) n so C1 R1 := by
  obtain ⟨q1, q2, q3, q4, q5, q6, q7, q8, q9, q10⟩ := pr_H_pos H
  have H0 := H
  obtain ⟨Z, hB, X, hd, hp, t1, t2, t3, t4, h1, h2, hat⟩ := H
  by_cases hbad : 0 ≤ n ∧ n < R1.1 4745
  · obtain ⟨p, hpn⟩ : ∃ p : Nat, n = (p : Int) := ⟨n.toNat, by omega⟩
    subst hpn
    obtain ⟨C2, R2, g1, g2, -, -, g5, g6, g7, g8, g9, g10, -⟩ := pr_Ysettle Z (by omega) (p := p) (how := 1) (s := R1.2 118 st.length) (n := R1.2 119 st.length) (k := 0) hbad.2 (by omega) q9 (pr_free0 Z)
    have g2' : sf_X10_endBy (p : Int) 0 (R1.2 118 st.length) (R1.2 119 st.length) 0 R1 = some R2 := g2
    refine pr_k_stay H0 (B2 := B + 1) (by omega) ?_ (C2 := C2) (R2 := R2) ?_ ?_ g5 (pr_RX_core X g6 g7 (by omega) (fun q _ => by rw [g10]) (fun r h3 h4 => by omega) g9) (g6.2 _ (by omega)) (g6.2 _ (by omega)) (g7.2 _ (by omega) (by omega)) (by omega) (fun b _ => by rw [g6.1 68 (by omega) (by omega)])
    · rw [pr_ft_pre H0]
      unfold sf_X5_faultOf_33
      rw [pr_numberOf hn, pr_b2, if_neg (by decide), if_neg (by decide), if_neg (by decide), if_pos rfl, pr_has q5, if_pos hbad, pr_b2, if_neg (by decide)]
    · unfold pr_disp
      rw [if_pos rfl, if_neg (by decide), if_neg (by decide), if_neg (by decide), if_neg (by decide), if_neg (by decide), if_neg (by decide), if_neg (by decide), if_pos rfl, q8, g1, pr_b1]
    · unfold sf_X10_does
      rw [q1, pr_gdn q2, pr_gdn q2, Int.toNat_natCast, if_neg (by decide), if_neg (by decide), if_neg (by decide), if_neg (by decide), if_neg (by decide), if_neg (by decide), if_neg (by decide), if_pos rfl, pr_isPromise ⟨q6, q7⟩, if_pos hbad, pr_b2, if_neg (by decide), if_neg (by decide), g2', pr_b1]
  · refine pr_k_fault H0 (ft := -3) (by omega) ?_ (fun S' hS => ?_)
    · rw [pr_ft_pre H0]
      unfold sf_X5_faultOf_33
      rw [pr_numberOf hn, pr_b2, if_neg (by decide), if_neg (by decide), if_neg (by decide), if_pos rfl, pr_has q5, if_neg hbad, pr_b2, if_pos rfl]
    · unfold sf_X10_does
      rw [q1, pr_gdn q2, pr_gdn q2, if_neg (by decide), if_neg (by decide), if_neg (by decide), if_neg (by decide), if_neg (by decide), if_neg (by decide), if_neg (by decide), if_pos rfl, pr_isPromise ⟨q6, q7⟩, if_neg hbad, pr_b2, if_pos rfl, hS, pr_b1]
theorem pr_k10 {B dn T1 W : Int} {μ a at' : Nat} {st : List Nat} {C1 R1 : am_S} (H : pr_H B dn T1 W μ a at' st C1 R1) {sv n so : Int} (hn : am_r32 n) : pr_goal B dn W μ a at' 10 (pr_V sv n) n so C1 R1 := by
  obtain ⟨q1, q2, q3, q4, q5, q6, q7, q8, q9, q10⟩ := pr_H_pos H
  have H0 := H
  obtain ⟨Z, hB, X, hd, hp, t1, t2, t3, t4, h1, h2, hat⟩ := H
  by_cases hbad : 0 ≤ n ∧ n < R1.1 4745
  · obtain ⟨p, hpn⟩ : ∃ p : Nat, n = (p : Int) := ⟨n.toNat, by omega⟩
    subst hpn
    obtain ⟨C2, R2, g1, g2, -, -, g5, g6, g7, g8, g9, g10, -⟩ := pr_Ysettle Z (by omega) (p := p) (how := 2) (s := R1.2 118 st.length) (n := R1.2 119 st.length) (k := 0) hbad.2 (by omega) q9 (pr_free0 Z)
    have g2' : sf_X10_endBy (p : Int) 1 (R1.2 118 st.length) (R1.2 119 st.length) 0 R1 = some R2 := g2
    refine pr_k_stay H0 (B2 := B + 1) (by omega) ?_ (C2 := C2) (R2 := R2) ?_ ?_ g5 (pr_RX_core X g6 g7 (by omega) (fun q _ => by rw [g10]) (fun r h3 h4 => by omega) g9) (g6.2 _ (by omega)) (g6.2 _ (by omega)) (g7.2 _ (by omega) (by omega)) (by omega) (fun b _ => by rw [g6.1 68 (by omega) (by omega)])
    · rw [pr_ft_pre H0]
      unfold sf_X5_faultOf_33
      rw [pr_numberOf hn, pr_b2, if_neg (by decide), if_neg (by decide), if_neg (by decide), if_neg (by decide), if_pos rfl, pr_has q5, if_pos hbad, pr_b2, if_neg (by decide)]
    · unfold pr_disp
      rw [if_pos rfl, if_neg (by decide), if_neg (by decide), if_neg (by decide), if_neg (by decide), if_neg (by decide), if_neg (by decide), if_neg (by decide), if_neg (by decide), if_pos rfl, q8, g1, pr_b1]
    · unfold sf_X10_does
      rw [q1, pr_gdn q2, pr_gdn q2, Int.toNat_natCast, if_neg (by decide), if_neg (by decide), if_neg (by decide), if_neg (by decide), if_neg (by decide), if_neg (by decide), if_neg (by decide), if_neg (by decide), if_pos rfl, pr_isPromise ⟨q6, q7⟩, if_pos hbad, pr_b2, if_neg (by decide), if_pos rfl, g2', pr_b1]
  · refine pr_k_fault H0 (ft := -3) (by omega) ?_ (fun S' hS => ?_)
    · rw [pr_ft_pre H0]
      unfold sf_X5_faultOf_33
      rw [pr_numberOf hn, pr_b2, if_neg (by decide), if_neg (by decide), if_neg (by decide), if_neg (by decide), if_pos rfl, pr_has q5, if_neg hbad, pr_b2, if_pos rfl]
    · unfold sf_X10_does
      rw [q1, pr_gdn q2, pr_gdn q2, if_neg (by decide), if_neg (by decide), if_neg (by decide), if_neg (by decide), if_neg (by decide), if_neg (by decide), if_neg (by decide), if_neg (by decide), if_pos rfl, pr_isPromise ⟨q6, q7⟩, if_neg hbad, pr_b2, if_pos rfl, hS, pr_b1]
theorem pr_k12 {B dn T1 W : Int} {μ a at' : Nat} {st : List Nat} {C1 R1 : am_S} (H : pr_H B dn T1 W μ a at' st C1 R1) {sv n so : Int} (hn : am_r32 n) (hf : 0 ≤ n ∧ n < 10) : pr_goal B dn W μ a at' 12 (pr_V sv n) n so C1 R1 := by
  obtain ⟨q1, q2, q3, q4, q5, q6, q7, q8, q9, q10⟩ := pr_H_pos H
  have H0 := H
  obtain ⟨Z, hB, X, hd, hp, t1, t2, t3, t4, h1, h2, hat⟩ := H
  obtain ⟨k1, k2⟩ := pr_task Z (by omega) (f := n) (dt := 5) hf q9 (by omega)
  by_cases hful : C1.1 259 < 32
  · obtain ⟨C2, R2, g1, g2, g3, -, g4, g5⟩ := k2 hful
    refine pr_k_stay H0 (B2 := B + 1) (by omega) ?_ (C2 := C2) (R2 := R2) ?_ ?_ g3 (pr_RX_same X (g4.2 _ (by decide)) (g4.2 _ (by decide)) (g4.2 _ (by decide)) (g4.2 _ (by decide)) (g4.2 _ (by decide)) (g4.1 _ (by decide)) (g5.2 _ (by decide)) (g5.2 _ (by decide)) (g5.2 _ (by decide)) (g5.2 _ (by decide)) (g5.2 _ (by decide)) (g5.2 _ (by decide)) (g5.2 _ (by decide)) (g5.2 _ (by decide)) (g5.1 _ (by decide)) (g5.1 _ (by decide))) (g4.1 _ (by decide)) (g4.1 _ (by decide)) (g5.1 _ (by decide)) (by rw [g5.1 _ (by decide)]; exact Int.le_refl _) (fun b _ => by rw [g4.2 68 (by decide)])
    · rw [pr_ft_pre H0]
      unfold sf_X5_faultOf_33 sf_X6_isFull
      rw [pr_numberOf hn, pr_b2, if_neg (by decide), if_neg (by decide), if_neg (by decide), if_neg (by decide), if_neg (by decide), if_neg (by decide), if_pos rfl, if_pos hful, pr_b2, if_pos rfl]
    · unfold pr_disp
      rw [if_pos rfl, if_neg (by decide), if_neg (by decide), if_neg (by decide), if_neg (by decide), if_neg (by decide), if_neg (by decide), if_neg (by decide), if_neg (by decide), if_neg (by decide), if_neg (by decide), if_pos rfl, q8, g1, pr_b2]
    · unfold sf_X10_does
      rw [q1, pr_gdn q2, pr_gdn q2, Int.toNat_natCast, if_neg (by decide), if_neg (by decide), if_neg (by decide), if_neg (by decide), if_neg (by decide), if_neg (by decide), if_neg (by decide), if_neg (by decide), if_neg (by decide), if_neg (by decide), if_pos rfl, g2, pr_b2, if_neg (by decide)]
  · refine pr_k_fault H0 (ft := -4) (by omega) ?_ (fun S' hS => ?_)
    · rw [pr_ft_pre H0]
      unfold sf_X5_faultOf_33 sf_X6_isFull
      rw [pr_numberOf hn, pr_b2, if_neg (by decide), if_neg (by decide), if_neg (by decide), if_neg (by decide), if_neg (by decide), if_neg (by decide), if_pos rfl, if_neg hful, pr_b2, if_neg (by decide)]
    · unfold sf_X10_does
      rw [q1, pr_gdn q2, pr_gdn q2, Int.toNat_natCast, if_neg (by decide), if_neg (by decide), if_neg (by decide), if_neg (by decide), if_neg (by decide), if_neg (by decide), if_neg (by decide), if_neg (by decide), if_neg (by decide), if_neg (by decide), if_pos rfl, k1 (by omega), pr_b2, if_pos rfl, hS, pr_b1]
theorem pr_k13 {B dn T1 W : Int} {μ a at' : Nat} {st : List Nat} {C1 R1 : am_S} (H : pr_H B dn T1 W μ a at' st C1 R1) {sv n so : Int} (hn : am_r32 n) (hf : 0 ≤ n ∧ n ≤ 10) : pr_goal B dn W μ a at' 13 (pr_V sv n) n so C1 R1 := by
  obtain ⟨q1, q2, q3, q4, q5, q6, q7, q8, q9, q10⟩ := pr_H_pos H
  have H0 := H
  obtain ⟨Z, hB, X, hd, hp, t1, t2, t3, t4, h1, h2, hat⟩ := H
  have hft := pr_ft_none H0 (w := 13) (sv := sv) hn (by decide) (by decide) (by decide) (by decide) (by decide) (by decide) (by decide)
  have hx : am_cmp (C1.2 69 a) (pr_V 0 0) = 0 ↔ R1.2 118 st.length = 0 ∧ R1.2 119 st.length = 0 := by
    rw [pr_cmp0, q8, pr_V_inj q9.1 (by unfold am_r32; omega)]
  by_cases hz : R1.2 118 st.length = 0 ∧ R1.2 119 st.length = 0
  · refine pr_k_stay H0 (B2 := B) (by omega) hft (C2 := am_sA C1 68 a n) (R2 := am_sA R1 117 st.length n) ?_ ?_ (pr_Y_run Z (pr_out_sA (pr_out_refl _) (by decide)) (pr_out_sA (pr_out_refl _) (by decide))) (pr_setP X q7 hf) rfl rfl rfl (Int.le_refl _) (fun b hb => am_up_ne _ _ hb)
    · unfold pr_disp
      rw [if_pos rfl, if_neg (by decide), if_neg (by decide), if_neg (by decide), if_neg (by decide), if_neg (by decide), if_neg (by decide), if_neg (by decide), if_neg (by decide), if_neg (by decide), if_neg (by decide), if_neg (by decide), if_pos rfl]
      unfold sf_X5_jumpIfZero
      rw [pr_van q3, pr_b2, pr_of (by decide), pr_b2, if_pos (hx.mpr hz), pr_putn q3, pr_b1, pr_b1]
    · unfold sf_X10_does
      rw [q1, pr_gdn q2, pr_gdn q2, Int.toNat_natCast, if_neg (by decide), if_neg (by decide), if_neg (by decide), if_neg (by decide), if_neg (by decide), if_neg (by decide), if_neg (by decide), if_neg (by decide), if_neg (by decide), if_neg (by decide), if_neg (by decide), if_pos rfl, if_pos hz.1, if_pos hz.2, pr_gdn q2, pr_let]
  · refine pr_k_stay H0 (B2 := B) (by omega) hft (C2 := C1) (R2 := R1) ?_ ?_ Z X rfl rfl rfl (Int.le_refl _) (fun _ _ => rfl)
    · unfold pr_disp
      rw [if_pos rfl, if_neg (by decide), if_neg (by decide), if_neg (by decide), if_neg (by decide), if_neg (by decide), if_neg (by decide), if_neg (by decide), if_neg (by decide), if_neg (by decide), if_neg (by decide), if_neg (by decide), if_pos rfl]
      unfold sf_X5_jumpIfZero
      rw [pr_van q3, pr_b2, pr_of (by decide), pr_b2, if_neg (fun h => hz (hx.mp h)), pr_b1]
    · unfold sf_X10_does
      rw [q1, pr_gdn q2, pr_gdn q2, Int.toNat_natCast, if_neg (by decide), if_neg (by decide), if_neg (by decide), if_neg (by decide), if_neg (by decide), if_neg (by decide), if_neg (by decide), if_neg (by decide), if_neg (by decide), if_neg (by decide), if_neg (by decide), if_pos rfl]
      by_cases h5 : R1.2 118 st.length = 0
      · rw [if_pos h5, if_neg (fun h6 => hz ⟨h5, h6⟩)]
      · rw [if_neg h5]
theorem pr_k14 {B dn T1 W : Int} {μ a at' : Nat} {st : List Nat} {C1 R1 : am_S} (H : pr_H B dn T1 W μ a at' st C1 R1) {sv n so : Int} (hn : am_r32 n) (hf : 0 ≤ n ∧ n ≤ 10) : pr_goal B dn W μ a at' 14 (pr_V sv n) n so C1 R1 := by
  obtain ⟨q1, q2, q3, q4, q5, q6, q7, q8, q9, q10⟩ := pr_H_pos H
  have H0 := H
  obtain ⟨Z, hB, X, hd, hp, t1, t2, t3, t4, h1, h2, hat⟩ := H
  have hft := pr_ft_none H0 (w := 14) (sv := sv) hn (by decide) (by decide) (by decide) (by decide) (by decide) (by decide) (by decide)
  have hr := q9.1
  unfold am_r32 at hr
  by_cases hz : R1.2 118 st.length = 0 ∧ 0 < R1.2 119 st.length
  · have hw : ∀ _ : Nat, am_w32 (R1.2 119 st.length - 1) = R1.2 119 st.length - 1 := fun _ => pr_w (by omega) (by omega)
    have hv : pr_VV (R1.1 4745) 0 (R1.2 119 st.length - 1) := ⟨by unfold am_r32; omega, Or.inl rfl⟩
    have X2 := pr_setP (pr_setX X q7 hv) q7 hf
    refine pr_k_stay H0 (B2 := B) (by omega) hft (C2 := am_sA (am_sA C1 69 a (pr_V 0 (R1.2 119 st.length - 1))) 68 a n) (R2 := am_sA (am_sA (am_sA R1 118 st.length 0) 119 st.length (R1.2 119 st.length - 1)) 117 st.length n) ?_ ?_ (pr_Y_run Z (pr_out_sA (pr_out_sA (pr_out_refl _) (by decide)) (by decide)) (pr_out_sA (pr_out_sA (pr_out_sA (pr_out_refl _) (by decide)) (by decide)) (by decide))) X2 rfl rfl rfl (Int.le_refl _) (fun b hb => am_up_ne _ _ hb)
    · unfold pr_disp
      rw [if_pos rfl, if_neg (by decide), if_neg (by decide), if_neg (by decide), if_neg (by decide), if_neg (by decide), if_neg (by decide), if_neg (by decide), if_neg (by decide), if_neg (by decide), if_neg (by decide), if_neg (by decide), if_neg (by decide), if_pos rfl]
      unfold sf_X5_jumpIfAbove
      rw [pr_van q3, pr_b2, q8, pr_numberOf q9.1, pr_b2, pr_van q3, pr_b2, q8, pr_sortOf (pr_VV_s q9), pr_b2, if_pos hz.1, if_neg (by omega), hw 0, pr_of (by decide), pr_b2, pr_putn q3, pr_b1, pr_putn q3, pr_b1, pr_b1]
    · unfold sf_X10_does
      rw [q1, pr_gdn q2, pr_gdn q2, Int.toNat_natCast, if_neg (by decide), if_neg (by decide), if_neg (by decide), if_neg (by decide), if_neg (by decide), if_neg (by decide), if_neg (by decide), if_neg (by decide), if_neg (by decide), if_neg (by decide), if_neg (by decide), if_neg (by decide), if_pos rfl, if_pos hz.1, if_pos hz.2, hw 0, pr_putR q1 q2, pr_b1]
      have e : (am_sA (am_sA R1 118 st.length 0) 119 st.length (R1.2 119 st.length - 1)).1 4788 = (st.length : Int) := q1
      rw [e, pr_gdn q2, Int.toNat_natCast, pr_let]
  · refine pr_k_stay H0 (B2 := B) (by omega) hft (C2 := C1) (R2 := R1) ?_ ?_ Z X rfl rfl rfl (Int.le_refl _) (fun _ _ => rfl)
    · unfold pr_disp
      rw [if_pos rfl, if_neg (by decide), if_neg (by decide), if_neg (by decide), if_neg (by decide), if_neg (by decide), if_neg (by decide), if_neg (by decide), if_neg (by decide), if_neg (by decide), if_neg (by decide), if_neg (by decide), if_neg (by decide), if_pos rfl]
      unfold sf_X5_jumpIfAbove
      rw [pr_van q3, pr_b2, q8, pr_numberOf q9.1, pr_b2, pr_van q3, pr_b2, q8, pr_sortOf (pr_VV_s q9), pr_b2]
      by_cases h5 : R1.2 118 st.length = 0
      · rw [if_pos h5, if_pos (by rcases Int.lt_or_le 0 (R1.2 119 st.length) with h6 | h6; exact absurd ⟨h5, h6⟩ hz; exact h6), pr_b1]
      · rw [if_neg h5, pr_b1]
    · unfold sf_X10_does
      rw [q1, pr_gdn q2, pr_gdn q2, Int.toNat_natCast, if_neg (by decide), if_neg (by decide), if_neg (by decide), if_neg (by decide), if_neg (by decide), if_neg (by decide), if_neg (by decide), if_neg (by decide), if_neg (by decide), if_neg (by decide), if_neg (by decide), if_neg (by decide), if_pos rfl]
      by_cases h5 : R1.2 118 st.length = 0
      · rw [if_pos h5, if_neg (fun h6 => hz ⟨h5, h6⟩)]
      · rw [if_neg h5]
