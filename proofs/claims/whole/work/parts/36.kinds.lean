/-! STEPS that make PROMISES: AWAIT, CALL, THEN -/
theorem pr_promise_full {Sr : am_S} (h : Sr.1 4745 = 100) : sf_X10_promise Sr = some (-2, Sr) := by
  unfold sf_X10_promise
  rw [if_pos h]
/-- HANDLERS of a new PROMISE may be written -/
theorem pr_Y_hand {B : Int} {Sc Sr : am_S} (Z : pr_Y B Sc Sr) {d : Nat} (hfresh : ∀ k, pr_live Sr k → pr_own Sr k ≠ (d : Int)) (f g : Int) : pr_Y B (am_sA (am_sA Sc 72 d f) 73 d g) Sr := by
  have Z0 := Z
  obtain ⟨⟨KS, R⟩, O, G⟩ := Z
  refine ⟨⟨KS, pr_RB_of R rfl rfl rfl rfl rfl rfl rfl rfl rfl rfl rfl rfl rfl rfl rfl rfl (fun p _ h => h) (fun k hk hJ hO => ⟨?_, hO⟩) (fun _ _ _ => rfl)⟩, ?_, ?_⟩
  · obtain ⟨p, hp, j⟩ := hJ
    refine ⟨p, hp, pr_JK_pd j (Int.le_refl _) rfl rfl rfl rfl (fun _ h => ⟨h, rfl, rfl, rfl⟩) (fun h1 => ?_) (fun _ => rfl) (fun _ => rfl) (fun _ => rfl) (fun _ => rfl) (fun _ => rfl)⟩
    have hne : p ≠ d := fun e => by
      have h3 := (pr_JK_own j).1 h1
      refine hfresh k hk ?_
      unfold pr_own
      rw [if_pos h1, h3, e]
    exact ⟨am_up_ne _ _ hne, am_up_ne _ _ hne⟩
  · exact pr_O_keep O (fun a h1 h2 => by rw [pr_AA _ _ _ (by omega), pr_AA _ _ _ (by omega)]) rfl rfl rfl rfl rfl (fun _ _ _ _ => rfl) rfl rfl rfl rfl (Int.le_refl _) (Int.le_refl _)
  · intro p k h1 h2 h3
    exact pr_GD_keep (G p k h1 h2 h3) rfl rfl rfl rfl rfl rfl rfl (fun h => h)
/-- WAITED for with HANDLERS and a new PROMISE -/
theorem pr_handlers {B : Int} {Sc Sr : am_S} (Z : pr_Y B Sc Sr) (hB : B + 2 < 2000000000) (hm : Sr.1 4745 < 100) {q : Nat} (hq : (q : Int) < Sr.1 4745) {f g : Int} (hf : -1 ≤ f ∧ f < 10) (hg : -1 ≤ g ∧ g < 10) :
    ∃ Sc' Sr' Rm : am_S, ∃ d : Nat, (d : Int) = Sr.1 4745 ∧ sf_X5_addHandlers (q : Int) f g Sc = some ((d : Int), Sc') ∧ sf_X10_promise Sr = some ((d : Int), Rm) ∧ sf_X10_waitFor (q : Int) 1 f g (d : Int) Rm = some Sr' ∧ pr_Y (B + 2) Sc' Sr' ∧ pr_kC Sc Sc' ∧ pr_kR Sr Sr'
      ∧ Sr'.1 4745 = Sr.1 4745 + 1 ∧ Sc'.2 71 = Sc.2 71 ∧ (∀ p : Nat, (p : Int) < Sr.1 4745 → Sr'.2 83 p = Sr.2 83 p) ∧ (∀ r : Nat, Sr.1 4745 ≤ (r : Int) → (r : Int) < Sr'.1 4745 → Sr'.2 83 r = 0 ∧ Sc'.2 71 r = 0) := by
  obtain ⟨Cm, Rm, d, e1, e2, e3, e4, e5, e6, e7, e8, e9, e10, e11, e12, e13⟩ := pr_Ymake Z hm
  have hd100 : d < 100 := by omega
  have Z2 := pr_Y_hand e4 e11 f g
  have hjv : pr_jv 1 f g (d : Int) = 9 * d + 2 := by unfold pr_jv; simp; omega
  obtain ⟨Sc', Sr', w1, w2, w3, w4, w5, w6, w7, w8, w9, w10, w11⟩ := pr_Ywait Z2 hB (q := q) (p := d) (j := 9 * d + 2) (by omega) (by omega) (w := 1) (a := f) (b := g) (c := (d : Int)) (Or.inl ⟨rfl, rfl, am_up_self _ _ _, am_up_self _ _ _, hf.1, hf.2, hg.1, hg.2⟩) hjv (pr_ncd1 Z2 e11) (fun h => by omega)
  have kc : pr_kC Cm (am_sA (am_sA Cm 72 d f) 73 d g) := ⟨fun a h1 h2 => by rw [pr_AA _ _ _ (by omega), pr_AA _ _ _ (by omega)], fun _ _ => rfl⟩
  have h71 : Sc'.2 71 = Sc.2 71 := by rw [w7]; exact e9
  refine ⟨Sc', Sr', Rm, d, e1, ?_, e3, w2, w3, pr_kC_trans e6 (pr_kC_trans kc w4), pr_kR_trans e7 w5, by omega, h71, fun p hp => ?_, fun r h1 h2 => ?_⟩
  · unfold sf_X5_addHandlers
    have hj : ∀ S, sf_X9_jobOf (d : Int) 2 S = some (((9 * d + 2 : Nat) : Int), S) := fun S => pr_jobOf (i := 2) hd100 (by omega) S
    rw [e2, pr_b2, pr_putn hd100, pr_b1, pr_putn hd100, pr_b1, hj, pr_b2, w1, pr_b1]
  · rw [w8]; exact (e10 p (by omega)).2.2.2
  · have : r = d := by omega
    subst this
    rw [w8, h71]
    exact ⟨e8.2.2.2.1, by rw [← e9]; exact e8.2.2.2.2⟩
theorem pr_k11 {B dn T1 W : Int} {μ a at' : Nat} {st : List Nat} {C1 R1 : am_S} (H : pr_H B dn T1 W μ a at' st C1 R1) {sv n so : Int} (hn : am_r32 n) (hf : 0 ≤ n ∧ n < 10) : pr_goal B dn W μ a at' 11 (pr_V sv n) n so C1 R1 := by
  obtain ⟨q1, q2, q3, q4, q5, q6, q7, q8, q9, q10⟩ := pr_H_pos H
  have H0 := H
  obtain ⟨Z, hB, X, hd, hp, t1, t2, t3, t4, h1, h2, hat⟩ := H
  by_cases hx : R1.2 118 st.length = 1
  · have hxn : 0 ≤ R1.2 119 st.length ∧ R1.2 119 st.length < R1.1 4745 := by
      rcases q9.2 with h | ⟨_, h⟩ | h
      · omega
      · exact h
      · omega
    obtain ⟨qq, hqq⟩ : ∃ qq : Nat, R1.2 119 st.length = (qq : Int) := ⟨(R1.2 119 st.length).toNat, by omega⟩
    by_cases hful : R1.1 4745 < 100
    · obtain ⟨C2, R2, Rm, d, e1, e2, e3, e4, e5, e6, e7, e8, e9, e10, e11⟩ := pr_handlers Z (by omega) hful (q := qq) (by omega) (f := n) (g := -1) (by omega) (by omega)
      have X2 := pr_RX_core X e6 e7 (by omega) e10 e11 e9
      have hvd : pr_VV (R2.1 4745) 1 (d : Int) := ⟨by unfold am_r32; omega, Or.inr (Or.inl ⟨rfl, by omega, by omega⟩)⟩
      have X3 := pr_setX X2 (by omega) hvd
      have p2 : R2.1 4788 = (st.length : Int) := by rw [e7.2 4788 (by omega) (by omega)]; exact q1
      refine pr_k_stay H0 (B2 := B + 2) (by omega) ?_ (C2 := am_sA C2 69 a (pr_V 1 (d : Int))) (R2 := am_sA (am_sA R2 118 st.length 1) 119 st.length (d : Int)) ?_ ?_ (pr_Y_run e5 (pr_out_sA (pr_out_refl _) (by decide)) (pr_out_sA (pr_out_sA (pr_out_refl _) (by decide)) (by decide))) X3 (e6.2 460 (by omega)) (e6.2 461 (by omega)) (e7.2 4789 (by omega) (by omega)) (show R1.1 4745 ≤ R2.1 4745 by omega) (fun b hb => by
        show C2.2 68 b = C1.2 68 b
        rw [e6.1 68 (by omega) (by omega)])
      · rw [pr_ft_pre H0, if_pos hx]
        unfold sf_X5_faultOf_33
        rw [pr_numberOf hn, pr_b2, if_neg (by decide), if_neg (by decide), if_neg (by decide), if_neg (by decide), if_neg (by decide), if_pos rfl, if_neg (by decide), pr_isFull q5, if_pos hful, pr_b2, if_pos rfl]
      · unfold pr_disp
        rw [if_pos rfl, if_neg (by decide), if_neg (by decide), if_neg (by decide), if_neg (by decide), if_neg (by decide), if_neg (by decide), if_neg (by decide), if_neg (by decide), if_neg (by decide), if_pos rfl, q8, pr_numberOf q9.1, pr_b2, hqq, e2, pr_b2, pr_of (by decide), pr_b2, pr_putn q3, pr_b1]
      · unfold sf_X10_does
        rw [q1, pr_gdn q2, pr_gdn q2, Int.toNat_natCast, if_neg (by decide), if_neg (by decide), if_neg (by decide), if_neg (by decide), if_neg (by decide), if_neg (by decide), if_neg (by decide), if_neg (by decide), if_neg (by decide), if_pos rfl, if_pos hx]
        unfold sf_X10_make
        have hd0 : (0 : Int) ≤ (d : Int) := by omega
        rw [e3, pr_b2, if_pos hd0, pr_b2, if_pos hd0, hqq, e4, pr_b1, pr_putR p2 q2, pr_b1]
    · have hm : R1.1 4745 = 100 := by omega
      refine pr_k_fault H0 (ft := -4) (by omega) ?_ (fun S' hS => ?_)
      · rw [pr_ft_pre H0, if_pos hx]
        unfold sf_X5_faultOf_33
        rw [pr_numberOf hn, pr_b2, if_neg (by decide), if_neg (by decide), if_neg (by decide), if_neg (by decide), if_neg (by decide), if_pos rfl, if_neg (by decide), pr_isFull q5, if_neg hful, pr_b2, if_neg (by decide)]
      · unfold sf_X10_does
        rw [q1, pr_gdn q2, pr_gdn q2, Int.toNat_natCast, if_neg (by decide), if_neg (by decide), if_neg (by decide), if_neg (by decide), if_neg (by decide), if_neg (by decide), if_neg (by decide), if_neg (by decide), if_neg (by decide), if_pos rfl, if_pos hx]
        unfold sf_X10_make
        rw [pr_promise_full hm, pr_b2, if_neg (by decide), hS, pr_b1, pr_b2, if_neg (by decide)]
  · refine pr_k_fault H0 (ft := -3) (by omega) ?_ (fun S' hS => ?_)
    · rw [pr_ft_pre H0, if_neg hx]
      unfold sf_X5_faultOf_33
      rw [pr_numberOf hn, pr_b2, if_neg (by decide), if_neg (by decide), if_neg (by decide), if_neg (by decide), if_neg (by decide), if_pos rfl, if_pos rfl]
    · unfold sf_X10_does
      rw [q1, pr_gdn q2, pr_gdn q2, Int.toNat_natCast, if_neg (by decide), if_neg (by decide), if_neg (by decide), if_neg (by decide), if_neg (by decide), if_neg (by decide), if_neg (by decide), if_neg (by decide), if_neg (by decide), if_pos rfl, if_neg hx, hS, pr_b1]
theorem pr_k8 {B dn T1 W : Int} {μ a at' : Nat} {st : List Nat} {C1 R1 : am_S} (H : pr_H B dn T1 W μ a at' st C1 R1) {sv n so : Int} (hn : am_r32 n) (hf : 0 ≤ n ∧ n < 10) : pr_goal B dn W μ a at' 8 (pr_V sv n) n so C1 R1 := by
  obtain ⟨q1, q2, q3, q4, q5, q6, q7, q8, q9, q10⟩ := pr_H_pos H
  have H0 := H
  obtain ⟨Z, hB, X, hd, hp, t1, t2, t3, t4, h1, h2, hat⟩ := H
  by_cases hful : R1.1 4745 < 100
  · obtain ⟨Cm, Rm, p, e1, e2, e3, e4, e5, e6, e7, e8, e9, e10, e11, e12, e13⟩ := pr_Ymake Z hful
    have hp100 : p < 100 := by omega
    have hpa : p ≠ a := fun e => by
      subst e
      have := (X.1.1.2.2.2.2.2.2.2.2.1 (by omega)).1
      omega
    have hpst : ∀ b ∈ st, b ≠ p := fun b hb e => by
      subst e
      have hrec : ∀ (l : List Nat), pr_st C1 R1 l → ∀ x ∈ l, x ≠ 100 → (x : Int) < R1.1 4745 := by
        intro l
        induction l with
        | nil => intro _ x hx; cases hx
        | cons c l ih =>
          intro hl x hx hx1
          rcases List.mem_cons.mp hx with h | h
          · subst h; exact (hl.1.2.2.2.2.2.2.2.2.1 hx1).1
          · exact ih hl.2.2.2 x h hx1
      have := hrec st X.1.2.2.2 b hb (by omega)
      omega
    have h83 : ∀ q : Nat, (q : Int) < R1.1 4745 → Rm.2 83 q = R1.2 83 q := fun q hq => (e10 q (by omega)).2.2.2
    have X2 := pr_RX_core X e6 e7 (by omega) h83 (fun r h3 h4 => by
      have : r = p := by omega
      subst this; exact ⟨e8.2.2.2.1, e8.2.2.2.2⟩) e9
    have hvd : pr_VV (Rm.1 4745) 1 (p : Int) := ⟨by unfold am_r32; omega, Or.inr (Or.inl ⟨rfl, by omega, by omega⟩)⟩
    have X3 := pr_setX X2 (by omega) hvd
    have p2 : Rm.1 4788 = (st.length : Int) := by rw [e7.2 4788 (by omega) (by omega)]; exact q1
    have hv2 : pr_VV (Rm.1 4745) (R1.2 118 st.length) (R1.2 119 st.length) := pr_VV_mono q9 (by omega)
    have h459 : Cm.1 459 = (a : Int) := X2.2.1
    obtain ⟨Cf, hCf⟩ : ∃ Cf, Cf = am_sA (am_sI (am_sA (am_sA (am_sA (am_sA Cm 67 p n) 68 p 0) 69 p (pr_V (R1.2 118 st.length) (R1.2 119 st.length))) 70 p (Cm.1 459)) 459 (p : Int)) 69 a (pr_V 1 (p : Int)) := ⟨_, rfl⟩
    have x67 : Cf.2 67 = am_up (Cm.2 67) p n := by rw [hCf]; rfl
    have x68 : Cf.2 68 = am_up (Cm.2 68) p 0 := by rw [hCf]; rfl
    have x69 : Cf.2 69 = am_up (am_up (Cm.2 69) p (pr_V (R1.2 118 st.length) (R1.2 119 st.length))) a (pr_V 1 (p : Int)) := by rw [hCf]; rfl
    have x70 : Cf.2 70 = am_up (Cm.2 70) p (Cm.1 459) := by rw [hCf]; rfl
    have oC : pr_out [459, 460, 461] [67, 68, 69, 70] Cm Cf := by
      rw [hCf]
      refine pr_out_sA (pr_out_sI (pr_out_sA (pr_out_sA (pr_out_sA (pr_out_sA (pr_out_refl _) ?_) ?_) ?_) ?_) ?_) ?_ <;> decide
    obtain ⟨R', g1, g2, g3⟩ := pr_push (Sc' := Cf) (a := p) (f := n) (t := 0) (s := R1.2 118 st.length) (n := R1.2 119 st.length) X3 (show Rm.1 4745 ≤ 100 by omega)
      (fun b hb => ⟨by rw [x67, am_up_ne _ _ hb]; rfl, by rw [x68, am_up_ne _ _ hb]; rfl, by
        rw [x69]
        show _ = am_up (Cm.2 69) a (pr_V 1 (p : Int)) b
        by_cases hba : b = a
        · subst hba; rw [am_up_self, am_up_self]
        · rw [am_up_ne _ _ hba, am_up_ne _ _ hba, am_up_ne _ _ hb], by rw [x70, am_up_ne _ _ hb]; rfl⟩)
      (by rw [x67, am_up_self]) hf (by rw [x68, am_up_self]) (by omega) (by rw [x69, am_up_ne _ _ hpa, am_up_self]) hv2 (by rw [x70, am_up_self]; exact h459) (by rw [hCf]; rfl) (oC.2 71 (by decide)) (by omega)
      (fun hm => by
        rcases List.mem_cons.mp hm with h | h
        · exact hpa h
        · exact hpst p h rfl) (fun _ => ⟨show (p : Int) < Rm.1 4745 by omega, e8.2.2.2.1⟩) (fun h => by omega)
    rw [if_neg (show ¬ p = 100 by omega)] at g1
    have hR' : R'.1 4745 = Rm.1 4745 := g3.1 _ (by decide)
    have hsum : pr_sum Cf st = pr_sum C1 st := pr_sum_congr (fun b hb => by rw [x68, am_up_ne _ _ (hpst b hb), e6.1 68 (by omega) (by omega)])
    have ha68 : Cf.2 68 a = (at' : Int) + 1 := by rw [x68, am_up_ne _ _ (fun e => hpa e.symm), e6.1 68 (by omega) (by omega)]; exact hp
    have hp68 : Cf.2 68 p = 0 := by rw [x68, am_up_self]
    have hmu : pr_mu Cf T1 (p :: a :: st) = (200 - T1).toNat * 24 + (12 + (12 - (at' + 1) + pr_sum C1 st)) := by
      unfold pr_mu
      show _ + ((12 - (Cf.2 68 p).toNat) + ((12 - (Cf.2 68 a).toNat) + pr_sum Cf st)) = _
      rw [hsum, ha68, hp68]; omega
    refine ⟨Cf, R', ?_, ?_, Or.inl ⟨p :: a :: st, T1, ?_, g2, ⟨fun hm => ?_, fun hm => ?_⟩, ?_, ?_, t3, ?_, ?_⟩⟩
    · unfold pr_sC
      have hft : sf_X5_faultOf (a : Int) 8 (pr_V sv n) C1 = some (0, C1) := by
        rw [pr_ft_pre H0]
        unfold sf_X5_faultOf_33
        rw [pr_numberOf hn, pr_b2, if_neg (by decide), if_neg (by decide), if_pos rfl, pr_isFull q5, if_pos hful, pr_b2, if_pos rfl]
      rw [hft, pr_b2]
      unfold pr_disp
      rw [if_pos rfl, if_neg (by decide), if_neg (by decide), if_neg (by decide), if_neg (by decide), if_neg (by decide), if_neg (by decide), if_pos rfl]
      unfold sf_X5_begin
      rw [q8, e2, pr_b2, pr_enterC (by omega), pr_b1, pr_b2, pr_of (by decide), pr_b2, pr_putn q3, pr_b1, pr_b2, ← hCf]
      unfold pr_oC
      rw [if_neg (by decide), if_neg (by decide), if_neg (by decide)]
    · unfold sf_X10_does
      rw [q1, pr_gdn q2, pr_gdn q2, Int.toNat_natCast, if_neg (by decide), if_neg (by decide), if_neg (by decide), if_neg (by decide), if_neg (by decide), if_neg (by decide), if_pos rfl]
      unfold sf_X10_make
      have hd0 : (0 : Int) ≤ (p : Int) := by omega
      rw [e3, pr_b2, if_pos hd0, pr_b2, if_pos hd0, pr_putR p2 q2, pr_b1, g1, pr_b1]
    · refine pr_Y_mono (pr_Y_run e4 oC (pr_out_trans (pr_out_sA (pr_out_sA (pr_out_refl _) ?_) ?_) (pr_out_mono g3 ?_ ?_))) (by omega) hB <;> decide
    · rcases List.mem_cons.mp hm with h | h
      · omega
      · obtain ⟨d1, d2, d3⟩ := hd.1 h
        refine ⟨?_, d2, by omega⟩
        rw [hCf]
        show Cm.1 460 = dn
        rw [e6.2 460 (by omega)]; exact d1
    · exact hd.2 (fun h => hm (List.mem_cons_of_mem _ h))
    · rw [hCf]
      show Cm.1 461 = T1
      rw [e6.2 461 (by omega)]; exact t1
    · rw [g3.1 4789 (by decide)]
      show Rm.1 4789 = T1
      rw [e7.2 4789 (by omega) (by omega)]; exact t2
    · rw [hmu]; omega
    · rw [hmu]; omega
  · have hm : R1.1 4745 = 100 := by omega
    refine pr_k_fault H0 (ft := -4) (by omega) ?_ (fun S' hS => ?_)
    · rw [pr_ft_pre H0]
      unfold sf_X5_faultOf_33
      rw [pr_numberOf hn, pr_b2, if_neg (by decide), if_neg (by decide), if_pos rfl, pr_isFull q5, if_neg hful, pr_b2, if_neg (by decide)]
    · unfold sf_X10_does
      rw [q1, pr_gdn q2, pr_gdn q2, Int.toNat_natCast, if_neg (by decide), if_neg (by decide), if_neg (by decide), if_neg (by decide), if_neg (by decide), if_neg (by decide), if_pos rfl]
      unfold sf_X10_make
      rw [pr_promise_full hm, pr_b2, if_neg (by decide), hS, pr_b1, pr_b2, if_neg (by decide)]
/-- a FUNCTION stops: what runs afterwards -/
theorem pr_RX_stop {C1 R1 C' R' : am_S} {a : Nat} {st : List Nat} (X : pr_RX C1 R1 (a :: st)) (ha : a ≠ 100) (hpl : 1 ≤ C1.2 68 a) (hm100 : R1.1 4745 ≤ 100) (hm : R1.1 4745 ≤ R'.1 4745) (hc : ∀ b, 67 ≤ b → b ≤ 70 → C'.2 b = C1.2 b) (h459 : C'.1 459 = pr_top st) (h4788 : R'.1 4788 = (st.length : Int) - 1)
    (hr : ∀ b, 116 ≤ b → b ≤ 120 → R'.2 b = R1.2 b) (h79 : ∀ q, q ≠ a → R'.2 79 q = R1.2 79 q) (h80 : ∀ q, q ≠ a → R'.2 80 q = R1.2 80 q) (h79a : R'.2 79 a = C1.2 67 a) (h80a : R'.2 80 a = C1.2 68 a)
    (h83 : ∀ q : Nat, (q : Int) < R1.1 4745 → q ≠ a → R'.2 83 q = R1.2 83 q) (h83a : R'.2 83 a = 1) (h71 : ∀ q : Nat, (q : Int) < R1.1 4745 → q ≠ a → C'.2 71 q = C1.2 71 q) (h71a : C'.2 71 a = 1)
    (hnew : ∀ r : Nat, R1.1 4745 ≤ (r : Int) → (r : Int) < R'.1 4745 → R'.2 83 r = 0 ∧ C'.2 71 r = 0) : pr_RX C' R' st := by
  obtain ⟨⟨hFR, hna, ha101, hst⟩, x2, x3, x4, x5⟩ := X
  obtain ⟨f1, f2, f3, f4, f5, f6, f7, f8, f9, f10⟩ := hFR
  refine ⟨pr_st_keep (Sc := C1) (Sr := R1) hm hst (fun b _ => ?_) (fun d _ => ?_) (fun b hb _ hl h0 => ?_), h459, h4788, fun r hr1 hr2 => ?_, fun p hp => ?_⟩
  · rw [hc 67 (by omega) (by omega), hc 68 (by omega) (by omega), hc 69 (by omega) (by omega), hc 70 (by omega) (by omega)]; exact ⟨rfl, rfl, rfl, rfl⟩
  · rw [hr 116 (by omega) (by omega), hr 117 (by omega) (by omega), hr 118 (by omega) (by omega), hr 119 (by omega) (by omega), hr 120 (by omega) (by omega)]; exact ⟨rfl, rfl, rfl, rfl, rfl⟩
  · rw [h83 b hl (fun e => hna (e ▸ hb))]; exact h0
  · rw [hc 67 (by omega) (by omega), hc 68 (by omega) (by omega)]
    by_cases e : r = a
    · subst e
      exact ⟨h79a, h80a, f3, hpl, f5.2⟩
    · rw [h79 r e, h80 r e]
      rcases Int.lt_or_le (r : Int) (R1.1 4745) with h | h
      · exact x4 r h (by rw [← h83 r h e]; exact hr2)
      · have := (hnew r h hr1).1
        omega
  · by_cases e : p = a
    · subst e
      rw [h71a, h83a]; exact ⟨rfl, Or.inr rfl⟩
    · rcases Int.lt_or_le (p : Int) (R1.1 4745) with h | h
      · rw [h71 p h e, h83 p h e]; exact x5 p h
      · obtain ⟨u, v⟩ := hnew p h hp
        rw [u, v]; exact ⟨rfl, Or.inl rfl⟩
theorem pr_Y_halt {B : Int} {Sc Sr : am_S} (Z : pr_Y B Sc Sr) {p : Nat} (hp : (p : Int) < Sr.1 4745) {v : Int} (hv : v = 0 ∨ v = 1) (hfree : v = 0 → ∀ k, pr_live Sr k → Sr.2 84 k = 4 → Sr.2 87 k ≠ (p : Int)) : pr_Y B (am_sA Sc 71 p v) Sr := by
  obtain ⟨⟨KS, R⟩, O, G⟩ := Z
  refine ⟨⟨KS, pr_halt R hp hv hfree⟩, pr_O_keep O (fun a h1 h2 => by rw [pr_AA _ _ _ (by omega)]) rfl rfl rfl rfl rfl (fun _ _ _ _ => rfl) rfl rfl rfl rfl (Int.le_refl _) (Int.le_refl _), ?_⟩
  intro p k h1 h2 h3
  exact pr_GD_keep (G p k h1 h2 h3) rfl rfl rfl rfl rfl rfl rfl (fun h => h)
/-- the last part of AWAIT -/
theorem pr_stopped {B dn T1 W : Int} {μ a at' : Nat} {st : List Nat} {C1 R1 C3 R3 : am_S} (H : pr_H B dn T1 W μ a at' st C1 R1) (ha : a ≠ 100) {q : Nat} {B3 : Int} (hB3 : B3 + 2 ≤ B + 4) (Z3 : pr_Y B3 C3 R3) (hq : (q : Int) < R3.1 4745) (hm : R1.1 4745 ≤ R3.1 4745) (kc : ∀ b, 67 ≤ b → b ≤ 70 → C3.2 b = C1.2 b) (c459 : C3.1 459 = pr_top st) (c460 : C3.1 460 = C1.1 460) (c461 : C3.1 461 = C1.1 461) (kr : pr_kR R1 R3)
    (h71 : C3.2 71 = am_up (C1.2 71) a 1) (h83 : ∀ q : Nat, (q : Int) < R1.1 4745 → R3.2 83 q = R1.2 83 q) (hnew : ∀ r : Nat, R1.1 4745 ≤ (r : Int) → (r : Int) < R3.1 4745 → R3.2 83 r = 0 ∧ C3.2 71 r = 0) (hno : ∀ k, pr_live R3 k → R3.2 84 k = 4 → R3.2 87 k ≠ (a : Int)) :
    ∃ Sc' Sr', sf_X3_waitFor (q : Int) ((9 * a + 3 : Nat) : Int) C3 = some Sc' ∧ sf_X10_awaits_86 (a : Int) (q : Int) R3 = some Sr' ∧ pr_o1 (B + 4) dn μ W Sc' Sr' := by
  obtain ⟨q1, q2, q3, q4, q5, q6, q7, q8, q9, q10⟩ := pr_H_pos H
  obtain ⟨Z, hB, X, hd, hp, t1, t2, t3, t4, h1, h2, hat⟩ := H
  have ha1 := (X.1.1.2.2.2.2.2.2.2.2.1 ha).1
  have f2 := X.1.1.2.1
  have f4 := X.1.1.2.2.2.1
  have m3 := pr_Y_m Z3
  have ha100 : a < 100 := by omega
  have p2 : R3.1 4788 = (st.length : Int) := by rw [kr.2 4788 (by omega) (by omega)]; exact q1
  have ew : ∀ _ : Nat, am_w32 ((st.length : Int) - 1) = (st.length : Int) - 1 := fun _ => pr_w (by omega) (by omega)
  obtain ⟨R4, hR4⟩ : ∃ R4, R4 = am_sI (am_sA (am_sA (am_sA R3 83 a 1) 79 a (R3.2 116 st.length)) 80 a (R3.2 117 st.length)) 4788 ((st.length : Int) - 1) := ⟨_, rfl⟩
  have oR : pr_out [4788, 4789, 4790, 4791, 4792] [79, 80, 83, 116, 117, 118, 119, 120] R3 R4 := by
    rw [hR4]
    refine pr_out_sI (pr_out_sA (pr_out_sA (pr_out_sA (pr_out_refl _) ?_) ?_) ?_) ?_ <;> decide
  have Z4 := pr_Y_run Z3 (pr_out_refl C3) oR
  have m4 : R4.1 4745 = R3.1 4745 := oR.1 _ (by decide)
  have hno4 : ∀ k, pr_live R4 k → R4.2 84 k = 4 → R4.2 87 k ≠ (a : Int) := by
    intro k hk
    rw [oR.2 84 (by decide), oR.2 87 (by decide)]
    exact hno k ⟨hk.1, by have := hk.2; rw [oR.2 84 (by decide)] at this; exact this⟩
  have hjv : pr_jv 4 (a : Int) 0 0 = 9 * a + 3 := by unfold pr_jv; simp; omega
  obtain ⟨Sc', Sr', w1, w2, w3, w4, w5, w6, w7, w8, w9, w10, w11⟩ := pr_Ywait Z4 (by omega) (q := q) (p := a) (j := 9 * a + 3) (by omega) (by omega) (w := 4) (a := (a : Int)) (b := 0) (c := 0) (Or.inr (Or.inr (Or.inr ⟨rfl, rfl, by rw [h71, am_up_self]⟩))) hjv (pr_ncd4 Z4 hno4) (fun h => by omega)
  have x83 : Sr'.2 83 = am_up (R3.2 83) a 1 := by rw [w8, hR4]; rfl
  have x79 : Sr'.2 79 = am_up (R1.2 79) a (R1.2 116 st.length) := by
    rw [w5.1 79 (by omega), hR4, ← kr.1 79 (by omega), ← kr.1 116 (by omega)]; rfl
  have x80 : Sr'.2 80 = am_up (R1.2 80) a (R1.2 117 st.length) := by
    rw [w5.1 80 (by omega), hR4, ← kr.1 80 (by omega), ← kr.1 117 (by omega)]; rfl
  have hRX : pr_RX Sc' Sr' st := pr_RX_stop X ha (by omega) q7 (by omega) (fun b hb1 hb2 => by rw [w4.1 b (by omega) hb2]; exact kc b hb1 hb2) (by rw [w4.2 459 (by omega)]; exact c459) (by rw [w5.2 4788 (by omega) (by omega), hR4]; rfl)
    (fun b hb1 hb2 => by
      rw [w5.1 b (by omega), ← kr.1 b (by omega), hR4]
      show (am_sA (am_sA (am_sA R3 83 a 1) 79 a (R3.2 116 st.length)) 80 a (R3.2 117 st.length)).2 b = R3.2 b
      rw [pr_AA _ _ _ (by omega), pr_AA _ _ _ (by omega), pr_AA _ _ _ (by omega)])
    (fun q hq => by rw [x79, am_up_ne _ _ hq]) (fun q hq => by rw [x80, am_up_ne _ _ hq]) (by rw [x79, am_up_self]; exact f2) (by rw [x80, am_up_self]; exact f4)
    (fun q hq hqa => by rw [x83, am_up_ne _ _ hqa]; exact h83 q hq) (by rw [x83, am_up_self]) (fun q hq hqa => by rw [w7, h71, am_up_ne _ _ hqa]) (by rw [w7, h71, am_up_self])
    (fun r hr1 hr2 => by
      have hra : r ≠ a := by omega
      rw [x83, w7, am_up_ne _ _ hra]; exact hnew r hr1 (by omega))
  have hsum : pr_sum Sc' st = pr_sum C1 st := pr_sum_congr (fun b _ => by rw [w4.1 68 (by omega) (by omega), kc 68 (by omega) (by omega)])
  refine ⟨Sc', Sr', w1, ?_, Or.inl ⟨st, T1, pr_Y_mono w3 hB3 hB, hRX, ⟨fun hm2 => ?_, fun hm2 => ?_⟩, ?_, ?_, t3, ?_, ?_⟩⟩
  · unfold sf_X10_awaits_86
    have y1 : (am_sA R3 83 a 1).1 4788 = (st.length : Int) := p2
    have y2 : (am_sA (am_sA R3 83 a 1) 79 a (R3.2 116 st.length)).1 4788 = (st.length : Int) := p2
    have y3 : (am_sA (am_sA (am_sA R3 83 a 1) 79 a (R3.2 116 st.length)) 80 a (R3.2 117 st.length)).1 4788 = (st.length : Int) := p2
    have y4 : (am_sA R3 83 a 1).2 116 = R3.2 116 := rfl
    have y5 : (am_sA (am_sA R3 83 a 1) 79 a (R3.2 116 st.length)).2 117 = R3.2 117 := rfl
    rw [pr_gdn ha100, pr_let, Int.toNat_natCast, y1, pr_gdn q2, pr_gdn ha100, Int.toNat_natCast, y4, pr_let, y2, pr_gdn q2, pr_gdn ha100, Int.toNat_natCast, y5, pr_let, y3, ew 0, pr_let, ← hR4, w2, pr_b1]
  · obtain ⟨d1, d2, d3⟩ := hd.1 (List.mem_cons_of_mem _ hm2)
    exact ⟨by rw [w4.2 460 (by omega), c460]; exact d1, d2, by omega⟩
  · exact hd.2 (fun h => by rcases List.mem_cons.mp h with h | h; exact ha h.symm; exact hm2 h)
  · rw [w4.2 461 (by omega), c461]; exact t1
  · rw [w5.2 4789 (by omega) (by omega), hR4]
    show R3.1 4789 = T1
    rw [kr.2 4789 (by omega) (by omega)]; exact t2
  · unfold pr_mu; rw [hsum]; omega
  · unfold pr_mu; rw [hsum]; omega
theorem pr_k5 {B dn T1 W : Int} {μ a at' : Nat} {st : List Nat} {C1 R1 : am_S} (H : pr_H B dn T1 W μ a at' st C1 R1) {sv n so : Int} (hn : am_r32 n) : pr_goal B dn W μ a at' 5 (pr_V sv n) n so C1 R1 := by
  obtain ⟨q1, q2, q3, q4, q5, q6, q7, q8, q9, q10⟩ := pr_H_pos H
  have H0 := H
  obtain ⟨Z, hB, X, hd, hp, t1, t2, t3, t4, h1, h2, hat⟩ := H
  by_cases h100 : a = 100
  · rw [if_pos h100] at q10
    refine pr_k_fault H0 (ft := -2) (by omega) ?_ (fun S' hS => ?_)
    · rw [pr_ft_pre H0]
      unfold sf_X5_faultOf_33
      have e : (a : Int) = 100 := by omega
      rw [pr_numberOf hn, pr_b2, if_neg (by decide), if_pos rfl, if_pos e]
    · unfold sf_X10_does
      rw [q1, pr_gdn q2, pr_gdn q2, Int.toNat_natCast, if_neg (by decide), if_neg (by decide), if_neg (by decide), if_neg (by decide), if_neg (by decide), if_pos rfl]
      unfold sf_X10_awaits
      rw [q1, pr_gdn q2, pr_gdn q2, Int.toNat_natCast, q10, if_neg (by decide), hS, pr_b1, pr_b1]
  · rw [if_neg h100] at q10
    have ha1 := (X.1.1.2.2.2.2.2.2.2.2.1 h100)
    have ha100 : a < 100 := by omega
    have ha0 : (0 : Int) ≤ (a : Int) := by omega
    have hne100 : ¬ (a : Int) = 100 := by omega
    have h710 : C1.2 71 a = 0 := by rw [(X.2.2.2.2 a ha1.1).1]; exact ha1.2
    have hno : ∀ k, pr_live R1 k → R1.2 84 k = 4 → R1.2 87 k ≠ (a : Int) := by
      intro k hk h4 h87
      obtain ⟨p', hp', j', ho'⟩ := pr_Y_jk Z hk
      have e : p' = a := by
        unfold pr_own at ho'
        rw [if_neg (by omega)] at ho'
        omega
      subst e
      rcases j' with ⟨a1, -⟩ | ⟨a1, -⟩ | ⟨a1, -⟩ | ⟨a1, a2, a3⟩ | ⟨a1, -⟩ <;> omega
    have htop : ∀ _ : Nat, am_w32 (C1.2 70 a) = pr_top st := fun _ => by
      rw [X.1.1.2.2.2.2.2.2.2.1]
      cases st with
      | nil => exact pr_w (by decide) (by decide)
      | cons b l =>
        have := (pr_st_nodup X.1.2.2.2).2 b List.mem_cons_self
        exact pr_w (by show -2147483648 ≤ (b : Int); omega) (by show (b : Int) < 2147483648; omega)
    have Z1 := pr_Y_halt Z (p := a) ha1.1 (v := 1) (Or.inr rfl) (fun h => by omega)
    have Z2 : pr_Y B (am_sI (am_sA C1 71 a 1) 459 (pr_top st)) R1 := pr_Y_run Z1 (pr_out_sI (pr_out_refl _) (by decide)) (pr_out_refl _)
    have hj : ∀ S, sf_X9_jobOf (a : Int) 3 S = some (((9 * a + 3 : Nat) : Int), S) := fun S => pr_jobOf (i := 3) ha100 (by omega) S
    have hstop : ∀ (q : Nat) (C3 Sc' : am_S), sf_X3_promiseFor (pr_V (R1.2 118 st.length) (R1.2 119 st.length)) (am_sI (am_sA C1 71 a 1) 459 (pr_top st)) = some ((q : Int), C3) → sf_X3_waitFor (q : Int) ((9 * a + 3 : Nat) : Int) C3 = some Sc' → sf_X5_stop (a : Int) C1 = some Sc' := by
      intro q C3 Sc' g1 g2
      unfold sf_X5_stop
      have y1 : am_w32 ((am_sA C1 71 a 1).2 70 a) = pr_top st := htop 0
      have y2 : (am_sI (am_sA C1 71 a 1) 459 (pr_top st)).2 69 a = pr_V (R1.2 118 st.length) (R1.2 119 st.length) := q8
      rw [pr_putn ha100, pr_b1, pr_atn q3, pr_b2, y1, pr_let, pr_van q3, pr_b2, y2, g1, pr_b2, hj, pr_b2, g2, pr_b1]
    have hfin : ∀ (Sc' Sr' : am_S), sf_X5_faultOf (a : Int) 5 (pr_V sv n) C1 = some (0, C1) → sf_X5_stop (a : Int) C1 = some Sc' → sf_X10_awaits R1 = some Sr' → pr_o1 (B + 4) dn μ W Sc' Sr' → pr_goal B dn W μ a at' 5 (pr_V sv n) n so C1 R1 := by
      intro Sc' Sr' g1 g2 g3 g4
      refine ⟨Sc', Sr', ?_, ?_, g4⟩
      · unfold pr_sC
        rw [g1, pr_b2]
        unfold pr_disp
        rw [if_pos rfl, if_neg (by decide), if_neg (by decide), if_neg (by decide), if_neg (by decide), if_neg (by decide), if_pos rfl, pr_b2]
        unfold pr_oC
        rw [if_pos rfl]; exact g2
      · unfold sf_X10_does
        rw [q1, pr_gdn q2, pr_gdn q2, Int.toNat_natCast, if_neg (by decide), if_neg (by decide), if_neg (by decide), if_neg (by decide), if_neg (by decide), if_pos rfl, g3, pr_b1]
    by_cases hx : R1.2 118 st.length = 1
    · have hxn : 0 ≤ R1.2 119 st.length ∧ R1.2 119 st.length < R1.1 4745 := by
        rcases q9.2 with h | ⟨_, h⟩ | h
        · omega
        · exact h
        · omega
      obtain ⟨qq, hqq⟩ : ∃ qq : Nat, R1.2 119 st.length = (qq : Int) := ⟨(R1.2 119 st.length).toNat, by omega⟩
      obtain ⟨Sc', Sr', g1, g2, g3⟩ := pr_stopped H0 h100 (q := qq) (B3 := B) (by omega) Z2 (by omega) (Int.le_refl _) (fun b hb1 hb2 => by
        show (am_sA C1 71 a 1).2 b = C1.2 b
        rw [pr_AA _ _ _ (by omega)]) rfl rfl rfl ⟨fun _ _ => rfl, fun _ _ _ => rfl⟩ rfl (fun _ _ => rfl) (fun r h3 h4 => by omega) hno
      refine hfin Sc' Sr' ?_ (hstop qq _ Sc' ?_ g1) ?_ g3
      · rw [pr_ft_pre H0, if_pos hx]
        unfold sf_X5_faultOf_33
        rw [pr_numberOf hn, pr_b2, if_neg (by decide), if_pos rfl, if_neg hne100, if_neg (by decide)]
      · unfold sf_X3_promiseFor
        rw [pr_sortOf (pr_VV_s q9), pr_b2, if_pos hx, pr_numberOf q9.1, pr_b2, hqq]
      · unfold sf_X10_awaits
        rw [q1, pr_gdn q2, pr_gdn q2, Int.toNat_natCast, q10, if_pos ha0, pr_gdn q2, if_pos hx, hqq]; exact g2
    · by_cases hful : R1.1 4745 < 100
      · obtain ⟨Cm, Rm, p, e1, e2, e3, e4, e5, e6, e7, e8, e9, e10, e11, e12, e13⟩ := pr_Ymake Z2 hful
        obtain ⟨C3, R3, g1, g2, g2r, -, g5, g6, g7, g8, g9, g10, g11, g12, -⟩ := pr_Ysettle e4 (by omega) (p := p) (how := 1) (s := R1.2 118 st.length) (n := R1.2 119 st.length) (k := 0) (by omega) (Or.inl rfl) (pr_VV_mono q9 (by omega)) (pr_free0 e4)
        have hmR3 : R3.1 4745 = R1.1 4745 + 1 := by omega
        have h71 : C3.2 71 = am_up (C1.2 71) a 1 := by rw [g9, e9]; rfl
        have h83 : ∀ q : Nat, (q : Int) < R1.1 4745 → R3.2 83 q = R1.2 83 q := fun q hq => by rw [g10]; exact (e10 q (by omega)).2.2.2
        have hno3 : ∀ k, pr_live R3 k → R3.2 84 k = 4 → R3.2 87 k ≠ (a : Int) := by
          intro k hk h4
          rcases g12 k hk with ⟨h5, -⟩ | ⟨l1, l2, l3, -⟩
          · omega
          · rcases e12 k l1 with ⟨h5, -⟩ | ⟨k1, k2, k3, -⟩
            · exact absurd h5 l1.2
            · rw [l3, k3]; exact hno k k1 (by omega)
        obtain ⟨Sc', Sr', w1, w2, w3⟩ := pr_stopped H0 h100 (q := p) (B3 := B + 1) (by omega) g5 (by omega) (by omega) (fun b hb1 hb2 => by
          rw [g6.1 b (by omega) hb2, e6.1 b (by omega) hb2]
          show (am_sA C1 71 a 1).2 b = C1.2 b
          rw [pr_AA _ _ _ (by omega)]) (by rw [g6.2 459 (by omega), e6.2 459 (by omega)]; rfl) (by rw [g6.2 460 (by omega), e6.2 460 (by omega)]; rfl) (by rw [g6.2 461 (by omega), e6.2 461 (by omega)]; rfl) (pr_kR_trans e7 g7) h71 h83 (fun r h3 h4 => by
            have : r = p := by omega
            subst this
            rw [g10, g9]; exact ⟨e8.2.2.2.1, e8.2.2.2.2⟩) hno3
        have hp0 : (0 : Int) ≤ (p : Int) := by omega
        refine hfin Sc' Sr' ?_ (hstop p C3 Sc' ?_ w1) ?_ w3
        · rw [pr_ft_pre H0, if_neg hx]
          unfold sf_X5_faultOf_33
          rw [pr_numberOf hn, pr_b2, if_neg (by decide), if_pos rfl, if_neg hne100, if_pos rfl, pr_isFull q5, if_pos hful, pr_b2, if_pos rfl]
        · unfold sf_X3_promiseFor
          rw [pr_sortOf (pr_VV_s q9), pr_b2, if_neg hx, e2, pr_b2, g1, pr_b1]
        · unfold sf_X10_awaits
          have p2 : Rm.1 4788 = (st.length : Int) := by rw [e7.2 4788 (by omega) (by omega)]; exact q1
          rw [q1, pr_gdn q2, pr_gdn q2, Int.toNat_natCast, q10, if_pos ha0, pr_gdn q2, if_neg hx, e3, pr_b2, if_pos hp0, p2, pr_gdn q2, pr_gdn q2, Int.toNat_natCast, e7.1 118 (by omega), e7.1 119 (by omega), g2r rfl, pr_b1]; exact w2
      · have hm : R1.1 4745 = 100 := by omega
        refine pr_k_fault H0 (ft := -4) (by omega) ?_ (fun S' hS => ?_)
        · rw [pr_ft_pre H0, if_neg hx]
          unfold sf_X5_faultOf_33
          rw [pr_numberOf hn, pr_b2, if_neg (by decide), if_pos rfl, if_neg hne100, if_pos rfl, pr_isFull q5, if_neg hful, pr_b2, if_neg (by decide)]
        · unfold sf_X10_does
          rw [q1, pr_gdn q2, pr_gdn q2, Int.toNat_natCast, if_neg (by decide), if_neg (by decide), if_neg (by decide), if_neg (by decide), if_neg (by decide), if_pos rfl]
          unfold sf_X10_awaits
          rw [q1, pr_gdn q2, pr_gdn q2, Int.toNat_natCast, q10, if_pos ha0, pr_gdn q2, if_neg hx, pr_promise_full hm, pr_b2, if_neg (by decide), hS, pr_b1, pr_b1]
