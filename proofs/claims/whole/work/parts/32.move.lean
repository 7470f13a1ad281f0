/-! one round of the loops in which FUNCTIONS go on -/
def pr_sum (Sc : am_S) : List Nat → Nat
  | [] => 0
  | a :: l => (12 - (Sc.2 68 a).toNat) + pr_sum Sc l
def pr_mu (Sc : am_S) (T : Int) (st : List Nat) : Nat := (200 - T).toNat * 24 + pr_sum Sc st
theorem pr_sum_congr {Sc Sc' : am_S} : ∀ {st : List Nat}, (∀ a ∈ st, Sc'.2 68 a = Sc.2 68 a) → pr_sum Sc' st = pr_sum Sc st
  | [], _ => rfl
  | a :: l, h => by
    show (12 - (Sc'.2 68 a).toNat) + pr_sum Sc' l = (12 - (Sc.2 68 a).toNat) + pr_sum Sc l
    rw [h a List.mem_cons_self, pr_sum_congr (fun x hx => h x (List.mem_cons_of_mem _ hx))]
theorem pr_sum_le (Sc : am_S) : ∀ (st : List Nat), pr_sum Sc st ≤ 12 * st.length
  | [] => Nat.le_refl _
  | a :: l => by
    have := pr_sum_le Sc l
    show (12 - (Sc.2 68 a).toNat) + pr_sum Sc l ≤ 12 * (l.length + 1)
    omega
/-- what one round leaves: another one to come, or the end -/
def pr_o1 (B dn : Int) (μ : Nat) (W : Int) (Sc' Sr' : am_S) : Prop :=
  (∃ (st' : List Nat) (T' : Int), pr_Y B Sc' Sr' ∧ pr_RX Sc' Sr' st' ∧ pr_dn dn Sc' Sr' st' ∧ Sc'.1 461 = T' ∧ Sr'.1 4789 = T' ∧ 0 ≤ T' ∧ pr_mu Sc' T' st' < μ ∧ T' + (pr_mu Sc' T' st' : Int) ≤ W)
  ∨ (Sc'.1 459 = -1 ∧ Sr'.1 4788 = -1 ∧ pr_fin B dn Sc' Sr')
def pr_oC (me at' o : Int) (S : am_S) : Option am_S :=
  if o = 3 then sf_X5_stop me S else if o = 1 then sf_X5_end me o S else if o = 2 then am_b2 (sf_X5_leaveTry me at' S) (fun x S18 => if x = 0 then sf_X5_end me o S18 else some S18) else some S
def pr_itC (S : am_S) : Option am_S :=
  am_b2 (sf_X4_at 68 101 (S.1 459) S) (fun x3 S2 => am_b1 (sf_X4_put 68 101 (S.1 459) (am_w32 (x3 + 1)) S2) (fun S5 => am_b2 (sf_X4_at 67 101 (S.1 459) S5) (fun x8 S7 => am_b2 (sf_X0_sizeOf x8 S7) (fun x11 S10 =>
    if x11 ≤ x3 then am_b2 (sf_X5_giveZero (S.1 459) S10) (fun o S13 => pr_oC (S.1 459) x3 o S13) else am_b2 (sf_X5_doStep (S.1 459) x3 S10) (fun o S13 => pr_oC (S.1 459) x3 o S13)))))
theorem pr_as12 (o : Option (Int × am_S)) (f : Int → am_S → Option am_S) (g : am_S → Option am_S) : am_b1 (am_b2 o f) g = am_b2 o (fun x S => am_b1 (f x S) g) := by cases o <;> rfl
theorem pr_as11 (o : Option am_S) (f : am_S → Option am_S) (g : am_S → Option am_S) : am_b1 (am_b1 o f) g = am_b1 o (fun S => am_b1 (f S) g) := by cases o <;> rfl
theorem pr_asif (c : Prop) [Decidable c] (x y : Option am_S) (g : am_S → Option am_S) : am_b1 (if c then x else y) g = if c then am_b1 x g else am_b1 y g := by split <;> rfl
theorem pr_goOn_s (fu : Nat) (i : Int) (S : am_S) : sf_X5_goOn_7 (fu + 1) i S = if 1000000 ≤ i then some S else if S.1 459 = -1 then some S else am_b1 (pr_itC S) (fun S' => sf_X5_goOn_7 fu (am_w32 (i + 1)) S') := by
  simp only [sf_X5_goOn_7, pr_itC, pr_oC, pr_as12, pr_as11, pr_asif, pr_b1]
theorem pr_itC_pre {Sc Sr : am_S} {a : Nat} {st : List Nat} (X : pr_RX Sc Sr (a :: st)) {f N at' : Nat} (hf : Sc.2 67 a = (f : Int)) (hf10 : f < 10) (hN : am_w32 (Sc.2 55 f) = (N : Int)) (hat : Sc.2 68 a = (at' : Int)) (ha10 : at' ≤ 10) :
    pr_itC Sc = if (N : Int) ≤ (at' : Int) then am_b2 (sf_X5_giveZero (a : Int) (am_sA Sc 68 a ((at' : Int) + 1))) (fun o S13 => pr_oC (a : Int) (at' : Int) o S13) else am_b2 (sf_X5_doStep (a : Int) (at' : Int) (am_sA Sc 68 a ((at' : Int) + 1))) (fun o S13 => pr_oC (a : Int) (at' : Int) o S13) := by
  obtain ⟨p1, p2, p3, p4⟩ := pr_RX_pos X
  unfold pr_itC
  have e68 : ∀ _ : Nat, am_w32 (Sc.2 68 a) = (at' : Int) := fun _ => by rw [hat, pr_w (by omega) (by omega)]
  have e1 : ∀ _ : Nat, am_w32 ((at' : Int) + 1) = (at' : Int) + 1 := fun _ => pr_w (by omega) (by omega)
  have e67 : ∀ _ : Nat, am_w32 ((am_sA Sc 68 a ((at' : Int) + 1)).2 67 a) = (f : Int) := fun _ => by
    show am_w32 (Sc.2 67 a) = (f : Int)
    rw [hf, pr_w (by omega) (by omega)]
  have e55 : ∀ _ : Nat, sf_X0_sizeOf (f : Int) (am_sA Sc 68 a ((at' : Int) + 1)) = some ((N : Int), am_sA Sc 68 a ((at' : Int) + 1)) := fun _ => by
    unfold sf_X0_sizeOf
    rw [pr_atn hf10, pr_b2]
    have : am_w32 ((am_sA Sc 68 a ((at' : Int) + 1)).2 55 f) = (N : Int) := hN
    rw [this]
  rw [p4, pr_atn p3, pr_b2, e68 0, e1 0, pr_putn p3, pr_b1, pr_atn p3, pr_b2, e67 0, e55 0, pr_b2]
theorem pr_go_s {Sc Sr : am_S} {a : Nat} {st : List Nat} (X : pr_RX Sc Sr (a :: st)) {f N at' : Nat} (hf : Sc.2 67 a = (f : Int)) (hf10 : f < 10) (hN : Sr.2 98 f = (N : Int)) (hN10 : N ≤ 10) (hat : Sc.2 68 a = (at' : Int)) (ha10 : at' ≤ 10) {T : Int} (hT : Sr.1 4789 = T) (hT2 : 0 ≤ T ∧ T < 1000000) (fu : Nat) :
    sf_X10_go_0 (fu + 1) Sr = if (N : Int) ≤ (at' : Int) then am_b1 (sf_X10_finish 0 0 0 Sr) (fun S7 => sf_X10_go_0 fu S7) else
      if T + 1 ≤ 200 then am_b1 (sf_X10_does (Sr.2 99 (10 * f + at')) (Sr.2 100 (10 * f + at')) (Sr.2 101 (10 * f + at')) (am_sI (am_sA Sr 117 st.length ((at' : Int) + 1)) 4789 (T + 1))) (fun S3 => sf_X10_go_0 fu S3)
      else am_b1 (sf_X10_fling 0 (-4) (am_sI (am_sA Sr 117 st.length ((at' : Int) + 1)) 4789 (T + 1))) (fun S5 => sf_X10_go_0 fu S5) := by
  obtain ⟨p1, p2, p3, p4⟩ := pr_RX_pos X
  obtain ⟨f1, f2, f3, f4, -⟩ := X.1.1
  have hd110 : st.length < 110 := by omega
  have e16 : Sr.2 116 st.length = (f : Int) := f2.trans hf
  have e17 : Sr.2 117 st.length = (at' : Int) := f4.trans hat
  have e1 : ∀ _ : Nat, am_w32 ((at' : Int) + 1) = (at' : Int) + 1 := fun _ => pr_w (by omega) (by omega)
  have eT : ∀ _ : Nat, am_w32 (T + 1) = T + 1 := fun _ => pr_w (by omega) (by omega)
  have ek : ∀ _ : Nat, am_w32 (am_w32 (10 * (f : Int)) + (at' : Int)) = ((10 * f + at' : Nat) : Int) := fun _ => by
    rw [pr_w (x := 10 * (f : Int)) (by omega) (by omega), pr_w (by omega) (by omega)]; omega
  simp only [sf_X10_go_0]
  have hneg : ¬ (st.length : Int) < 0 := by omega
  rw [p1, if_neg hneg, pr_gdn hd110, pr_gdn hd110, Int.toNat_natCast, e16, pr_gdn hf10, Int.toNat_natCast, hN, e17]
  by_cases h : (N : Int) ≤ (at' : Int)
  · rw [if_pos h, if_neg (by omega)]
  · have h' : (at' : Int) < (N : Int) := by omega
    have hk : 10 * f + at' < 100 := by omega
    rw [if_neg h, if_pos h', pr_gdn hd110, pr_gdn hd110, pr_let, e1 0, pr_let]
    have eS : (am_sA Sr 117 st.length ((at' : Int) + 1)).1 4789 = T := hT
    rw [eS, eT 0, pr_In, ek 0, pr_gdn hk, pr_gdn hk, pr_gdn hk, Int.toNat_natCast]; rfl
/-- a STEP THROWS -/
theorem pr_mv_throw {B dn : Int} {C1 R1 : am_S} {a at' : Nat} {st : List Nat} (Z : pr_Y B C1 R1) (hB : B + 1 < 2000000000) (X : pr_RX C1 R1 (a :: st)) (hd : pr_dn dn C1 R1 (a :: st)) (hp : C1.2 68 a = (at' : Int) + 1) {T1 W : Int} {μ : Nat} (t1 : C1.1 461 = T1) (t2 : R1.1 4789 = T1) (t3 : 0 ≤ T1)
    (h1 : (200 - T1).toNat * 24 + (12 - at') + pr_sum C1 st ≤ μ) (h2 : T1 + (μ : Int) ≤ W + 1) (hat : at' ≤ 9) {s n : Int} (hv : pr_VV (R1.1 4745) s n) :
    ∃ Sc' Sr', pr_oC (a : Int) (at' : Int) 2 (am_sA C1 69 a (pr_V s n)) = some Sc' ∧ sf_X10_fling s n R1 = some Sr' ∧ pr_o1 (B + 1) dn μ W Sc' Sr' := by
  obtain ⟨R, g1, g2, g3, g4, g5, g6⟩ := pr_throw Z X hp hv
  have hna := X.1.2.1
  have hev : pr_oC (a : Int) (at' : Int) 2 (am_sA C1 69 a (pr_V s n)) = am_b2 (sf_X5_leaveTry (a : Int) (at' : Int) (am_sA C1 69 a (pr_V s n))) (fun x S18 => if x = 0 then sf_X5_end (a : Int) 2 S18 else some S18) := by
    unfold pr_oC
    rw [if_neg (by decide), if_neg (by decide), if_pos rfl]
  rw [hev, g2, g3]
  have hd2 : pr_dn dn (am_sA C1 69 a (pr_V s n)) (am_sA (am_sA R1 118 st.length s) 119 st.length n) (a :: st) := hd
  by_cases hR : R = -1
  · rw [if_pos hR, if_pos hR]
    obtain ⟨Sc', Sr', e1, e2, e3, e4, e5, e6⟩ := pr_end (how := 2) (s := s) (n := n) g4 hB g5 hd2 (Or.inr rfl) (fun _ _ => ⟨rfl, rfl, rfl, rfl⟩) rfl rfl (am_up_self _ _ _) hv
    have e2' : sf_X10_finish 1 s n (am_sA (am_sA R1 118 st.length s) 119 st.length n) = some Sr' := e2
    refine ⟨Sc', Sr', ?_, ?_, ?_⟩
    · rw [pr_b2, if_pos rfl]; exact e1
    · rw [e2', pr_b1]
    · rcases e6 with ⟨q1, q2, q3, q4⟩ | ⟨q1, q2, q3, q4, q5⟩
      · refine Or.inl ⟨st, T1, q2, q3, q4, e3.trans t1, e4.trans t2, t3, ?_, ?_⟩
        · have : pr_sum Sc' st = pr_sum C1 st := pr_sum_congr (fun b hb => by rw [e5]; rfl)
          unfold pr_mu
          rw [this]; omega
        · have : pr_sum Sc' st = pr_sum C1 st := pr_sum_congr (fun b hb => by rw [e5]; rfl)
          unfold pr_mu
          rw [this]; omega
      · exact Or.inr ⟨q3, q4, q5⟩
  · rw [if_neg hR, if_neg hR]
    obtain ⟨q1, q2⟩ := g6 hR
    have hRb : (at' : Int) + 2 ≤ R ∧ R ≤ 10 := by rcases g1 with h | h; exact absurd h hR; exact h
    refine ⟨_, _, by rw [pr_b2, if_neg (by decide)], rfl, Or.inl ⟨a :: st, T1, pr_Y_mono q1 (by omega) hB, q2, hd, t1, t2, t3, ?_, ?_⟩⟩
    · have e1 : (am_sA (am_sA C1 69 a (pr_V s n)) 68 a R).2 68 a = R := am_up_self _ _ _
      have e2 : pr_sum (am_sA (am_sA C1 69 a (pr_V s n)) 68 a R) st = pr_sum C1 st := pr_sum_congr (fun b hb => am_up_ne _ _ (fun e => hna (e ▸ hb)))
      show (200 - T1).toNat * 24 + ((12 - ((am_sA (am_sA C1 69 a (pr_V s n)) 68 a R).2 68 a).toNat) + pr_sum (am_sA (am_sA C1 69 a (pr_V s n)) 68 a R) st) < μ
      rw [e1, e2]; omega
    · have e1 : (am_sA (am_sA C1 69 a (pr_V s n)) 68 a R).2 68 a = R := am_up_self _ _ _
      have e2 : pr_sum (am_sA (am_sA C1 69 a (pr_V s n)) 68 a R) st = pr_sum C1 st := pr_sum_congr (fun b hb => am_up_ne _ _ (fun e => hna (e ▸ hb)))
      show T1 + (((200 - T1).toNat * 24 + ((12 - ((am_sA (am_sA C1 69 a (pr_V s n)) 68 a R).2 68 a).toNat) + pr_sum (am_sA (am_sA C1 69 a (pr_V s n)) 68 a R) st) : Nat) : Int) ≤ W
      rw [e1, e2]; omega
/-- a FUNCTION GIVES -/
theorem pr_mv_give {B dn : Int} {C0 C1 R1 : am_S} {a at' : Nat} {st : List Nat} (Z : pr_Y B C1 R1) (hB : B + 1 < 2000000000) (X : pr_RX C0 R1 (a :: st)) (hd : pr_dn dn C1 R1 (a :: st)) {T1 W : Int} {μ : Nat} (t1 : C1.1 461 = T1) (t2 : R1.1 4789 = T1) (t3 : 0 ≤ T1)
    (h1 : (200 - T1).toNat * 24 + (12 - at') + pr_sum C1 st ≤ μ) (h2 : T1 + (μ : Int) ≤ W + 1) (hat : at' ≤ 10) {s n : Int}
    (hq : ∀ b, b ≠ a → C1.2 67 b = C0.2 67 b ∧ C1.2 68 b = C0.2 68 b ∧ C1.2 69 b = C0.2 69 b ∧ C1.2 70 b = C0.2 70 b) (h70 : C1.2 70 = C0.2 70) (h71 : C1.2 71 = C0.2 71) (f6 : C1.2 69 a = pr_V s n) (hv : pr_VV (R1.1 4745) s n) :
    ∃ Sc' Sr', pr_oC (a : Int) (at' : Int) 1 C1 = some Sc' ∧ sf_X10_finish 0 s n R1 = some Sr' ∧ pr_o1 (B + 1) dn μ W Sc' Sr' := by
  obtain ⟨Sc', Sr', e1, e2, e3, e4, e5, e6⟩ := pr_end (how := 1) (s := s) (n := n) Z hB X hd (Or.inl rfl) hq h70 h71 f6 hv
  have e2' : sf_X10_finish 0 s n R1 = some Sr' := e2
  refine ⟨Sc', Sr', ?_, e2', ?_⟩
  · unfold pr_oC
    rw [if_neg (by decide), if_pos rfl]; exact e1
  · have hsum : pr_sum Sc' st = pr_sum C1 st := pr_sum_congr (fun b hb => by rw [e5])
    rcases e6 with ⟨q1, q2, q3, q4⟩ | ⟨q1, q2, q3, q4, q5⟩
    · refine Or.inl ⟨st, T1, q2, q3, q4, e3.trans t1, e4.trans t2, t3, ?_, ?_⟩
      · unfold pr_mu
        rw [hsum]; omega
      · unfold pr_mu
        rw [hsum]; omega
    · exact Or.inr ⟨q3, q4, q5⟩
/-- the FUNCTION on top goes on -/
theorem pr_mv_stay {B dn : Int} {C R : am_S} {a at' : Nat} {st : List Nat} (Z : pr_Y B C R) (X : pr_RX C R (a :: st)) (hd : pr_dn dn C R (a :: st)) {T1 W : Int} {μ : Nat} (t1 : C.1 461 = T1) (t2 : R.1 4789 = T1) (t3 : 0 ≤ T1)
    (h1 : (200 - T1).toNat * 24 + 24 + (12 - at') + pr_sum C st ≤ μ) (h2 : T1 + (μ : Int) ≤ W + 1) (hat : at' ≤ 10) : pr_oC (a : Int) (at' : Int) 0 C = some C ∧ pr_o1 B dn μ W C R := by
  refine ⟨?_, Or.inl ⟨a :: st, T1, Z, X, hd, t1, t2, t3, ?_, ?_⟩⟩
  · unfold pr_oC
    rw [if_neg (by decide), if_neg (by decide), if_neg (by decide)]
  · show (200 - T1).toNat * 24 + ((12 - (C.2 68 a).toNat) + pr_sum C st) < μ
    omega
  · show T1 + (((200 - T1).toNat * 24 + ((12 - (C.2 68 a).toNat) + pr_sum C st) : Nat) : Int) ≤ W
    omega
