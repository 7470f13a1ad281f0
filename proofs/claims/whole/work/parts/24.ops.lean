/-! single steps of the relation of PROMISES and JOBS -/
theorem pr_JK_pd {Sc Sr Sc' Sr' : am_S} {m m' : Int} {k p : Nat} (h : pr_JK Sc Sr m k p) (hm : m ≤ m')
    (e84 : Sr'.2 84 k = Sr.2 84 k) (e87 : Sr'.2 87 k = Sr.2 87 k) (e88 : Sr'.2 88 k = Sr.2 88 k) (e89 : Sr'.2 89 k = Sr.2 89 k)
    (e85 : Sr.2 84 k = 5 → Sr.2 85 k = -1 → Sr'.2 85 k = -1 ∧ Sr'.2 90 k = Sr.2 90 k ∧ Sr'.2 91 k = Sr.2 91 k ∧ Sr'.2 92 k = Sr.2 92 k)
    (e72 : Sr.2 84 k = 1 → Sc'.2 72 p = Sc.2 72 p ∧ Sc'.2 73 p = Sc.2 73 p) (e46 : Sr.2 84 k = 5 → Sc'.2 46 p = Sc.2 46 p)
    (e81 : Sr.2 84 k = 2 ∨ Sr.2 84 k = 5 → Sr'.2 81 p = Sr.2 81 p) (e78 : Sr.2 84 k = 2 → Sr'.2 78 p = Sr.2 78 p) (e83 : Sr.2 84 k = 4 → Sc'.2 71 p = Sc.2 71 p)
    (e75 : Sr.2 84 k = 5 → Sr'.2 75 p = Sr.2 75 p) : pr_JK Sc' Sr' m' k p := by
  unfold pr_JK at h ⊢
  rw [e84, e87, e88, e89]
  rcases h with ⟨a1, a2, a3, a4, a5⟩ | ⟨a1, a2, a3, a4, a5⟩ | ⟨a1, a2, a3, a4⟩ | ⟨a1, a2, a3⟩ | ⟨a1, a2, a3, a4, a5, a6, a7, a8, a9⟩
  · have := e72 a1
    exact Or.inl ⟨a1, a2, by rw [this.1]; exact a3, by rw [this.2]; exact a4, a5⟩
  · exact Or.inr (Or.inl ⟨a1, a2, by rw [e81 (Or.inl a1)]; exact a3, by rw [e78 a1]; exact a4, a5⟩)
  · exact Or.inr (Or.inr (Or.inl ⟨a1, a2, a3, a4⟩))
  · exact Or.inr (Or.inr (Or.inr (Or.inl ⟨a1, a2, by rw [e83 a1]; exact a3⟩)))
  · obtain ⟨b1, b2, b3, b4⟩ := e85 a1 a5
    refine Or.inr (Or.inr (Or.inr (Or.inr ⟨a1, a2, by rw [e81 (Or.inr a1)]; exact a3, by rw [e75 a1]; exact a4, b1, by rw [b2]; exact a6, by rw [e46 a1, b3, b4]; exact a7, by rw [b3, b4]; exact pr_VV_mono a8 hm, by rw [b3]; exact a9⟩)))
/-- a KEY is used -/
theorem pr_use {B : Int} {Sc Sr : am_S} {KS : Int → List Nat} (R : pr_RB B Sc Sr KS) {p : Nat} (hfree : ∀ k, pr_live Sr k → Sr.2 84 k = 2 → Sr.2 87 k ≠ (p : Int)) : pr_RB B (am_sA Sc 44 p 1) (am_sA Sr 81 p 1) KS := by
  refine pr_RB_of R rfl rfl rfl rfl rfl rfl rfl rfl rfl rfl rfl rfl rfl rfl rfl rfl (fun q hq h => ?_) (fun k hk hJ hO => ⟨?_, hO⟩) (fun _ _ _ => rfl)
  · obtain ⟨h1, h2, h3, h4, h5, h6, h7, h8, h9⟩ := h
    by_cases e : q = p
    · subst e
      have e44 : (am_sA Sc 44 q 1).2 44 q = 1 := am_up_self _ _ _
      have e81 : (am_sA Sr 81 q 1).2 81 q = 1 := am_up_self _ _ _
      exact ⟨h1, h2, fun h => ⟨(h3 h).1, (h3 h).2.1, (h3 h).2.2.1, e81⟩, h4, h5, h6, by rw [e44, e81], Or.inr e81, h9⟩
    · have e44 : (am_sA Sc 44 p 1).2 44 q = Sc.2 44 q := am_up_ne _ _ e
      have e81 : (am_sA Sr 81 p 1).2 81 q = Sr.2 81 q := am_up_ne _ _ e
      exact ⟨h1, h2, fun h => ⟨(h3 h).1, (h3 h).2.1, (h3 h).2.2.1, by rw [e81]; exact (h3 h).2.2.2⟩, h4, h5, h6, by rw [e44, e81]; exact h7, by rw [e81]; exact h8, h9⟩
  · obtain ⟨q, hq, j⟩ := hJ
    by_cases e : q = p
    · subst e
      refine ⟨q, hq, ?_⟩
      have e81 : (am_sA Sr 81 q 1).2 81 q = 1 := am_up_self _ _ _
      rcases j with a | ⟨a1, a2, -⟩ | a | a | ⟨a1, a2, a3, a4⟩
      · exact Or.inl a
      · exact absurd a2 (hfree k hk a1)
      · exact Or.inr (Or.inr (Or.inl a))
      · exact Or.inr (Or.inr (Or.inr (Or.inl a)))
      · exact Or.inr (Or.inr (Or.inr (Or.inr ⟨a1, a2, e81, a4⟩)))
    · exact ⟨q, hq, pr_JK_pd j (Int.le_refl _) rfl rfl rfl rfl (fun _ h => ⟨h, rfl, rfl, rfl⟩) (fun _ => ⟨rfl, rfl⟩) (fun _ => rfl) (fun _ => am_up_ne _ _ e) (fun _ => rfl) (fun _ => rfl) (fun _ => rfl)⟩
/-- one has waited for p -/
theorem pr_mark {B : Int} {Sc Sr : am_S} {KS : Int → List Nat} (R : pr_RB B Sc Sr KS) (p : Nat) : pr_RB B (am_sA Sc 45 p 1) (am_sA Sr 82 p 1) KS := by
  refine pr_RB_of R rfl rfl rfl rfl rfl rfl rfl rfl rfl rfl rfl rfl rfl rfl rfl rfl (fun q hq h => ?_) (fun k hk hJ hO => ⟨hJ, hO⟩) (fun _ _ _ => rfl)
  obtain ⟨h1, h2, h3, h4, h5, h6, h7, h8, h9, h10⟩ := h
  by_cases e : q = p
  · subst e
    have e44 : (am_sA Sc 45 q 1).2 45 q = 1 := am_up_self _ _ _
    have e81 : (am_sA Sr 82 q 1).2 82 q = 1 := am_up_self _ _ _
    exact ⟨h1, h2, h3, h4, h5, h6, h7, h8, by rw [e44, e81], Or.inr e81⟩
  · have e44 : (am_sA Sc 45 p 1).2 45 q = Sc.2 45 q := am_up_ne _ _ e
    have e81 : (am_sA Sr 82 p 1).2 82 q = Sr.2 82 q := am_up_ne _ _ e
    exact ⟨h1, h2, h3, h4, h5, h6, h7, h8, by rw [e44, e81]; exact h9, by rw [e81]; exact h10⟩
/-- the FUNCTION of p stops (1) or goes on (0) -/
theorem pr_halt {B : Int} {Sc Sr : am_S} {KS : Int → List Nat} (R : pr_RB B Sc Sr KS) {p : Nat} (hp : (p : Int) < Sr.1 4745) {v : Int} (hv : v = 0 ∨ v = 1) (hfree : v = 0 → ∀ k, pr_live Sr k → Sr.2 84 k = 4 → Sr.2 87 k ≠ (p : Int)) : pr_RB B (am_sA Sc 71 p v) Sr KS := by
  refine pr_RB_of R rfl rfl rfl rfl rfl rfl rfl rfl rfl rfl rfl rfl rfl rfl rfl rfl (fun q hq h => h) (fun k hk hJ hO => ⟨?_, hO⟩) (fun q hq _ => ?_)
  · obtain ⟨q, hq, j⟩ := hJ
    by_cases e : q = p
    · subst e
      refine ⟨q, hq, ?_⟩
      have e83 : (am_sA Sc 71 q v).2 71 q = v := am_up_self _ _ _
      rcases j with a | a | a | ⟨a1, a2, a3⟩ | a
      · exact Or.inl a
      · exact Or.inr (Or.inl a)
      · exact Or.inr (Or.inr (Or.inl a))
      · rcases hv with hv | hv
        · exact absurd a2 (hfree hv k hk a1)
        · exact Or.inr (Or.inr (Or.inr (Or.inl ⟨a1, a2, by rw [e83]; exact hv⟩)))
      · exact Or.inr (Or.inr (Or.inr (Or.inr a)))
    · exact ⟨q, hq, pr_JK_pd j (Int.le_refl _) rfl rfl rfl rfl (fun _ h => ⟨h, rfl, rfl, rfl⟩) (fun _ => ⟨rfl, rfl⟩) (fun _ => rfl) (fun _ => rfl) (fun _ => rfl) (fun _ => am_up_ne _ _ e) (fun _ => rfl)⟩
  · exact am_up_ne _ _ (by omega)
/-- a further KEY -/
theorem pr_key {B : Int} {Sc Sr : am_S} {KS : Int → List Nat} (R : pr_RB B Sc Sr KS) {p : Nat} (hp : (p : Int) < Sr.1 4745) {v : Int} (hv : v = Sr.2 78 p + 1) (hh : Sr.2 75 p = 0) (hb : B + 1 < 2000000000) (hfree : ∀ k, pr_live Sr k → Sr.2 84 k = 2 ∨ Sr.2 84 k = 5 → Sr.2 87 k ≠ (p : Int)) : pr_RB (B + 1) (am_sA (am_sA Sc 43 p v) 44 p 0) (am_sA (am_sA Sr 78 p v) 81 p 0) KS := by
  have R2 := pr_RB_mono R (B2 := B + 1) (by omega) hb
  have hkB : Sr.2 78 p ≤ B ∧ 0 ≤ Sr.2 78 p := by
    obtain ⟨h1, h2, h3, h4, h5, h6, h7⟩ := R.2.2.2.1 p hp
    exact ⟨h6, h5⟩
  refine pr_RB_of R2 rfl rfl rfl rfl rfl rfl rfl rfl rfl rfl rfl rfl rfl rfl rfl rfl (fun q hq h => ?_) (fun k hk hJ hO => ⟨?_, hO⟩) (fun _ _ _ => rfl)
  · obtain ⟨h1, h2, h3, h4, h5, h6, h7, h8, h9⟩ := h
    by_cases e : q = p
    · subst e
      have e43 : (am_sA (am_sA Sc 43 q v) 44 q 0).2 43 q = v := am_up_self _ _ _
      have e78 : (am_sA (am_sA Sr 78 q v) 81 q 0).2 78 q = v := am_up_self _ _ _
      have e44 : (am_sA (am_sA Sc 43 q v) 44 q 0).2 44 q = 0 := am_up_self _ _ _
      have e81 : (am_sA (am_sA Sr 78 q v) 81 q 0).2 81 q = 0 := am_up_self _ _ _
      exact ⟨h1, h2, fun h => absurd hh h, by rw [e43, e78], by rw [e78]; omega, by rw [e78]; omega, by rw [e44, e81], Or.inl e81, h9⟩
    · have e43 : (am_sA (am_sA Sc 43 p v) 44 p 0).2 43 q = Sc.2 43 q := am_up_ne _ _ e
      have e78 : (am_sA (am_sA Sr 78 p v) 81 p 0).2 78 q = Sr.2 78 q := am_up_ne _ _ e
      have e44 : (am_sA (am_sA Sc 43 p v) 44 p 0).2 44 q = Sc.2 44 q := am_up_ne _ _ e
      have e81 : (am_sA (am_sA Sr 78 p v) 81 p 0).2 81 q = Sr.2 81 q := am_up_ne _ _ e
      exact ⟨h1, h2, fun h => ⟨(h3 h).1, (h3 h).2.1, (h3 h).2.2.1, by rw [e81]; exact (h3 h).2.2.2⟩, by rw [e43, e78]; exact h4, by rw [e78]; exact h5, by rw [e78]; exact h6, by rw [e44, e81]; exact h7, by rw [e81]; exact h8, h9⟩
  · obtain ⟨q, hq, j⟩ := hJ
    by_cases e : q = p
    · subst e
      refine ⟨q, hq, ?_⟩
      rcases j with a | ⟨a1, a2, -⟩ | a | a | ⟨a1, a2, a3, a4⟩
      · exact Or.inl a
      · exact absurd a2 (hfree k hk (Or.inl a1))
      · exact Or.inr (Or.inr (Or.inl a))
      · exact Or.inr (Or.inr (Or.inr (Or.inl a)))
      · exact absurd a2 (hfree k hk (Or.inr a1))
    · exact ⟨q, hq, pr_JK_pd j (Int.le_refl _) rfl rfl rfl rfl (fun _ h => ⟨h, rfl, rfl, rfl⟩) (fun _ => ⟨rfl, rfl⟩) (fun _ => rfl) (fun _ => am_up_ne _ _ e) (fun _ => am_up_ne _ _ e) (fun _ => rfl) (fun _ => rfl)⟩
/-- settled: all that waits for it becomes JOBS -/
theorem pr_settle {B : Int} {Sc Sr : am_S} {KS : Int → List Nat} (R : pr_RB B Sc Sr KS) {p : Nat} (hp : (p : Int) < Sr.1 4745) {o s n : Int} (ho : o = 1 ∧ s = 0 ∨ o = 2) (hv : pr_VV (Sr.1 4745) s n) (hh : Sr.2 75 p = 0) (hu : Sr.2 81 p = 1) (hfree : ∀ k, pr_live Sr k → Sr.2 84 k = 5 → Sr.2 87 k ≠ (p : Int)) :
    ∃ Sc' Sr', sf_X3_settleBy_141 (p : Int) (pr_V s n) (p : Int) (am_sA Sc 41 p o) = some Sc' ∧ sf_X10_settle (p : Int) o s n Sr = some Sr' ∧ pr_RB B Sc' Sr' (pr_moved KS (p : Int))
      ∧ pr_out [76, 77, 78] [41, 42, 47, 50] Sc Sc' ∧ pr_out [4755] [75, 76, 77, 85, 86, 90, 91, 92] Sr Sr' ∧ (∀ q, q ≠ p → Sr'.2 75 q = Sr.2 75 q) := by
  have R0 := R
  obtain ⟨r1, r2, r3, r4, r5, r6, r7, r8, r9, r10⟩ := R
  have hp100 : p < 100 := by omega
  have hpm : (p : Int) ≠ -1 := by omega
  have LQ := pr_RB_list R0 (-1)
  have Lp := pr_RB_list R0 (p : Int)
  have Cp := r6 p hp
  have hlen8 : ((KS (p : Int)).map (pr_jb Sr)).length ≤ 800 := Lp.2.2
  have hlenp : (KS (p : Int)).length ≤ 800 := pr_TB_len r3 _
  -- the class
  obtain ⟨S4, g1, g2, g3, g4⟩ := pr_lineUp (S := am_sA (am_sA Sc 41 p o) 42 p (pr_V s n)) (Q := (KS (-1)).map (pr_jb Sr)) (l := (KS (p : Int)).map (pr_jb Sr)) (a1 := am_w32 (Sc.2 48 p)) (a2 := am_w32 (Sc.2 49 p)) (a3 := am_w32 (Sc.2 47 p)) r5 Cp.2.2.2
    (fun b hb => by
      have hm : b < 900 := Lp.2.1 b (List.mem_of_mem_head? hb)
      rw [Cp.2.1 b hb, pr_w (by omega) (by omega)])
    (fun b hb => by
      have hm : b < 900 := Lp.2.1 b (List.mem_of_getLast? hb)
      rw [Cp.2.2.1 b hb, pr_w (by omega) (by omega)])
    (by rw [Cp.1, pr_w (by omega) (by omega)]) LQ.2.1 LQ.1 (pr_RB_disj R0 (fun e => hpm e.symm)) (by have := LQ.2.2; omega)
  have hc : sf_X3_settleBy_141 (p : Int) (pr_V s n) (p : Int) (am_sA Sc 41 p o) = some (am_sA S4 47 p 0) := by
    unfold sf_X3_settleBy_141
    rw [pr_putn hp100, pr_b1, pr_atn hp100, pr_b2, pr_atn hp100, pr_b2, pr_atn hp100, pr_b2]
    have e48 : (am_sA (am_sA Sc 41 p o) 42 p (pr_V s n)).2 48 p = Sc.2 48 p := rfl
    have e49 : (am_sA (am_sA Sc 41 p o) 42 p (pr_V s n)).2 49 p = Sc.2 49 p := rfl
    have e47 : (am_sA (am_sA Sc 41 p o) 42 p (pr_V s n)).2 47 p = Sc.2 47 p := rfl
    rw [e48, e49, e47, g1, pr_b1, pr_putn hp100, pr_b1]
  -- the reference
  obtain ⟨S', t1, t2, t3, t4, t5, t6, t7⟩ := pr_settle_loop (p : Int) (by omega) o s n (KS (p : Int)) 1000 (am_sA (am_sA (am_sA Sr 75 p o) 76 p s) 77 p n) KS (pr_TB_same r3 rfl rfl rfl (Int.le_refl _)) rfl (by omega) r9.1 (by
    show Sr.1 4755 + ((KS (p : Int)).length : Int) < 2147483647
    have := r9.2
    omega)
  have T3 : pr_TB (am_sA (am_sA (am_sA Sr 75 p o) 76 p s) 77 p n) KS := pr_TB_same r3 rfl rfl rfl (Int.le_refl _)
  have hr : sf_X10_settle (p : Int) o s n Sr = some S' := by
    unfold sf_X10_settle
    simp only [pr_gdn hp100, pr_let, Int.toNat_natCast]
    rw [pr_firstOn T3, pr_b2]; exact t1
  have hWe : pr_W (am_sA (am_sA (am_sA Sr 75 p o) 76 p s) 77 p n) = pr_W Sr := pr_W_congr rfl rfl
  rw [hWe] at t5
  have hout : pr_out [4755] [75, 76, 77, 85, 86, 90, 91, 92] Sr S' := by
    refine pr_out_trans (pr_out_sA (pr_out_sA (pr_out_sA (pr_out_refl Sr) ?_) ?_) ?_) (pr_out_mono t3 ?_ ?_) <;> decide
  have houtc : pr_out [76, 77, 78] [41, 42, 47, 50] Sc (am_sA S4 47 p 0) := by
    refine pr_out_sA (pr_out_trans (pr_out_sA (pr_out_sA (pr_out_refl Sc) ?_) ?_) (pr_out_mono g3 ?_ ?_)) ?_ <;> decide
  have e75 : S'.2 75 = am_up (Sr.2 75) p o := t3.2 75 (by decide)
  have e76 : S'.2 76 = am_up (Sr.2 76) p s := t3.2 76 (by decide)
  have e77 : S'.2 77 = am_up (Sr.2 77) p n := t3.2 77 (by decide)
  have e84 : S'.2 84 = Sr.2 84 := hout.2 84 (by decide)
  have e87 : S'.2 87 = Sr.2 87 := hout.2 87 (by decide)
  have e88 : S'.2 88 = Sr.2 88 := hout.2 88 (by decide)
  have e89 : S'.2 89 = Sr.2 89 := hout.2 89 (by decide)
  have e78 : S'.2 78 = Sr.2 78 := hout.2 78 (by decide)
  have e81 : S'.2 81 = Sr.2 81 := hout.2 81 (by decide)
  have e82 : S'.2 82 = Sr.2 82 := hout.2 82 (by decide)
  have e83 : S'.2 83 = Sr.2 83 := hout.2 83 (by decide)
  have em : S'.1 4745 = Sr.1 4745 := hout.1 4745 (by decide)
  have g43 : (am_sA S4 47 p 0).2 43 = Sc.2 43 := houtc.2 43 (by decide)
  have g44 : (am_sA S4 47 p 0).2 44 = Sc.2 44 := houtc.2 44 (by decide)
  have g45 : (am_sA S4 47 p 0).2 45 = Sc.2 45 := houtc.2 45 (by decide)
  have g46 : (am_sA S4 47 p 0).2 46 = Sc.2 46 := houtc.2 46 (by decide)
  have g51 : (am_sA S4 47 p 0).2 51 = Sc.2 51 := houtc.2 51 (by decide)
  have g71 : (am_sA S4 47 p 0).2 71 = Sc.2 71 := houtc.2 71 (by decide)
  have g72 : (am_sA S4 47 p 0).2 72 = Sc.2 72 := houtc.2 72 (by decide)
  have g73 : (am_sA S4 47 p 0).2 73 = Sc.2 73 := houtc.2 73 (by decide)
  have g41 : (am_sA S4 47 p 0).2 41 = am_up (Sc.2 41) p o := g3.2 41 (by decide)
  have g42 : (am_sA S4 47 p 0).2 42 = am_up (Sc.2 42) p (pr_V s n) := g3.2 42 (by decide)
  have g48 : (am_sA S4 47 p 0).2 48 = Sc.2 48 := houtc.2 48 (by decide)
  have g49 : (am_sA S4 47 p 0).2 49 = Sc.2 49 := houtc.2 49 (by decide)
  have g47 : (am_sA S4 47 p 0).2 47 = am_up (S4.2 47) p 0 := rfl
  have g47' : S4.2 47 = Sc.2 47 := g3.2 47 (by decide)
  have hjb : pr_jb S' = pr_jb Sr := funext fun k => pr_jb_congr (by rw [e84]) (by rw [e87]) (by rw [e88]) (by rw [e89])
  have hcd : pr_cd S' = pr_cd Sr := funext fun k => pr_cd_congr (by rw [e84]) (by rw [e87]) (by rw [e88]) (by rw [e89])
  have hlv : ∀ k, pr_live S' k ↔ pr_live Sr k := fun k => by unfold pr_live; rw [e84]
  refine ⟨am_sA S4 47 p 0, S', hc, hr, ⟨?_, by rw [em]; exact r2, t2, ?_, ?_, ?_, ?_, ?_, ?_, ?_⟩, houtc, hout, fun q hq => by rw [e75, am_up_ne _ _ hq]⟩
  · rw [houtc.1 75 (by decide), em]; exact r1
  · rw [em]
    intro q hq
    obtain ⟨h1, h2, h3, h4, h5, h6, h7, h8, h9, h10⟩ := r4 q hq
    unfold pr_PD
    rw [g41, g42, g43, g44, g45, e75, e76, e77, e78, e81, e82]
    by_cases e : q = p
    · subst e
      rw [am_up_self, am_up_self, am_up_self, am_up_self, am_up_self]
      refine ⟨rfl, ?_, fun _ => ⟨rfl, hv, fun h => ?_, hu⟩, h4, h5, h6, h7, h8, h9, h10⟩
      · rcases ho with ⟨h, _⟩ | h
        · exact Or.inr (Or.inl h)
        · exact Or.inr (Or.inr h)
      · rcases ho with ⟨_, h'⟩ | h'
        · exact h'
        · omega
    · rw [am_up_ne _ _ e, am_up_ne _ _ e, am_up_ne _ _ e, am_up_ne _ _ e, am_up_ne _ _ e]
      exact ⟨h1, h2, h3, h4, h5, h6, h7, h8, h9, h10⟩
  · rw [hjb]
    have e : pr_moved KS (p : Int) (-1) = KS (-1) ++ KS (p : Int) := if_pos rfl
    rw [e, List.map_append]
    exact g2
  · rw [em, hjb]
    intro q hq
    have hq1 : (q : Int) ≠ -1 := by omega
    by_cases e : q = p
    · subst e
      have e2 : pr_moved KS (q : Int) (q : Int) = [] := by unfold pr_moved; rw [if_neg hq1, if_pos rfl]
      rw [e2, g47, am_up_self]
      exact ⟨rfl, fun b hb => (by cases hb), fun b hb => (by cases hb), True.intro⟩
    · have e2 : pr_moved KS (p : Int) (q : Int) = KS (q : Int) := by unfold pr_moved; rw [if_neg hq1, if_neg (by omega)]
      rw [e2, g47, am_up_ne _ _ e, g47', g48, g49]
      refine pr_CH_congr (fun a ha => ?_) (r6 q hq)
      exact g4 a (fun hm => pr_RB_disj R0 (q := (q : Int)) (q' := -1) hq1 a ha hm)
  · rw [em]
    intro k hk
    have hk' := (hlv k).mp hk
    obtain ⟨⟨q, hq, j⟩, hO⟩ := r7 k hk'
    have hn1 : Sr.2 85 k = -1 → k ∉ KS (p : Int) := fun h hm => hpm ((pr_RB_live R0 hm).2.symm.trans h)
    refine ⟨⟨q, hq, pr_JK_pd j (Int.le_refl _) (by rw [e84]) (by rw [e87]) (by rw [e88]) (by rw [e89]) (fun _ h => ?_) (fun _ => by rw [g72, g73]; exact ⟨rfl, rfl⟩) (fun _ => by rw [g46]) (fun _ => by rw [e81]) (fun _ => by rw [e78]) (fun _ => by rw [g71]) (fun h => ?_)⟩, ?_⟩
    · obtain ⟨x1, x2, x3, x4⟩ := t6 k (hn1 h)
      exact ⟨by rw [x1]; exact h, x2, x3, x4⟩
    · have hne : q ≠ p := fun e => by
        subst e
        have h87 : Sr.2 87 k = (q : Int) := by
          rcases j with ⟨a1, a2, -⟩ | ⟨a1, a2, -⟩ | ⟨a1, a2, -⟩ | ⟨a1, a2, -⟩ | ⟨a1, a2, -⟩ <;> first | exact a2 | omega
        exact hfree k hk' h h87
      rw [e75, am_up_ne _ _ hne]
    · unfold pr_JO
      rw [hjb, e84, g51]
      rcases hO with ⟨q2, a1, a2, a3, a4, a5⟩ | ⟨a1, a2⟩
      · by_cases e : q2 = p
        · subst e
          have hm : k ∈ KS (q2 : Int) := (r3.1 _ _).mpr ⟨hk'.1, hk'.2, a2⟩
          obtain ⟨x1, x2, x3, x4⟩ := t7 k hm
          refine Or.inr ⟨x1, fun _ => ⟨q2, a1, a5, ?_, ?_, ?_, ?_⟩⟩
          · rw [e75, am_up_self]; rcases ho with ⟨h, _⟩ | h <;> omega
          · rw [e75, am_up_self]; exact x2
          · rw [e76, am_up_self]; exact x3
          · rw [e77, am_up_self]; exact x4
        · have hm : k ∉ KS (p : Int) := fun hm => by have := (pr_RB_live R0 hm).2; omega
          obtain ⟨x1, x2, x3, x4⟩ := t6 k hm
          refine Or.inl ⟨q2, a1, by rw [x1]; exact a2, by rw [e75, am_up_ne _ _ e]; exact a3, a4, a5⟩
      · obtain ⟨x1, x2, x3, x4⟩ := t6 k (hn1 a1)
        refine Or.inr ⟨by rw [x1]; exact a1, fun h5 => ?_⟩
        obtain ⟨q2, b1, b2, b3, b4, b5, b6⟩ := a2 h5
        have hne : q2 ≠ p := fun e => by subst e; exact b3 hh
        refine ⟨q2, b1, b2, ?_, ?_, ?_, ?_⟩
        · rw [e75, am_up_ne _ _ hne]; exact b3
        · rw [e75, am_up_ne _ _ hne, x2]; exact b4
        · rw [e76, am_up_ne _ _ hne, x3]; exact b5
        · rw [e77, am_up_ne _ _ hne, x4]; exact b6
  · rw [hcd]
    exact fun k k' hk hk' => r8 k k' ((hlv k).mp hk) ((hlv k').mp hk')
  · have e4 : S'.1 4755 = Sr.1 4755 + ((KS (p : Int)).length : Int) := t4
    rw [e4]
    omega
  · rw [em, g71]; exact r10
