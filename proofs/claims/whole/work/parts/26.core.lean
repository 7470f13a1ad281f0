/-! a new PROMISE; TO RESOLVE, TO REJECT; TO WAIT -/
theorem pr_cd_ow {Sc Sr : am_S} {m : Int} {k p : Nat} (h : pr_JK Sc Sr m k p) : pr_cd Sr k / 8 = p ∧ (pr_cd Sr k % 8 = 0 → Sr.2 84 k = 2 ∨ Sr.2 84 k = 5) ∧ (pr_cd Sr k % 8 = 1 → Sr.2 84 k = 1) ∧ (pr_cd Sr k % 8 = 2 → Sr.2 84 k = 4) ∧ (3 ≤ pr_cd Sr k % 8 → Sr.2 84 k = 3 ∧ Sr.2 88 k = ((pr_cd Sr k % 8 : Nat) : Int) - 3) := by
  unfold pr_cd
  rcases h with ⟨a1, a2, -⟩ | ⟨a1, a2, -⟩ | ⟨a1, a2, a3, a4⟩ | ⟨a1, a2, -⟩ | ⟨a1, a2, -⟩ <;> rw [a1] <;> simp <;> omega
theorem pr_JK_own {Sc Sr : am_S} {m : Int} {k p : Nat} (h : pr_JK Sc Sr m k p) : (Sr.2 84 k = 1 → Sr.2 89 k = (p : Int)) ∧ (Sr.2 84 k ≠ 1 → Sr.2 87 k = (p : Int)) := by
  rcases h with ⟨a1, a2, -⟩ | ⟨a1, a2, -⟩ | ⟨a1, a2, -⟩ | ⟨a1, a2, -⟩ | ⟨a1, a2, -⟩ <;> constructor <;> intro h <;> first | exact a2 | omega
/-- what waits now waited before, or is of sort w0 for p0 -/
def pr_old (Sr Sr' : am_S) (w0 p0 : Int) : Prop :=
  ∀ k, pr_live Sr' k → (Sr'.2 84 k = w0 ∧ (if w0 = 1 then Sr'.2 89 k else Sr'.2 87 k) = p0) ∨ (pr_live Sr k ∧ Sr'.2 84 k = Sr.2 84 k ∧ Sr'.2 87 k = Sr.2 87 k ∧ Sr'.2 88 k = Sr.2 88 k ∧ Sr'.2 89 k = Sr.2 89 k)
theorem pr_old_same {Sr Sr' : am_S} (w0 p0 : Int) (h84 : Sr'.2 84 = Sr.2 84) (h87 : Sr'.2 87 = Sr.2 87) (h88 : Sr'.2 88 = Sr.2 88) (h89 : Sr'.2 89 = Sr.2 89) : pr_old Sr Sr' w0 p0 := by
  intro k hk
  refine Or.inr ⟨⟨hk.1, by rw [← h84]; exact hk.2⟩, by rw [h84], by rw [h87], by rw [h88], by rw [h89]⟩
theorem pr_make {B : Int} {Sc Sr : am_S} {KS : Int → List Nat} (R : pr_RB B Sc Sr KS) (hm : Sr.1 4745 < 100) :
    ∃ Sc' Sr' : am_S, ∃ p : Nat, (p : Int) = Sr.1 4745 ∧ sf_X3_make Sc = some ((p : Int), Sc') ∧ sf_X10_promise Sr = some ((p : Int), Sr') ∧ pr_RB B Sc' Sr' KS ∧ Sr'.1 4745 = Sr.1 4745 + 1
      ∧ pr_out [75] [41, 42, 43, 44, 45, 47] Sc Sc' ∧ pr_out [4745] [75, 78, 81, 82, 83] Sr Sr' ∧ (Sr'.2 75 p = 0 ∧ Sr'.2 78 p = 0 ∧ Sr'.2 81 p = 0 ∧ Sr'.2 83 p = 0 ∧ Sc'.2 71 p = 0)
      ∧ (∀ q, q ≠ p → Sr'.2 75 q = Sr.2 75 q ∧ Sr'.2 78 q = Sr.2 78 q ∧ Sr'.2 81 q = Sr.2 81 q ∧ Sr'.2 83 q = Sr.2 83 q) ∧ (∀ k, pr_live Sr' k → ∀ p', pr_JK Sc' Sr' (Sr'.1 4745) k p' → p' ≠ p) := by
  have R0 := R
  obtain ⟨r1, r2, r3, r4, r5, r6, r7, r8, r9, r10⟩ := R
  obtain ⟨p, hp⟩ : ∃ p : Nat, (p : Int) = Sr.1 4745 := ⟨(Sr.1 4745).toNat, by omega⟩
  have hp100 : p < 100 := by omega
  obtain ⟨v, hv1, hv2, hv3⟩ : ∃ v, v = am_w32 (Sr.1 4745 + 1) ∧ v = Sr.1 4745 + 1 ∧ v = am_w32 (Sc.1 75 + 1) := ⟨_, rfl, pr_w (by omega) (by omega), by rw [r1]⟩
  obtain ⟨Sc', hSc⟩ : ∃ Sc', Sc' = am_sI (am_sA (am_sA (am_sA (am_sA (am_sA (am_sA Sc 41 p 0) 42 p 0) 43 p 0) 44 p 0) 45 p 0) 47 p 0) 75 v := ⟨_, rfl⟩
  obtain ⟨Sr', hSr⟩ : ∃ Sr', Sr' = am_sA (am_sA (am_sA (am_sA (am_sA (am_sI Sr 4745 v) 75 p 0) 78 p 0) 81 p 0) 82 p 0) 83 p 0 := ⟨_, rfl⟩
  have hc : sf_X3_make Sc = some ((p : Int), Sc') := by
    unfold sf_X3_make
    have e75 : Sc.1 75 = (p : Int) := by omega
    simp only [e75, pr_putn hp100, pr_b1, pr_let]
    rw [hSc, hv3]; rfl
  have hr : sf_X10_promise Sr = some ((p : Int), Sr') := by
    unfold sf_X10_promise
    rw [if_neg (by omega)]
    simp only [← hp, pr_gdn hp100, pr_let, Int.toNat_natCast]
    rw [hSr, hv1, ← hp]
  have outc : pr_out [75] [41, 42, 43, 44, 45, 47] Sc Sc' := by
    rw [hSc]
    refine pr_out_sI (pr_out_sA (pr_out_sA (pr_out_sA (pr_out_sA (pr_out_sA (pr_out_sA (pr_out_refl Sc) ?_) ?_) ?_) ?_) ?_) ?_) ?_ <;> decide
  have outr : pr_out [4745] [75, 78, 81, 82, 83] Sr Sr' := by
    rw [hSr]
    refine pr_out_sA (pr_out_sA (pr_out_sA (pr_out_sA (pr_out_sA (pr_out_sI (pr_out_refl Sr) ?_) ?_) ?_) ?_) ?_) ?_ <;> decide
  have em : Sr'.1 4745 = Sr.1 4745 + 1 := by rw [← hv2, hSr]; rfl
  have g41 : Sc'.2 41 = am_up (Sc.2 41) p 0 := by rw [hSc]; rfl
  have g43 : Sc'.2 43 = am_up (Sc.2 43) p 0 := by rw [hSc]; rfl
  have g44 : Sc'.2 44 = am_up (Sc.2 44) p 0 := by rw [hSc]; rfl
  have g45 : Sc'.2 45 = am_up (Sc.2 45) p 0 := by rw [hSc]; rfl
  have g47 : Sc'.2 47 = am_up (Sc.2 47) p 0 := by rw [hSc]; rfl
  have g42 : Sc'.2 42 = am_up (Sc.2 42) p 0 := by rw [hSc]; rfl
  have e75 : Sr'.2 75 = am_up (Sr.2 75) p 0 := by rw [hSr]; rfl
  have e78 : Sr'.2 78 = am_up (Sr.2 78) p 0 := by rw [hSr]; rfl
  have e81 : Sr'.2 81 = am_up (Sr.2 81) p 0 := by rw [hSr]; rfl
  have e82 : Sr'.2 82 = am_up (Sr.2 82) p 0 := by rw [hSr]; rfl
  have e83 : Sr'.2 83 = am_up (Sr.2 83) p 0 := by rw [hSr]; rfl
  have e84 : Sr'.2 84 = Sr.2 84 := outr.2 84 (by decide)
  have e85 : Sr'.2 85 = Sr.2 85 := outr.2 85 (by decide)
  have e86 : Sr'.2 86 = Sr.2 86 := outr.2 86 (by decide)
  have e87 : Sr'.2 87 = Sr.2 87 := outr.2 87 (by decide)
  have e88 : Sr'.2 88 = Sr.2 88 := outr.2 88 (by decide)
  have e89 : Sr'.2 89 = Sr.2 89 := outr.2 89 (by decide)
  have e90 : Sr'.2 90 = Sr.2 90 := outr.2 90 (by decide)
  have e91 : Sr'.2 91 = Sr.2 91 := outr.2 91 (by decide)
  have e92 : Sr'.2 92 = Sr.2 92 := outr.2 92 (by decide)
  have e76 : Sr'.2 76 = Sr.2 76 := outr.2 76 (by decide)
  have e77 : Sr'.2 77 = Sr.2 77 := outr.2 77 (by decide)
  have hjb : pr_jb Sr' = pr_jb Sr := funext fun k => pr_jb_congr (by rw [e84]) (by rw [e87]) (by rw [e88]) (by rw [e89])
  have hcd : pr_cd Sr' = pr_cd Sr := funext fun k => pr_cd_congr (by rw [e84]) (by rw [e87]) (by rw [e88]) (by rw [e89])
  have hlv : ∀ k, pr_live Sr' k ↔ pr_live Sr k := fun k => by unfold pr_live; rw [e84]
  have hKp : KS (p : Int) = [] := by
    cases hK : KS (p : Int) with
    | nil => rfl
    | cons k l =>
      have hl := pr_RB_live R0 (q := (p : Int)) (k := k) (by rw [hK]; exact List.mem_cons_self)
      rcases (r7 k hl.1).2 with ⟨q, h1, h2, -⟩ | ⟨h1, -⟩ <;> omega
  refine ⟨Sc', Sr', p, hp, hc, hr, ⟨?_, by rw [em]; omega, pr_TB_same r3 e84 e85 e86 (by rw [outr.1 4755 (by decide)]; exact Int.le_refl _), ?_, ?_, ?_, ?_, ?_, ?_, ?_⟩, em, outc, outr, ⟨by rw [e75, am_up_self], by rw [e78, am_up_self], by rw [e81, am_up_self], by rw [e83, am_up_self], by rw [outc.2 71 (by decide)]; exact r10 p (by omega) hp100⟩, fun q hq => ⟨by rw [e75, am_up_ne _ _ hq], by rw [e78, am_up_ne _ _ hq], by rw [e81, am_up_ne _ _ hq], by rw [e83, am_up_ne _ _ hq]⟩, fun k hk p' hJ e => ?_⟩
  · rw [em, ← hv2, hSc]; rfl
  · rw [em]
    intro q hq
    unfold pr_PD
    rw [g41, g42, g43, g44, g45, e75, e76, e77, e78, e81, e82]
    by_cases e : q = p
    · subst e
      repeat rw [am_up_self]
      refine ⟨rfl, Or.inl rfl, fun h => absurd rfl h, rfl, Int.le_refl _, ?_, rfl, Or.inl rfl, rfl, Or.inl rfl⟩
      have := r9.2
      omega
    · simp only [am_up_ne _ _ e]
      obtain ⟨h1, h2, h3, h4⟩ := r4 q (by omega)
      exact ⟨h1, h2, fun h => ⟨(h3 h).1, pr_VV_mono (h3 h).2.1 (by omega), (h3 h).2.2⟩, h4⟩
  · rw [outc.1 76 (by decide), outc.1 77 (by decide), outc.1 78 (by decide), outc.2 50 (by decide), hjb]; exact r5
  · rw [em, hjb, outc.2 50 (by decide), outc.2 48 (by decide), outc.2 49 (by decide), g47]
    intro q hq
    by_cases e : q = p
    · subst e
      rw [hKp, am_up_self]
      exact ⟨rfl, fun b hb => (by cases hb), fun b hb => (by cases hb), True.intro⟩
    · rw [am_up_ne _ _ e]; exact r6 q (by omega)
  · rw [em]
    intro k hk
    obtain ⟨⟨q, hq, j⟩, hO⟩ := r7 k ((hlv k).mp hk)
    have hne : q ≠ p := by omega
    refine ⟨⟨q, by omega, pr_JK_pd j (by omega) (by rw [e84]) (by rw [e87]) (by rw [e88]) (by rw [e89]) (fun _ h => ⟨by rw [e85]; exact h, by rw [e90], by rw [e91], by rw [e92]⟩) (fun _ => by rw [outc.2 72 (by decide), outc.2 73 (by decide)]; exact ⟨rfl, rfl⟩) (fun _ => by rw [outc.2 46 (by decide)]) (fun _ => by rw [e81, am_up_ne _ _ hne]) (fun _ => by rw [e78, am_up_ne _ _ hne]) (fun _ => by rw [outc.2 71 (by decide)]) (fun _ => by rw [e75, am_up_ne _ _ hne])⟩, ?_⟩
    unfold pr_JO at hO ⊢
    rw [hjb, e84, e85, e90, e91, e92, e76, e77, outc.2 51 (by decide)]
    rcases hO with ⟨q2, a1, a2, a3, a4, a5⟩ | ⟨a1, a2⟩
    · exact Or.inl ⟨q2, by omega, a2, by rw [e75, am_up_ne _ _ (by omega)]; exact a3, a4, a5⟩
    · refine Or.inr ⟨a1, fun h => ?_⟩
      obtain ⟨q2, b1, b2, b3, b4, b5⟩ := a2 h
      exact ⟨q2, by omega, b2, by rw [e75, am_up_ne _ _ (by omega)]; exact b3, by rw [e75, am_up_ne _ _ (by omega)]; exact b4, b5⟩
  · rw [hcd]
    exact fun k k' hk hk' => r8 k k' ((hlv k).mp hk) ((hlv k').mp hk')
  · rw [outr.1 4755 (by decide), pr_W_congr e84 e85]; exact r9
  · rw [em, outc.2 71 (by decide)]
    exact fun q hq hq2 => r10 q (by omega) hq2
  · subst e
    obtain ⟨⟨q, hq, j⟩, -⟩ := r7 k ((hlv k).mp hk)
    have h1 := pr_JK_own hJ
    have h2 := pr_JK_own j
    rw [e84, e87, e89] at h1
    by_cases hw : Sr.2 84 k = 1
    · have := h1.1 hw
      have := h2.1 hw
      omega
    · have := h1.2 hw
      have := h2.2 hw
      omega
theorem pr_jobOf {p i : Nat} (hp : p < 100) (hi : i < 9) (S : am_S) : sf_X9_jobOf (p : Int) (i : Int) S = some (((9 * p + i : Nat) : Int), S) := by
  unfold sf_X9_jobOf
  rw [pr_w (x := (p : Int) * 9) (by omega) (by omega), pr_w (by omega) (by omega)]
  have : (p : Int) * 9 + (i : Int) = ((9 * p + i : Nat) : Int) := by omega
  rw [this]
theorem pr_has {Sc : am_S} {m : Int} (h : Sc.1 75 = m) (p : Int) : sf_X3_has p Sc = some ((if 0 ≤ p ∧ p < m then 1 else 0), Sc) := by
  unfold sf_X3_has sf_X9_isWithin
  rw [h]
  by_cases h1 : p < 0
  · rw [if_pos h1, pr_b2, pr_gz0, if_neg (by omega)]
  · rw [if_neg h1]
    by_cases h2 : m ≤ p
    · rw [if_pos h2, pr_b2, pr_gz0, if_neg (by omega)]
    · rw [if_neg h2, pr_b2, pr_gz1, if_pos (by omega)]
/-- TO RESOLVE (how 1) or TO REJECT (how 2) p by KEY k -/
theorem pr_settleBy {B : Int} {Sc Sr : am_S} {KS : Int → List Nat} (R : pr_RB B Sc Sr KS) (hB : B + 1 < 2000000000) {p : Nat} (hp : (p : Int) < Sr.1 4745) {how s n k : Int} (hw : how = 1 ∨ how = 2) (hv : pr_VV (Sr.1 4745) s n)
    (hfree : Sr.2 78 p = k → Sr.2 81 p = 0 → ∀ k', pr_live Sr k' → Sr.2 84 k' = 2 ∨ Sr.2 84 k' = 5 → Sr.2 87 k' ≠ (p : Int)) :
    ∃ Sc' Sr' KS', sf_X3_settleBy (p : Int) how (pr_V s n) k Sc = some Sc' ∧ sf_X10_endBy (p : Int) (how - 1) s n k Sr = some Sr' ∧ (how = 1 → sf_X10_resolveBy (p : Int) s n k Sr = some Sr') ∧ (how = 2 → sf_X10_rejectBy (p : Int) s n k Sr = some Sr')
      ∧ pr_RB (B + 1) Sc' Sr' KS' ∧ pr_out [76, 77, 78] [41, 42, 44, 46, 47, 50] Sc Sc' ∧ pr_out [4755] [75, 76, 77, 81, 84, 85, 86, 87, 88, 89, 90, 91, 92] Sr Sr'
      ∧ pr_old Sr Sr' 5 (p : Int) ∧ (∀ q, Sr.2 81 q = 1 → Sr'.2 81 q = 1) ∧ (Sr'.2 78 p = k → Sr'.2 81 p = 1) ∧ Sr.1 4755 ≤ Sr'.1 4755 ∧ (∀ q, q ≠ p → Sr'.2 75 q = Sr.2 75 q) := by
  have R0 := R
  obtain ⟨r1, r2, r3, r4, r5, r6, r7, r8, r9, r10⟩ := R
  have hp100 : p < 100 := by omega
  obtain ⟨d1, d2, d3, d4, d5, d6, d7, d8, d9, d10⟩ := r4 p hp
  have hW0 : (0 : Int) ≤ (pr_W Sr : Int) := by omega
  have w43 : am_w32 (Sc.2 43 p) = Sr.2 78 p := by rw [d4, pr_w (by omega) (by omega)]
  have w44 : am_w32 (Sc.2 44 p) = Sr.2 81 p := by rw [d7, pr_w (by omega) (by omega)]
  have hhas : sf_X3_has (p : Int) Sc = some (1, Sc) := by rw [pr_has r1, if_pos ⟨by omega, hp⟩]
  have henE : ∀ Sr', (how = 1 → sf_X10_resolveBy (p : Int) s n k Sr = some Sr') → (how = 2 → sf_X10_rejectBy (p : Int) s n k Sr = some Sr') → sf_X10_endBy (p : Int) (how - 1) s n k Sr = some Sr' := by
    intro Sr' h1 h2
    unfold sf_X10_endBy
    rcases hw with h | h
    · rw [if_pos (by omega), h1 h, pr_b1]
    · rw [if_neg (by omega), h2 h, pr_b1]
  by_cases hk : Sr.2 78 p = k ∧ Sr.2 81 p = 0
  · obtain ⟨hk1, hk2⟩ := hk
    have hfree := hfree hk1 hk2
    have hh0 : Sr.2 75 p = 0 := by
      rcases Classical.em (Sr.2 75 p = 0) with h | h
      · exact h
      · have := (d3 h).2.2.2; omega
    have R1 := pr_use R0 (p := p) (fun k' h1 h2 => hfree k' h1 (Or.inl h2))
    have hevC : ∀ x, (how = 2 → sf_X3_settleBy_71 (p : Int) (pr_V s n) 0 2 (am_sA Sc 44 p 1) = x) → (how = 1 → s = 1 ∧ n = (p : Int) → sf_X3_settleBy_71 (p : Int) (pr_V s n) 1 2 (am_sA Sc 44 p 1) = x) → (how = 1 → ¬ (s = 1 ∧ n = (p : Int)) → sf_X3_settleBy_71 (p : Int) (pr_V s n) 0 1 (am_sA Sc 44 p 1) = x) → sf_X3_settleBy (p : Int) how (pr_V s n) k Sc = x := by
      intro x h2 h1 h3
      unfold sf_X3_settleBy
      rw [hhas, pr_b2, if_neg (by omega), pr_atn hp100, pr_b2, w43, if_pos hk1.symm]
      have eku : sf_X3_isKeyUsed (p : Int) Sc = some (0, Sc) := by
        unfold sf_X3_isKeyUsed
        rw [pr_atn hp100, pr_b2, w44, if_neg (by omega)]
      rw [eku, pr_b2, if_pos rfl, pr_putn hp100, pr_b1]
      rcases hw with h | h
      · rw [if_pos h, pr_of (by omega), pr_b2]
        by_cases hs : s = 1 ∧ n = (p : Int)
        · rw [if_pos ((pr_cmp0 _ _).mpr ((pr_V_inj hv.1 (by unfold am_r32; omega)).mpr hs))]
          exact h1 h hs
        · rw [if_neg (fun hc => hs ((pr_V_inj hv.1 (by unfold am_r32; omega)).mp ((pr_cmp0 _ _).mp hc))), h]
          exact h3 h hs
      · rw [if_neg (by omega), h]
        exact h2 h
    have htakes : sf_X10_takes (p : Int) k Sr = some (1, am_sA Sr 81 p 1) := by
      unfold sf_X10_takes
      simp only [pr_gdn hp100, pr_let, Int.toNat_natCast]
      rw [if_pos hk1, if_pos hk2]
    have hs111 : ∀ b6 o v S, b6 = 0 → sf_X3_settleBy_111 (p : Int) v b6 o S = sf_X3_settleBy_141 (p : Int) v (p : Int) (am_sA S 41 p o) := by
      intro b6 o v S h6
      unfold sf_X3_settleBy_111
      rw [pr_putn hp100, pr_b1, if_pos h6]
    -- what both ways of settling give
    have fin : ∀ o s' n', (o = 1 ∧ s' = 0 ∨ o = 2) → pr_VV (Sr.1 4745) s' n' → ∃ Sc' Sr' KS', sf_X3_settleBy_141 (p : Int) (pr_V s' n') (p : Int) (am_sA (am_sA Sc 44 p 1) 41 p o) = some Sc' ∧ sf_X10_settle (p : Int) o s' n' (am_sA Sr 81 p 1) = some Sr'
        ∧ pr_RB (B + 1) Sc' Sr' KS' ∧ pr_out [76, 77, 78] [41, 42, 44, 46, 47, 50] Sc Sc' ∧ pr_out [4755] [75, 76, 77, 81, 84, 85, 86, 87, 88, 89, 90, 91, 92] Sr Sr'
        ∧ pr_old Sr Sr' 5 (p : Int) ∧ (∀ q, Sr.2 81 q = 1 → Sr'.2 81 q = 1) ∧ (Sr'.2 78 p = k → Sr'.2 81 p = 1) ∧ Sr.1 4755 ≤ Sr'.1 4755 ∧ (∀ q, q ≠ p → Sr'.2 75 q = Sr.2 75 q) := by
      intro o s' n' ho hv'
      obtain ⟨Sc', Sr', f1, f2, f3, f4, f5, f6⟩ := pr_settle R1 hp ho hv' hh0 (am_up_self _ _ _) (fun k' h1 h2 => hfree k' h1 (Or.inr h2))
      have e81 : Sr'.2 81 = am_up (Sr.2 81) p 1 := f5.2 81 (by decide)
      refine ⟨Sc', Sr', _, f1, f2, pr_RB_mono f3 (by omega) hB, ?_, ?_, ?_, ?_, ?_, ?_, f6⟩
      · refine pr_out_trans (pr_out_sA (pr_out_refl Sc) ?_) (pr_out_mono f4 ?_ ?_) <;> decide
      · refine pr_out_trans (pr_out_sA (pr_out_refl Sr) ?_) (pr_out_mono f5 ?_ ?_) <;> decide
      · exact pr_old_same _ _ (f5.2 84 (by decide)) (f5.2 87 (by decide)) (f5.2 88 (by decide)) (f5.2 89 (by decide))
      · intro q hq
        rw [e81]
        by_cases e : q = p
        · rw [e, am_up_self]
        · rw [am_up_ne _ _ e]; exact hq
      · intro _; rw [e81, am_up_self]
      · have h9 := f3.2.2.1.2.2
        obtain ⟨-, -, -, -, -, -, -, -, q9, -⟩ := f3
        -- the clock only grows: settle's own count
        have T3 : pr_TB (am_sA (am_sA (am_sA (am_sA Sr 81 p 1) 75 p o) 76 p s') 77 p n') KS := pr_TB_same r3 rfl rfl rfl (Int.le_refl _)
        have hl8 : (KS (p : Int)).length ≤ 800 := pr_TB_len r3 _
        obtain ⟨S2, t1, t2, t3, t4, -⟩ := pr_settle_loop (p : Int) (by omega) o s' n' (KS (p : Int)) 1000 (am_sA (am_sA (am_sA (am_sA Sr 81 p 1) 75 p o) 76 p s') 77 p n') KS T3 rfl (by omega) r9.1 (by
          show Sr.1 4755 + ((KS (p : Int)).length : Int) < 2147483647
          have := r9.2
          omega)
        have hr : sf_X10_settle (p : Int) o s' n' (am_sA Sr 81 p 1) = some S2 := by
          unfold sf_X10_settle
          simp only [pr_gdn hp100, pr_let, Int.toNat_natCast]
          rw [pr_firstOn T3, pr_b2]; exact t1
        have e : S2 = Sr' := Option.some.inj (hr.symm.trans f2)
        have t4' : S2.1 4755 = Sr.1 4755 + ((KS (p : Int)).length : Int) := t4
        rw [← e, t4']; omega
    rcases hw with h1 | h2
    · have hrv : ∀ x, (s = 0 → sf_X10_settle (p : Int) 1 s n (am_sA Sr 81 p 1) = some x) → (s = 1 ∧ n = (p : Int) → sf_X10_settle (p : Int) 2 0 (-1) (am_sA Sr 81 p 1) = some x) → (s ≠ 0 → ¬ (s = 1 ∧ n = (p : Int)) → sf_X10_resolveBy_51 (p : Int) s n (am_sA Sr 81 p 1) = some x) → sf_X10_resolveBy (p : Int) s n k Sr = some x := by
        intro x x1 x2 x3
        unfold sf_X10_resolveBy
        rw [htakes, pr_b2, if_neg (by omega)]
        by_cases hs0 : s = 0
        · rw [if_pos hs0, x1 hs0, pr_b1]
        · rw [if_neg hs0]
          by_cases hs1 : s = 1
          · rw [if_pos hs1]
            by_cases hn : n = (p : Int)
            · rw [if_pos hn, x2 ⟨hs1, hn⟩, pr_b1]
            · rw [if_neg hn]; exact x3 hs0 (fun h => hn h.2)
          · rw [if_neg hs1]; exact x3 hs0 (fun h => hs1 h.1)
      by_cases hself : s = 1 ∧ n = (p : Int)
      · obtain ⟨Sc', Sr', KS', f1, f2, f3⟩ := fin 2 0 (-1) (Or.inr rfl) ⟨by unfold am_r32; omega, Or.inl rfl⟩
        have hR := hrv Sr' (fun h => by omega) (fun _ => f2) (fun _ h => absurd hself h)
        refine ⟨Sc', Sr', KS', ?_, henE Sr' (fun _ => hR) (fun h => by omega), fun _ => hR, fun h => by omega, f3⟩
        refine hevC _ (fun h => by omega) (fun _ _ => ?_) (fun _ h => absurd hself h)
        unfold sf_X3_settleBy_71
        rw [if_neg (by omega)]
        unfold sf_X3_settleBy_111
        rw [pr_putn hp100, pr_b1, if_neg (by omega), pr_of (by omega), pr_b2]
        exact f1
      · by_cases hs0 : s = 0
        · obtain ⟨Sc', Sr', KS', f1, f2, f3⟩ := fin 1 s n (Or.inl ⟨rfl, hs0⟩) hv
          have hR := hrv Sr' (fun _ => f2) (fun h => absurd h hself) (fun h => absurd hs0 h)
          refine ⟨Sc', Sr', KS', ?_, henE Sr' (fun _ => hR) (fun h => by omega), fun _ => hR, fun h => by omega, f3⟩
          refine hevC _ (fun h => by omega) (fun _ h => absurd h hself) (fun _ _ => ?_)
          unfold sf_X3_settleBy_71
          rw [if_pos rfl, pr_sortOf (pr_VV_s hv), pr_b2, if_pos hs0, hs111 0 1 _ _ rfl]
          exact f1
        · -- a JOB comes, to ADOPT
          have hfc : ∀ k', pr_live (am_sA Sr 81 p 1) k' → pr_cd (am_sA Sr 81 p 1) k' ≠ p * 8 := by
            intro k' hl e
            obtain ⟨⟨p', hp', j'⟩, -⟩ := R1.2.2.2.2.2.2.1 k' hl
            have ho := pr_cd_ow j'
            have hw' := ho.2.1 (by omega)
            have h87 := (pr_JK_own j').2 (by rcases hw' with h | h <;> omega)
            refine hfree k' hl hw' ?_
            have : p' = p := by omega
            rw [← this]; exact h87
          obtain ⟨kk, hk8, hk0, hen⟩ := pr_enter (S := am_sA Sr 81 p 1) (w := 5) (p := -1) (x := (p : Int)) (y := 0) (z := 0) (pr_RB_free R1 (c0 := p * 8) (by omega) hfc)
          have LQ := pr_RB_list R1 (-1)
          have hjn : 9 * p ∉ (KS (-1)).map (pr_jb (am_sA Sr 81 p 1)) := by
            intro hm
            obtain ⟨k', hk', e⟩ := List.mem_map.mp hm
            have hl := pr_RB_live R1 hk'
            obtain ⟨⟨p', hp', j'⟩, -⟩ := R1.2.2.2.2.2.2.1 k' hl.1
            refine hfc k' hl.1 ?_
            unfold pr_jb at e
            unfold pr_cd
            rcases j' with ⟨a1, a2, -⟩ | ⟨a1, a2, -⟩ | ⟨a1, a2, a3, a4⟩ | ⟨a1, a2, -⟩ | ⟨a1, a2, -⟩ <;> rw [a1] at e ⊢ <;> simp at e ⊢ <;> omega
          obtain ⟨S4, g1, g2, g3, g4⟩ := pr_lineUp (S := am_sA (am_sA Sc 44 p 1) 46 p (pr_V s n)) (Q := (KS (-1)).map (pr_jb (am_sA Sr 81 p 1))) (l := [9 * p]) (a1 := ((9 * p : Nat) : Int)) (a2 := ((9 * p : Nat) : Int)) (a3 := 1) R1.2.2.2.2.1 ⟨fun b hb => (by cases hb), True.intro⟩ (fun b hb => by simp at hb; omega) (fun b hb => by simp at hb; omega) rfl LQ.2.1 LQ.1 (fun x hx hm => hjn (by rw [← List.mem_singleton.mp hm]; exact hx)) (by have := LQ.2.2; simp only [List.length_singleton]; omega)
          have hr51 : sf_X10_resolveBy_51 (p : Int) s n (am_sA Sr 81 p 1) = some (pr_car (pr_ent (am_sA Sr 81 p 1) kk 5 (-1) (p : Int) 0 0) kk 0 s n) := by
            unfold sf_X10_resolveBy_51
            rw [hen, pr_b2, pr_carry hk8, pr_b1]
          have hR := hrv _ (fun h => absurd h hs0) (fun h => absurd h hself) (fun _ _ => hr51)
          have x84 : (pr_car (pr_ent (am_sA Sr 81 p 1) kk 5 (-1) (p : Int) 0 0) kk 0 s n).2 84 = am_up (Sr.2 84) kk 5 := rfl
          have x85 : (pr_car (pr_ent (am_sA Sr 81 p 1) kk 5 (-1) (p : Int) 0 0) kk 0 s n).2 85 = am_up (am_up (Sr.2 85) kk (-1)) kk (-1) := rfl
          have x87 : (pr_car (pr_ent (am_sA Sr 81 p 1) kk 5 (-1) (p : Int) 0 0) kk 0 s n).2 87 = am_up (Sr.2 87) kk (p : Int) := rfl
          have x88 : (pr_car (pr_ent (am_sA Sr 81 p 1) kk 5 (-1) (p : Int) 0 0) kk 0 s n).2 88 = am_up (Sr.2 88) kk 0 := rfl
          have x89 : (pr_car (pr_ent (am_sA Sr 81 p 1) kk 5 (-1) (p : Int) 0 0) kk 0 s n).2 89 = am_up (Sr.2 89) kk 0 := rfl
          have x90 : (pr_car (pr_ent (am_sA Sr 81 p 1) kk 5 (-1) (p : Int) 0 0) kk 0 s n).2 90 = am_up (Sr.2 90) kk 0 := rfl
          have x91 : (pr_car (pr_ent (am_sA Sr 81 p 1) kk 5 (-1) (p : Int) 0 0) kk 0 s n).2 91 = am_up (Sr.2 91) kk s := rfl
          have x92 : (pr_car (pr_ent (am_sA Sr 81 p 1) kk 5 (-1) (p : Int) 0 0) kk 0 s n).2 92 = am_up (Sr.2 92) kk n := rfl
          have x81 : (pr_car (pr_ent (am_sA Sr 81 p 1) kk 5 (-1) (p : Int) 0 0) kk 0 s n).2 81 = am_up (Sr.2 81) p 1 := rfl
          have x75 : (pr_car (pr_ent (am_sA Sr 81 p 1) kk 5 (-1) (p : Int) 0 0) kk 0 s n).2 75 = Sr.2 75 := rfl
          have g46 : S4.2 46 = am_up (Sc.2 46) p (pr_V s n) := g3.2 46 (by decide)
          have hcdk : pr_cd (pr_car (pr_ent (am_sA Sr 81 p 1) kk 5 (-1) (p : Int) 0 0) kk 0 s n) kk = p * 8 := by
            unfold pr_cd
            rw [x84, x87, x88, x89, am_up_self, am_up_self, am_up_self]
            simp; omega
          have hjbk : pr_jb (pr_car (pr_ent (am_sA Sr 81 p 1) kk 5 (-1) (p : Int) 0 0) kk 0 s n) kk = 9 * p := by
            unfold pr_jb
            rw [x84, x87, x88, x89, am_up_self, am_up_self, am_up_self]
            simp; omega
          have RR := pr_addQ R1 hk8 hk0 (Sc' := S4) (w := 5) (q := -1) (a := (p : Int)) (b := 0) (c := 0) (wi := 0) (s := s) (n := n) (by omega) (j := 9 * p) (p := p) hB
            (by
              refine pr_out_trans (pr_out_sA (pr_out_refl _) ?_) (pr_out_mono g3 ?_ ?_) <;> decide) hjbk g2 (fun x hx => g4 x hx)
            (fun k' p' hl h5 h87 => by
              have hne : p' ≠ p := fun e => hfree k' hl (Or.inr h5) (by rw [← e]; exact h87)
              rw [g46, am_up_ne _ _ hne]; rfl) (fun x _ => by rw [g3.2 51 (by decide)]; rfl) hp
            (Or.inr (Or.inr (Or.inr (Or.inr ⟨by rw [x84, am_up_self], by rw [x87, am_up_self], by rw [x81, am_up_self], by rw [x75]; exact hh0, by rw [x85, am_up_self], by rw [x90, am_up_self], by rw [g46, x91, x92, am_up_self, am_up_self, am_up_self], by rw [x91, x92, am_up_self, am_up_self]; exact hv, by rw [x91, am_up_self]; exact hs0⟩))))
            (Or.inr ⟨by rw [x85, am_up_self], fun h => absurd (by rw [x84, am_up_self]) h⟩)
            (fun k' hl => by rw [hcdk]; exact hfc k' hl)
          refine ⟨S4, _, _, ?_, henE _ (fun _ => hR) (fun h => by omega), fun _ => hR, fun h => by omega, RR, ?_, ?_, ?_, ?_, ?_, ?_, fun _ _ => rfl⟩
          · refine hevC _ (fun h => by omega) (fun _ h => absurd h hself) (fun _ _ => ?_)
            unfold sf_X3_settleBy_71
            have hj0 := fun S => pr_jobOf (p := p) (i := 0) hp100 (by omega) S
            have e9 : 9 * p + 0 = 9 * p := by omega
            rw [e9] at hj0
            have hj0' : ∀ S, sf_X9_jobOf (p : Int) 0 S = some (((9 * p : Nat) : Int), S) := hj0
            rw [if_pos rfl, pr_sortOf (pr_VV_s hv), pr_b2, if_neg hs0, pr_putn hp100, pr_b1, hj0', pr_b2, hj0', pr_b2, g1, pr_b1]
          · refine pr_out_trans (pr_out_sA (pr_out_sA (pr_out_refl Sc) ?_) ?_) (pr_out_mono g3 ?_ ?_) <;> decide
          · unfold pr_car pr_ent
            refine pr_out_sA (pr_out_sA (pr_out_sA (pr_out_sA (pr_out_sA (pr_out_sA (pr_out_sA (pr_out_sA (pr_out_sI (pr_out_sA (pr_out_sA (pr_out_sA (pr_out_refl Sr) ?_) ?_) ?_) ?_) ?_) ?_) ?_) ?_) ?_) ?_) ?_) ?_ <;> decide
          · intro k' hk'
            by_cases e : k' = kk
            · subst e
              exact Or.inl ⟨by rw [x84, am_up_self], by rw [if_neg (by omega), x87, am_up_self]⟩
            · exact Or.inr ⟨⟨hk'.1, by have := hk'.2; rw [x84, am_up_ne _ _ e] at this; exact this⟩, by rw [x84, am_up_ne _ _ e], by rw [x87, am_up_ne _ _ e], by rw [x88, am_up_ne _ _ e], by rw [x89, am_up_ne _ _ e]⟩
          · intro q hq
            rw [x81]
            by_cases e : q = p
            · rw [e, am_up_self]
            · rw [am_up_ne _ _ e]; exact hq
          · intro _; rw [x81, am_up_self]
          · have hcl : am_w32 (Sr.1 4755 + 1) = Sr.1 4755 + 1 := pr_w (by omega) (by omega)
            have : (pr_car (pr_ent (am_sA Sr 81 p 1) kk 5 (-1) (p : Int) 0 0) kk 0 s n).1 4755 = am_w32 (Sr.1 4755 + 1) := rfl
            rw [this, hcl]; omega
    · obtain ⟨Sc', Sr', KS', f1, f2, f3⟩ := fin 2 s n (Or.inr rfl) hv
      have hR : sf_X10_rejectBy (p : Int) s n k Sr = some Sr' := by
        unfold sf_X10_rejectBy
        rw [htakes, pr_b2, if_neg (by omega), f2, pr_b1]
      refine ⟨Sc', Sr', KS', ?_, henE Sr' (fun h => by omega) (fun _ => hR), fun h => by omega, fun _ => hR, f3⟩
      refine hevC _ (fun _ => ?_) (fun h => by omega) (fun h => by omega)
      unfold sf_X3_settleBy_71
      rw [if_neg (by omega), hs111 0 2 _ _ rfl]
      exact f1
  · -- in vain
    have ht : sf_X10_takes (p : Int) k Sr = some (0, Sr) := by
      unfold sf_X10_takes
      simp only [pr_gdn hp100, pr_let, Int.toNat_natCast]
      by_cases h1 : Sr.2 78 p = k
      · rw [if_pos h1, if_neg (fun h => hk ⟨h1, h⟩)]
      · rw [if_neg h1]
    have hR1 : sf_X10_resolveBy (p : Int) s n k Sr = some Sr := by
      unfold sf_X10_resolveBy
      rw [ht, pr_b2, if_pos rfl]
    have hR2 : sf_X10_rejectBy (p : Int) s n k Sr = some Sr := by
      unfold sf_X10_rejectBy
      rw [ht, pr_b2, if_pos rfl]
    refine ⟨Sc, Sr, KS, ?_, henE Sr (fun _ => hR1) (fun _ => hR2), fun _ => hR1, fun _ => hR2, pr_RB_mono R0 (by omega) hB, pr_out_refl _, pr_out_refl _, pr_old_same _ _ rfl rfl rfl rfl, fun _ h => h, fun h => ?_, Int.le_refl _, fun _ _ => rfl⟩
    · unfold sf_X3_settleBy
      rw [hhas, pr_b2, if_neg (by omega), pr_atn hp100, pr_b2, w43]
      by_cases h1 : k = Sr.2 78 p
      · rw [if_pos h1]
        have eku : sf_X3_isKeyUsed (p : Int) Sc = some (1, Sc) := by
          unfold sf_X3_isKeyUsed
          have : Sr.2 81 p = 1 := by rcases d8 with h | h; exact absurd ⟨h1.symm, h⟩ hk; exact h
          rw [pr_atn hp100, pr_b2, w44, if_pos this]
        rw [eku, pr_b2, if_neg (by omega)]
      · rw [if_neg h1]
    · rcases d8 with h8 | h8
      · exact absurd ⟨h, h8⟩ hk
      · exact h8
