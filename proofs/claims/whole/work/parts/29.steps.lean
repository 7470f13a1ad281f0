/-! the core's steps with all the rest -/
def pr_own (S : am_S) (k : Nat) : Int := if S.2 84 k = 1 then S.2 89 k else S.2 87 k
theorem pr_Y_mono {B B2 : Int} {Sc Sr : am_S} (Z : pr_Y B Sc Sr) (hb : B ≤ B2) (h2 : B2 < 2000000000) : pr_Y B2 Sc Sr := by
  obtain ⟨⟨KS, R⟩, O, G⟩ := Z
  exact ⟨⟨KS, pr_RB_mono R hb h2⟩, pr_O_mono O hb, pr_RG_mono G hb⟩
theorem pr_Y_m {B : Int} {Sc Sr : am_S} (Z : pr_Y B Sc Sr) : Sc.1 75 = Sr.1 4745 ∧ 0 ≤ Sr.1 4745 ∧ Sr.1 4745 ≤ 100 ∧ B < 2000000000 ∧ 0 ≤ B := by
  obtain ⟨⟨KS, R⟩, O, G⟩ := Z
  have h9 := R.2.2.2.2.2.2.2.2.1
  exact ⟨R.1, R.2.1.1, R.2.1.2, h9.2.2, by omega⟩
theorem pr_Y_jk {B : Int} {Sc Sr : am_S} (Z : pr_Y B Sc Sr) {k : Nat} (h : pr_live Sr k) : ∃ p : Nat, (p : Int) < Sr.1 4745 ∧ pr_JK Sc Sr (Sr.1 4745) k p ∧ pr_own Sr k = (p : Int) := by
  obtain ⟨⟨KS, R⟩, O, G⟩ := Z
  obtain ⟨⟨p, hp, j⟩, -⟩ := R.2.2.2.2.2.2.1 k h
  refine ⟨p, hp, j, ?_⟩
  have := pr_JK_own j
  unfold pr_own
  by_cases e : Sr.2 84 k = 1
  · rw [if_pos e]; exact this.1 e
  · rw [if_neg e]; exact this.2 e
theorem pr_Y_pd {B : Int} {Sc Sr : am_S} (Z : pr_Y B Sc Sr) {p : Nat} (hp : (p : Int) < Sr.1 4745) : pr_PD B Sc Sr (Sr.1 4745) p := by
  obtain ⟨⟨KS, R⟩, O, G⟩ := Z
  exact R.2.2.2.1 p hp
/-- nothing new has this code: by sort -/
theorem pr_ncd4 {B : Int} {Sc Sr : am_S} (Z : pr_Y B Sc Sr) {r : Nat} {b c : Int} (h : ∀ k, pr_live Sr k → Sr.2 84 k = 4 → Sr.2 87 k ≠ (r : Int)) : ∀ k', pr_live Sr k' → pr_cd Sr k' ≠ pr_cv 4 (r : Int) b c := by
  intro k' hk e
  obtain ⟨p, hp, j, ho⟩ := pr_Y_jk Z hk
  have hc := pr_cd_ow j
  have e2 : pr_cv 4 (r : Int) b c = r * 8 + 2 := by unfold pr_cv; simp; omega
  have h4 := hc.2.2.2.1 (by omega)
  have h87 := (pr_JK_own j).2 (by omega)
  exact h k' hk h4 (by rw [h87]; omega)
theorem pr_ncd1 {B : Int} {Sc Sr : am_S} (Z : pr_Y B Sc Sr) {r : Nat} {a b : Int} (h : ∀ k, pr_live Sr k → pr_own Sr k ≠ (r : Int)) : ∀ k', pr_live Sr k' → pr_cd Sr k' ≠ pr_cv 1 a b (r : Int) := by
  intro k' hk e
  obtain ⟨p, hp, j, ho⟩ := pr_Y_jk Z hk
  have hc := pr_cd_ow j
  have e2 : pr_cv 1 a b (r : Int) = r * 8 + 1 := by unfold pr_cv; simp; omega
  exact h k' hk (by rw [ho]; omega)
theorem pr_ncd2 {B : Int} {Sc Sr : am_S} (Z : pr_Y B Sc Sr) {r : Nat} {b c : Int} (h : ∀ k, pr_live Sr k → Sr.2 84 k = 2 ∨ Sr.2 84 k = 5 → Sr.2 87 k ≠ (r : Int)) : ∀ k', pr_live Sr k' → pr_cd Sr k' ≠ pr_cv 2 (r : Int) b c := by
  intro k' hk e
  obtain ⟨p, hp, j, ho⟩ := pr_Y_jk Z hk
  have hc := pr_cd_ow j
  have e2 : pr_cv 2 (r : Int) b c = r * 8 := by unfold pr_cv; simp; omega
  have h4 := hc.2.1 (by omega)
  have h87 := (pr_JK_own j).2 (by omega)
  exact h k' hk h4 (by rw [h87]; omega)
theorem pr_ncd3 {B : Int} {Sc Sr : am_S} (Z : pr_Y B Sc Sr) {r i : Nat} (hi : i < 5) {c : Int} (h : ∀ k, pr_live Sr k → Sr.2 84 k = 3 → Sr.2 87 k = (r : Int) → Sr.2 88 k < (i : Int)) : ∀ k', pr_live Sr k' → pr_cd Sr k' ≠ pr_cv 3 (r : Int) (i : Int) c := by
  intro k' hk e
  obtain ⟨p, hp, j, ho⟩ := pr_Y_jk Z hk
  have hc := pr_cd_ow j
  have e2 : pr_cv 3 (r : Int) (i : Int) c = r * 8 + (3 + i) := by unfold pr_cv; simp; omega
  have h4 := hc.2.2.2.2 (by omega)
  have h87 := (pr_JK_own j).2 (by omega)
  have := h k' hk h4.1 (by rw [h87]; omega)
  omega
theorem pr_Ysettle {B : Int} {Sc Sr : am_S} (Z : pr_Y B Sc Sr) (hB : B + 1 < 2000000000) {p : Nat} (hp : (p : Int) < Sr.1 4745) {how s n k : Int} (hw : how = 1 ∨ how = 2) (hv : pr_VV (Sr.1 4745) s n)
    (hfree : Sr.2 78 p = k → Sr.2 81 p = 0 → ∀ k', pr_live Sr k' → Sr.2 84 k' = 2 ∨ Sr.2 84 k' = 5 → Sr.2 87 k' ≠ (p : Int)) :
    ∃ Sc' Sr', sf_X3_settleBy (p : Int) how (pr_V s n) k Sc = some Sc' ∧ sf_X10_endBy (p : Int) (how - 1) s n k Sr = some Sr' ∧ (how = 1 → sf_X10_resolveBy (p : Int) s n k Sr = some Sr') ∧ (how = 2 → sf_X10_rejectBy (p : Int) s n k Sr = some Sr')
      ∧ pr_Y (B + 1) Sc' Sr' ∧ pr_kC Sc Sc' ∧ pr_kR Sr Sr' ∧ Sr'.1 4745 = Sr.1 4745 ∧ Sc'.2 71 = Sc.2 71 ∧ Sr'.2 83 = Sr.2 83 ∧ Sr'.2 78 = Sr.2 78 ∧ pr_old Sr Sr' 5 (p : Int) ∧ (Sr'.2 78 p = k → Sr'.2 81 p = 1) ∧ (∀ q, Sr.2 81 q = 1 → Sr'.2 81 q = 1) := by
  obtain ⟨⟨KS, R⟩, O, G⟩ := Z
  obtain ⟨Sc', Sr', KS', h1, h2, h3, h4, h5, h6, h7, h8, h9, h10, h11, h12⟩ := pr_settleBy R hB hp hw hv hfree
  have kc : pr_kC Sc Sc' := pr_kC_out h6 (by decide) (by decide)
  have kr : pr_kR Sr Sr' := pr_kR_out h7 (by decide) (by decide)
  have hm : Sr'.1 4745 = Sr.1 4745 := h7.1 4745 (by decide)
  have h78 : Sr'.2 78 = Sr.2 78 := h7.2 78 (by decide)
  refine ⟨Sc', Sr', h1, h2, h3, h4, ⟨⟨KS', h5⟩, pr_O_mono (pr_O_core O kc kr (by omega) h11) (by omega), pr_RG_mono (pr_RG_core G kc kr h8 (fun h => by omega) (fun p' k' _ _ _ hh h0 => ?_)) (by omega)⟩, kc, kr, hm, h6.2 71 (by decide), h7.2 83 (by decide), h78, h8, h10, h9⟩
  rw [h78] at h0
  exact h9 p' (hh h0)
/-- by KEY 0 -/
theorem pr_free0 {B : Int} {Sc Sr : am_S} (Z : pr_Y B Sc Sr) {p : Nat} : Sr.2 78 p = 0 → Sr.2 81 p = 0 → ∀ k', pr_live Sr k' → Sr.2 84 k' = 2 ∨ Sr.2 84 k' = 5 → Sr.2 87 k' ≠ (p : Int) := by
  intro h78 h81 k' hl hw he
  obtain ⟨p', hp, j, ho⟩ := pr_Y_jk Z hl
  have e : p' = p := by
    have := (pr_JK_own j).2 (by omega)
    omega
  subst e
  rcases j with ⟨a1, -⟩ | ⟨a1, a2, a3, a4, a5⟩ | ⟨a1, -⟩ | ⟨a1, -⟩ | ⟨a1, a2, a3, -⟩ <;> omega
theorem pr_Ymake {B : Int} {Sc Sr : am_S} (Z : pr_Y B Sc Sr) (hm : Sr.1 4745 < 100) :
    ∃ Sc' Sr' : am_S, ∃ p : Nat, (p : Int) = Sr.1 4745 ∧ sf_X3_make Sc = some ((p : Int), Sc') ∧ sf_X10_promise Sr = some ((p : Int), Sr') ∧ pr_Y B Sc' Sr' ∧ Sr'.1 4745 = Sr.1 4745 + 1
      ∧ pr_kC Sc Sc' ∧ pr_kR Sr Sr' ∧ (Sr'.2 75 p = 0 ∧ Sr'.2 78 p = 0 ∧ Sr'.2 81 p = 0 ∧ Sr'.2 83 p = 0 ∧ Sc'.2 71 p = 0) ∧ Sc'.2 71 = Sc.2 71
      ∧ (∀ q, q ≠ p → Sr'.2 75 q = Sr.2 75 q ∧ Sr'.2 78 q = Sr.2 78 q ∧ Sr'.2 81 q = Sr.2 81 q ∧ Sr'.2 83 q = Sr.2 83 q) ∧ (∀ k, pr_live Sr' k → pr_own Sr' k ≠ (p : Int)) ∧ pr_old Sr Sr' 0 0 ∧ pr_out [75] [41, 42, 43, 44, 45, 47] Sc Sc' := by
  obtain ⟨⟨KS, R⟩, O, G⟩ := Z
  obtain ⟨Sc', Sr', p, h1, h2, h3, h4, h5, h6, h7, h8, h9, h10⟩ := pr_make R hm
  have kc : pr_kC Sc Sc' := pr_kC_out h6 (by decide) (by decide)
  have kr : pr_kR Sr Sr' := pr_kR_out h7 (by decide) (by decide)
  have hold : pr_old Sr Sr' 0 0 := pr_old_same _ _ (h7.2 84 (by decide)) (h7.2 87 (by decide)) (h7.2 88 (by decide)) (h7.2 89 (by decide))
  have hown : ∀ k, pr_live Sr' k → ∃ p' : Nat, pr_own Sr' k = (p' : Int) ∧ p' ≠ p := by
    intro k hk
    obtain ⟨⟨p', hp', j⟩, -⟩ := h4.2.2.2.2.2.2.1 k hk
    refine ⟨p', ?_, h10 k hk p' j⟩
    have := pr_JK_own j
    unfold pr_own
    by_cases e : Sr'.2 84 k = 1
    · rw [if_pos e]; exact this.1 e
    · rw [if_neg e]; exact this.2 e
  refine ⟨Sc', Sr', p, h1, h2, h3, ⟨⟨KS, h4⟩, pr_O_core O kc kr (by omega) (by rw [h7.1 4755 (by decide)]; exact Int.le_refl _), pr_RG_core G kc kr hold (fun h => by omega) (fun p' k' hk hk3 hkp hh h0 => ?_)⟩, h5, kc, kr, h8, h6.2 71 (by decide), h9, fun k hk => ?_, hold, h6⟩
  · obtain ⟨p2, e1, e2⟩ := hown k' hk
    unfold pr_own at e1
    rw [if_neg (by omega)] at e1
    have hne : p' ≠ p := by omega
    obtain ⟨-, q1, q2, -⟩ := h9 p' hne
    rw [q2]; rw [q1] at h0; exact hh h0
  · obtain ⟨p2, e1, e2⟩ := hown k hk
    omega
theorem pr_Ywait {B : Int} {Sc Sr : am_S} (Z : pr_Y B Sc Sr) (hB : B + 2 < 2000000000) {q p j : Nat} (hq : (q : Int) < Sr.1 4745) (hp : (p : Int) < Sr.1 4745) {w a b c : Int} (hN : pr_JN Sc Sr w a b c p) (hj : pr_jv w a b c = j)
    (hcdn : ∀ k', pr_live Sr k' → pr_cd Sr k' ≠ pr_cv w a b c) (hG : w = 3 → pr_GD B Sc Sr p) :
    ∃ Sc' Sr', sf_X3_waitFor (q : Int) (j : Int) Sc = some Sc' ∧ sf_X10_waitFor (q : Int) w a b c Sr = some Sr' ∧ pr_Y (B + 2) Sc' Sr' ∧ pr_kC Sc Sc' ∧ pr_kR Sr Sr'
      ∧ Sr'.1 4745 = Sr.1 4745 ∧ Sc'.2 71 = Sc.2 71 ∧ Sr'.2 83 = Sr.2 83 ∧ Sr'.2 78 = Sr.2 78 ∧ Sr'.2 81 = Sr.2 81 ∧ pr_old Sr Sr' w (p : Int) ∧ (∀ k, pr_live Sr' k → Sr'.2 88 k = b ∨ (pr_live Sr k ∧ Sr'.2 84 k = Sr.2 84 k ∧ Sr'.2 87 k = Sr.2 87 k ∧ Sr'.2 88 k = Sr.2 88 k)) := by
  obtain ⟨⟨KS, R⟩, O, G⟩ := Z
  obtain ⟨Sc', Sr', KS', h1, h2, h3, h4, h5, h6, h7, h8⟩ := pr_waitFor R hB hq hp hN hj hcdn
  have kc : pr_kC Sc Sc' := pr_kC_out h4 (by decide) (by decide)
  have kr : pr_kR Sr Sr' := pr_kR_out h5 (by decide) (by decide)
  have hm : Sr'.1 4745 = Sr.1 4745 := h5.1 4745 (by decide)
  have h78 : Sr'.2 78 = Sr.2 78 := h5.2 78 (by decide)
  have h81 : Sr'.2 81 = Sr.2 81 := h5.2 81 (by decide)
  refine ⟨Sc', Sr', h1, h2, ⟨⟨KS', h3⟩, pr_O_mono (pr_O_core O kc kr (by omega) h7) (by omega), pr_RG_mono (pr_RG_core G kc kr h6 (fun h p' e => ?_) (fun p' k' _ _ _ hh h0 => ?_)) (by omega)⟩, kc, kr, hm, h4.2 71 (by decide), h5.2 83 (by decide), h78, h81, h6, h8⟩
  · have : p' = p := by omega
    subst this; exact hG h
  · rw [h81]; rw [h78] at h0; exact hh h0
/-- cells of the runner and the groups may change under Y -/
theorem pr_Y_cells {B : Int} {Sc Sr Sc' Sr' : am_S} (Z : pr_Y B Sc Sr)
    (hc : ∀ a, (a ≤ 63 ∨ 72 ≤ a ∧ a ≤ 73) → Sc'.2 a = Sc.2 a) (h71 : Sc'.2 71 = Sc.2 71) (hcI : ∀ n, n ≠ 459 → n ≠ 460 → n ≠ 461 → Sc'.1 n = Sc.1 n)
    (h64 : Sc'.2 64 = Sc.2 64) (h65 : Sc'.2 65 = Sc.2 65) (h66 : Sc'.2 66 = Sc.2 66)
    (hr : ∀ a, a ≤ 115 → a ≠ 79 → a ≠ 80 → a ≠ 83 → Sr'.2 a = Sr.2 a) (hrI : ∀ n, n < 4788 → Sr'.1 n = Sr.1 n) : pr_Y B Sc' Sr' := by
  obtain ⟨⟨KS, R⟩, O, G⟩ := Z
  have e := fun a h1 h2 h3 h4 => hr a h1 h2 h3 h4
  have jk : ∀ m k p, pr_JK Sc Sr m k p → pr_JK Sc' Sr' m k p := by
    intro m k p j
    unfold pr_JK at j ⊢
    rw [hr 84 (by omega) (by omega) (by omega) (by omega), hr 85 (by omega) (by omega) (by omega) (by omega), hr 87 (by omega) (by omega) (by omega) (by omega), hr 88 (by omega) (by omega) (by omega) (by omega), hr 89 (by omega) (by omega) (by omega) (by omega), hr 90 (by omega) (by omega) (by omega) (by omega), hr 91 (by omega) (by omega) (by omega) (by omega), hr 92 (by omega) (by omega) (by omega) (by omega), hr 81 (by omega) (by omega) (by omega) (by omega), hr 78 (by omega) (by omega) (by omega) (by omega), hr 75 (by omega) (by omega) (by omega) (by omega), hc 72 (by omega), hc 73 (by omega), hc 46 (by omega), h71]
    exact j
  have hjb : pr_jb Sr' = pr_jb Sr := funext fun k => pr_jb_congr (by rw [hr 84 (by omega) (by omega) (by omega) (by omega)]) (by rw [hr 87 (by omega) (by omega) (by omega) (by omega)]) (by rw [hr 88 (by omega) (by omega) (by omega) (by omega)]) (by rw [hr 89 (by omega) (by omega) (by omega) (by omega)])
  refine ⟨⟨KS, pr_RB_of R (hcI _ (by omega) (by omega) (by omega)) (hcI _ (by omega) (by omega) (by omega)) (hcI _ (by omega) (by omega) (by omega)) (hcI _ (by omega) (by omega) (by omega)) (hc 47 (by omega)) (hc 48 (by omega)) (hc 49 (by omega)) (hc 50 (by omega)) (hrI _ (by omega)) (hrI _ (by omega))
    (hr 84 (by omega) (by omega) (by omega) (by omega)) (hr 85 (by omega) (by omega) (by omega) (by omega)) (hr 86 (by omega) (by omega) (by omega) (by omega)) (hr 87 (by omega) (by omega) (by omega) (by omega)) (hr 88 (by omega) (by omega) (by omega) (by omega)) (hr 89 (by omega) (by omega) (by omega) (by omega)) (fun p _ h => ?_) (fun k _ hJ hO => ⟨?_, ?_⟩) (fun p _ _ => by rw [h71])⟩, ?_, ?_⟩
  · unfold pr_PD at h ⊢
    rw [hc 41 (by omega), hc 42 (by omega), hc 43 (by omega), hc 44 (by omega), hc 45 (by omega), hr 75 (by omega) (by omega) (by omega) (by omega), hr 76 (by omega) (by omega) (by omega) (by omega), hr 77 (by omega) (by omega) (by omega) (by omega), hr 78 (by omega) (by omega) (by omega) (by omega), hr 81 (by omega) (by omega) (by omega) (by omega), hr 82 (by omega) (by omega) (by omega) (by omega)]
    exact h
  · obtain ⟨p, hp, j⟩ := hJ
    exact ⟨p, hp, jk _ _ _ j⟩
  · unfold pr_JO at hO ⊢
    rw [hjb, hr 84 (by omega) (by omega) (by omega) (by omega), hr 85 (by omega) (by omega) (by omega) (by omega), hr 90 (by omega) (by omega) (by omega) (by omega), hr 91 (by omega) (by omega) (by omega) (by omega), hr 92 (by omega) (by omega) (by omega) (by omega), hr 75 (by omega) (by omega) (by omega) (by omega), hr 76 (by omega) (by omega) (by omega) (by omega), hr 77 (by omega) (by omega) (by omega) (by omega), hc 51 (by omega)]
    exact hO
  · exact pr_O_keep O (fun a h1 h2 => hc a (by omega)) (hcI _ (by omega) (by omega) (by omega)) (hcI _ (by omega) (by omega) (by omega)) (hcI _ (by omega) (by omega) (by omega)) (hcI _ (by omega) (by omega) (by omega)) (hcI _ (by omega) (by omega) (by omega)) (fun a h1 h2 _ => hr a (by omega) (by omega) (by omega) (by omega)) (hrI _ (by omega)) (hrI _ (by omega)) (hrI _ (by omega)) (hrI _ (by omega)) (by rw [hrI 4745 (by omega)]; exact Int.le_refl _) (by rw [hrI 4755 (by omega)]; exact Int.le_refl _)
  · intro p k hk hk3 hkp
    rw [hr 84 (by omega) (by omega) (by omega) (by omega)] at hk3
    rw [hr 87 (by omega) (by omega) (by omega) (by omega)] at hkp
    refine pr_GD_keep (G p k ⟨hk.1, by have := hk.2; rw [hr 84 (by omega) (by omega) (by omega) (by omega)] at this; exact this⟩ hk3 hkp) (by rw [h64]) (by rw [h65]) (by rw [h66]) (by rw [hr 102 (by omega) (by omega) (by omega) (by omega)]) (by rw [hr 103 (by omega) (by omega) (by omega) (by omega)]) (by rw [hr 104 (by omega) (by omega) (by omega) (by omega)]) (by rw [hr 105 (by omega) (by omega) (by omega) (by omega)]) (fun h => ?_)
    rw [hr 78 (by omega) (by omega) (by omega) (by omega), hr 81 (by omega) (by omega) (by omega) (by omega)]
    exact h
