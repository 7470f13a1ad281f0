/-! the relation speaks of the class's cells of one state and of the reference's cells of the other -/
theorem pr_Y_loc {B : Int} {Sc Sr Sc' Sr' : am_S} (Z : pr_Y B Sc Sr) (hc : ∀ a, a ≤ 73 → Sc'.2 a = Sc.2 a) (hcI : ∀ n, n ≤ 461 → Sc'.1 n = Sc.1 n) (hr : ∀ a, 75 ≤ a → Sr'.2 a = Sr.2 a) (hm : Sr'.1 4745 = Sr.1 4745) (hcl : Sr'.1 4755 = Sr.1 4755) (O' : pr_O B Sc' Sr') : pr_Y B Sc' Sr' := by
  obtain ⟨⟨KS, R⟩, O, G⟩ := Z
  have hjb : pr_jb Sr' = pr_jb Sr := funext fun k => pr_jb_congr (by rw [hr 84 (by omega)]) (by rw [hr 87 (by omega)]) (by rw [hr 88 (by omega)]) (by rw [hr 89 (by omega)])
  refine ⟨⟨KS, pr_RB_of R (hcI _ (by omega)) (hcI _ (by omega)) (hcI _ (by omega)) (hcI _ (by omega)) (hc 47 (by omega)) (hc 48 (by omega)) (hc 49 (by omega)) (hc 50 (by omega)) hm hcl (hr 84 (by omega)) (hr 85 (by omega)) (hr 86 (by omega)) (hr 87 (by omega)) (hr 88 (by omega)) (hr 89 (by omega)) (fun p _ h => ?_) (fun k _ hJ hO => ⟨?_, ?_⟩) (fun p _ _ => by rw [hc 71 (by omega)])⟩, O', ?_⟩
  · unfold pr_PD at h ⊢
    rw [hc 41 (by omega), hc 42 (by omega), hc 43 (by omega), hc 44 (by omega), hc 45 (by omega), hr 75 (by omega), hr 76 (by omega), hr 77 (by omega), hr 78 (by omega), hr 81 (by omega), hr 82 (by omega)]
    exact h
  · obtain ⟨p, hp, j⟩ := hJ
    refine ⟨p, hp, ?_⟩
    unfold pr_JK at j ⊢
    rw [hr 84 (by omega), hr 85 (by omega), hr 87 (by omega), hr 88 (by omega), hr 89 (by omega), hr 90 (by omega), hr 91 (by omega), hr 92 (by omega), hr 81 (by omega), hr 78 (by omega), hr 75 (by omega), hc 72 (by omega), hc 73 (by omega), hc 46 (by omega), hc 71 (by omega)]
    exact j
  · unfold pr_JO at hO ⊢
    rw [hjb, hr 84 (by omega), hr 85 (by omega), hr 90 (by omega), hr 91 (by omega), hr 92 (by omega), hr 75 (by omega), hr 76 (by omega), hr 77 (by omega), hc 51 (by omega)]
    exact hO
  · intro p k hk hk3 hkp
    rw [hr 84 (by omega)] at hk3
    rw [hr 87 (by omega)] at hkp
    refine pr_GD_keep (G p k ⟨hk.1, by have := hk.2; rw [hr 84 (by omega)] at this; exact this⟩ hk3 hkp) (by rw [hc 64 (by omega)]) (by rw [hc 65 (by omega)]) (by rw [hc 66 (by omega)]) (by rw [hr 102 (by omega)]) (by rw [hr 103 (by omega)]) (by rw [hr 104 (by omega)]) (by rw [hr 105 (by omega)]) (fun h => ?_)
    rw [hr 78 (by omega), hr 81 (by omega)]; exact h
theorem pr_O_loc {B : Int} {Sc Sr Sc' Sr' : am_S} (O : pr_O B Sc Sr) (hc : ∀ a, a ≤ 73 → Sc'.2 a = Sc.2 a) (hcI : ∀ n, n ≤ 461 → Sc'.1 n = Sc.1 n) (hr : ∀ a, 75 ≤ a → Sr'.2 a = Sr.2 a) (hrI : ∀ n, 4745 ≤ n → Sr'.1 n = Sr.1 n) : pr_O B Sc' Sr' := by
  obtain ⟨p1, p2, p3, p4, p5⟩ := O
  have hm := hrI 4745 (by omega)
  refine ⟨?_, ?_, ?_, ?_, ?_⟩
  · intro q hq
    rw [hc 52 (by omega), hc 53 (by omega), hc 54 (by omega), hr 93 (by omega), hr 94 (by omega), hr 95 (by omega), hr 96 (by omega), hr 97 (by omega), hm]
    exact p1 q hq
  · intro f hf
    rw [hc 55 (by omega), hr 98 (by omega)]
    obtain ⟨a1, a2, a3, a4⟩ := p2 f hf
    exact ⟨a1, a2, a3, fun i hi => pr_SD_same (a4 i hi) (by rw [hc 56 (by omega)]) (by rw [hc 57 (by omega)]) (by rw [hr 99 (by omega)]) (by rw [hr 100 (by omega)]) (by rw [hr 101 (by omega)])⟩
  · obtain ⟨TS, a1, a2, a3, a4, a5, a6, a7⟩ := p3
    refine ⟨TS, ?_, ?_, ?_, ?_, ?_, ?_, ?_⟩
    · rw [hr 108 (by omega)]; exact a1
    · rw [hr 109 (by omega)]; exact a2
    · rw [hr 109 (by omega), hrI 4755 (by omega)]; exact a3
    · rw [hcI 259 (by omega)]; exact a4
    · rw [hcI 260 (by omega), hrI 4777 (by omega)]; exact a5
    · rw [hrI 4777 (by omega)]; exact a6
    · intro i t ht
      have h := a7 i t ht
      unfold pr_TD at h ⊢
      rw [hc 58 (by omega), hc 59 (by omega), hc 60 (by omega), hr 108 (by omega), hr 110 (by omega), hr 111 (by omega), hr 112 (by omega), hm]
      exact h
  · unfold pr_RN at p4 ⊢
    rw [hcI 322 (by omega), hcI 323 (by omega), hrI 4782 (by omega), hrI 4778 (by omega), hc 61 (by omega), hc 62 (by omega), hr 113 (by omega), hr 114 (by omega), hr 115 (by omega)]
    exact p4
  · unfold pr_RI at p5 ⊢
    rw [hcI 389 (by omega), hrI 4771 (by omega), hm, hc 63 (by omega), hr 106 (by omega), hr 107 (by omega)]
    exact p5
theorem pr_I_loc {B : Int} {Sc Sr Sc' Sr' : am_S} (I : pr_I B Sc Sr) (hc : ∀ a, a ≤ 73 → Sc'.2 a = Sc.2 a) (hcI : ∀ n, n ≤ 461 → Sc'.1 n = Sc.1 n) (hr : ∀ a, 75 ≤ a → Sr'.2 a = Sr.2 a) (hrI : ∀ n, 4745 ≤ n → Sr'.1 n = Sr.1 n) : pr_I B Sc' Sr' := by
  obtain ⟨Z, h1, h2, h3⟩ := I
  have hm := hrI 4745 (by omega)
  refine ⟨pr_Y_loc Z hc hcI hr hm (hrI 4755 (by omega)) (pr_O_loc Z.2.1 hc hcI hr hrI), (hcI 459 (by omega)).trans h1, ?_, ?_⟩
  · unfold pr_SP at h2 ⊢
    rw [hm, hc 67 (by omega), hc 68 (by omega), hr 79 (by omega), hr 80 (by omega), hr 83 (by omega)]
    exact h2
  · unfold pr_FL at h3 ⊢
    rw [hm, hc 71 (by omega), hr 83 (by omega)]
    exact h3
/-- one call of the class, then the same of the reference, from one state -/
theorem pr_one {B : Int} {S : am_S} (I : pr_I B S S) {c r : am_S → Option (Int × am_S)} (hp : ∀ Sr, pr_I B S Sr → pr_pub B S Sr c r) (fc : ∀ S0 S, pr_kc S0 S → pr_F2 (pr_kc S0) (c S)) (fr : ∀ S0 S, pr_kr S0 S → pr_F2 (pr_kr S0) (r S)) :
    ∃ (x : Int) (S1 : am_S), c S = some (x, S1) ∧ (∃ S2, r S1 = some (x, S2) ∧ pr_I (B + 2000000) S2 S2) := by
  obtain ⟨x, S1, Sx, a1, -, -⟩ := hp S I
  have k1 := fc S S ⟨fun _ _ => rfl, fun _ _ => rfl⟩ x S1 a1
  have I1 : pr_I B S S1 := pr_I_loc I (fun _ _ => rfl) (fun _ _ => rfl) k1.1 k1.2
  obtain ⟨x', Sc', S2, b1, b2, b3⟩ := hp S1 I1
  rw [a1] at b1
  cases b1
  have k2 := fr S1 S1 ⟨fun _ _ => rfl, fun _ _ => rfl⟩ x S2 b2
  exact ⟨x, S1, a1, S2, b2, pr_I_loc b3 k2.1 k2.2 (fun _ _ => rfl) (fun _ _ => rfl)⟩

