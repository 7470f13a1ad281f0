/-! TASKS -/
/-- Y where cells of O and of the runner change -/
theorem pr_Y_any {B : Int} {Sc Sr Sc' Sr' : am_S} (Z : pr_Y B Sc Sr) (hc : ∀ a, a < 52 ∨ (64 ≤ a ∧ a ≤ 66) ∨ 71 ≤ a → Sc'.2 a = Sc.2 a) (hcI : ∀ n, n ≤ 78 → Sc'.1 n = Sc.1 n) (hr : ∀ a, (a ≤ 92 ∧ a ≠ 79 ∧ a ≠ 80 ∧ a ≠ 83) ∨ (102 ≤ a ∧ a ≤ 105) → Sr'.2 a = Sr.2 a) (hm : Sr'.1 4745 = Sr.1 4745) (hcl : Sr'.1 4755 = Sr.1 4755) (O' : pr_O B Sc' Sr') : pr_Y B Sc' Sr' := by
  obtain ⟨⟨KS, R⟩, O, G⟩ := Z
  have hjb : pr_jb Sr' = pr_jb Sr := funext fun k => pr_jb_congr (by rw [hr 84 (by omega)]) (by rw [hr 87 (by omega)]) (by rw [hr 88 (by omega)]) (by rw [hr 89 (by omega)])
  refine ⟨⟨KS, pr_RB_of R (hcI _ (by omega)) (hcI _ (by omega)) (hcI _ (by omega)) (hcI _ (by omega)) (hc 47 (by omega)) (hc 48 (by omega)) (hc 49 (by omega)) (hc 50 (by omega)) hm hcl (hr 84 (by omega)) (hr 85 (by omega)) (hr 86 (by omega)) (hr 87 (by omega)) (hr 88 (by omega)) (hr 89 (by omega)) (fun p _ h => ?_) (fun k _ hJ hO => ⟨?_, ?_⟩) (fun p _ _ => by rw [hc 71 (by omega)])⟩, O', ?_⟩
  · unfold pr_PD at h ⊢
    rw [hc 41 (by omega), hc 42 (by omega), hc 43 (by omega), hc 44 (by omega), hc 45 (by omega), hr 75 (by omega), hr 76 (by omega), hr 77 (by omega), hr 78 (by omega), hr 81 (by omega), hr 82 (by omega)]
    exact h
  · obtain ⟨p, hp, j⟩ := hJ
    refine ⟨p, hp, ?_⟩
    unfold pr_JK at j ⊢
    rw [hr 84 (by omega), hr 85 (by omega), hr 87 (by omega), hr 88 (by omega), hr 89 (by omega), hr 90 (by omega), hr 91 (by omega), hr 92 (by omega), hr 81 (by omega), hr 78 (by omega), hr 75 (by omega), hc 72 (by omega), hc 73 (by omega), hc 46 (by omega), hc 71 (by omega)]
    exact j
  · unfold pr_JO at hO ⊢
    rw [hjb, hr 84 (by omega), hr 85 (by omega), hr 90 (by omega), hr 91 (by omega), hr 92 (by omega), hr 75 (by omega), hr 76 (by omega), hr 77 (by omega), hc 51 (by omega)]
    exact hO
  · intro p k hk hk3 hkp
    rw [hr 84 (by omega)] at hk3
    rw [hr 87 (by omega)] at hkp
    refine pr_GD_keep (G p k ⟨hk.1, by have := hk.2; rw [hr 84 (by omega)] at this; exact this⟩ hk3 hkp) (by rw [hc 64 (by omega)]) (by rw [hc 65 (by omega)]) (by rw [hc 66 (by omega)]) (by rw [hr 102 (by omega)]) (by rw [hr 103 (by omega)]) (by rw [hr 104 (by omega)]) (by rw [hr 105 (by omega)]) (fun h => ?_)
    rw [hr 78 (by omega), hr 81 (by omega)]; exact h
/-- O where cells of TASKS alone change -/
theorem pr_O_task {B : Int} {Sc Sr Sc' Sr' : am_S} (O : pr_O B Sc Sr) (hc : ∀ a, 52 ≤ a → a ≤ 63 → a ≠ 58 → a ≠ 59 → a ≠ 60 → Sc'.2 a = Sc.2 a) (c322 : Sc'.1 322 = Sc.1 322) (c323 : Sc'.1 323 = Sc.1 323) (c389 : Sc'.1 389 = Sc.1 389)
    (hr : ∀ a, 93 ≤ a → a ≤ 115 → a ≠ 108 → a ≠ 109 → a ≠ 110 → a ≠ 111 → a ≠ 112 → Sr'.2 a = Sr.2 a) (f1 : Sr'.1 4771 = Sr.1 4771) (f3 : Sr'.1 4778 = Sr.1 4778) (f4 : Sr'.1 4782 = Sr.1 4782) (hm : Sr'.1 4745 = Sr.1 4745) (K' : pr_RK B Sc' Sr') : pr_O B Sc' Sr' := by
  obtain ⟨p1, p2, p3, p4, p5⟩ := O
  refine ⟨?_, ?_, K', ?_, ?_⟩
  · intro q hq
    rw [hc 52 (by omega) (by omega) (by omega) (by omega) (by omega), hc 53 (by omega) (by omega) (by omega) (by omega) (by omega), hc 54 (by omega) (by omega) (by omega) (by omega) (by omega), hr 93 (by omega) (by omega) (by omega) (by omega) (by omega) (by omega) (by omega), hr 94 (by omega) (by omega) (by omega) (by omega) (by omega) (by omega) (by omega), hr 95 (by omega) (by omega) (by omega) (by omega) (by omega) (by omega) (by omega), hr 96 (by omega) (by omega) (by omega) (by omega) (by omega) (by omega) (by omega), hr 97 (by omega) (by omega) (by omega) (by omega) (by omega) (by omega) (by omega), hm]
    exact p1 q hq
  · intro f hf
    rw [hc 55 (by omega) (by omega) (by omega) (by omega) (by omega), hr 98 (by omega) (by omega) (by omega) (by omega) (by omega) (by omega) (by omega)]
    obtain ⟨a1, a2, a3, a4⟩ := p2 f hf
    exact ⟨a1, a2, a3, fun i hi => pr_SD_same (a4 i hi) (by rw [hc 56 (by omega) (by omega) (by omega) (by omega) (by omega)]) (by rw [hc 57 (by omega) (by omega) (by omega) (by omega) (by omega)]) (by rw [hr 99 (by omega) (by omega) (by omega) (by omega) (by omega) (by omega) (by omega)]) (by rw [hr 100 (by omega) (by omega) (by omega) (by omega) (by omega) (by omega) (by omega)]) (by rw [hr 101 (by omega) (by omega) (by omega) (by omega) (by omega) (by omega) (by omega)])⟩
  · unfold pr_RN at p4 ⊢
    rw [c322, c323, f3, f4, hc 61 (by omega) (by omega) (by omega) (by omega) (by omega), hc 62 (by omega) (by omega) (by omega) (by omega) (by omega), hr 113 (by omega) (by omega) (by omega) (by omega) (by omega) (by omega) (by omega), hr 114 (by omega) (by omega) (by omega) (by omega) (by omega) (by omega) (by omega), hr 115 (by omega) (by omega) (by omega) (by omega) (by omega) (by omega) (by omega)]
    exact p4
  · unfold pr_RI at p5 ⊢
    rw [c389, f1, hm, hc 63 (by omega) (by omega) (by omega) (by omega) (by omega), hr 106 (by omega) (by omega) (by omega) (by omega) (by omega) (by omega) (by omega), hr 107 (by omega) (by omega) (by omega) (by omega) (by omega) (by omega) (by omega)]
    exact p5
/-- the clock goes on -/
theorem pr_Y_clock {B : Int} {Sc Sr : am_S} (Z : pr_Y B Sc Sr) (hB : B + 1 < 2000000000) : pr_Y (B + 1) Sc (am_sI Sr 4755 (Sr.1 4755 + 1)) := by
  obtain ⟨⟨KS, r1, r2, r3, r4, r5, r6, r7, r8, r9, r10⟩, O, G⟩ := Z
  refine ⟨⟨KS, r1, r2, pr_TB_same r3 rfl rfl rfl (show Sr.1 4755 ≤ Sr.1 4755 + 1 by omega), fun p hp => pr_PD_mono (r4 p hp) (by omega), r5, r6, r7, r8, ?_, r10⟩, ?_, ?_⟩
  · have e : pr_W (am_sI Sr 4755 (Sr.1 4755 + 1)) = pr_W Sr := pr_W_congr rfl rfl
    rw [e]
    show 0 ≤ Sr.1 4755 + 1 ∧ Sr.1 4755 + 1 + (pr_W Sr : Int) ≤ B + 1 ∧ B + 1 < 2000000000
    omega
  · exact pr_O_mono (pr_O_keep O (fun _ _ _ => rfl) rfl rfl rfl rfl rfl (fun _ _ _ _ => rfl) rfl rfl rfl rfl (Int.le_refl _) (show Sr.1 4755 ≤ Sr.1 4755 + 1 by omega)) (by omega)
  · exact pr_RG_mono G (by omega)
theorem pr_Y_clk {B : Int} {Sc Sr : am_S} (Z : pr_Y B Sc Sr) : 0 ≤ Sr.1 4755 ∧ Sr.1 4755 ≤ B := by
  obtain ⟨⟨KS, r1, r2, r3, r4, r5, r6, r7, r8, r9, r10⟩, O, G⟩ := Z
  omega
theorem pr_cnt_full {P : Nat → Bool} : ∀ (n : Nat), (∀ k, k < n → P k = true) → pr_cnt P n = n
  | 0, _ => rfl
  | n + 1, h => by
    simp only [pr_cnt]
    rw [h n (by omega), pr_cnt_full n (fun k hk => h k (by omega)), if_pos rfl]; omega
theorem pr_cnt_all {P : Nat → Bool} : ∀ (n : Nat), pr_cnt P n = n → ∀ k, k < n → P k = true
  | 0, _, k, hk => by omega
  | n + 1, h, k, hk => by
    simp only [pr_cnt] at h
    have hle := pr_cnt_le P n
    by_cases hn : P n = true
    · rw [if_pos hn] at h
      rcases Nat.lt_or_ge k n with h2 | h2
      · exact pr_cnt_all n (by omega) k h2
      · have : k = n := by omega
        rw [this]; exact hn
    · rw [if_neg hn] at h; omega
theorem pr_task_loop (S : am_S) (f s n dt : Int) (k0 : Nat) (hk : k0 < 32) (h0 : S.2 108 k0 < 0) : ∀ (fu i : Nat), i ≤ k0 → k0 - i < fu → ∃ k, k < 32 ∧ S.2 108 k < 0 ∧ sf_X10_task_3 fu f s n dt (i : Int) S = sf_X10_task_26 f s n dt (k : Int) S := by
  intro fu
  induction fu with
  | zero => intro i _ h; omega
  | succ fu ih =>
    intro i hik hfu
    have hi : i < 32 := by omega
    simp only [sf_X10_task_3, pr_gdn hi, Int.toNat_natCast]
    rw [if_neg (by omega)]
    by_cases h : S.2 108 i < 0
    · rw [if_pos h]; exact ⟨i, hi, h, rfl⟩
    · rw [if_neg h]
      have hlt : i < k0 := by
        rcases Nat.lt_or_ge i k0 with h1 | h1
        · exact h1
        · have : i = k0 := by omega
          subst this; exact absurd h0 h
      rw [pr_ws (by omega)]
      exact ih (i + 1) (by omega) (by omega)
theorem pr_task_none (S : am_S) (f s n dt : Int) (h : ∀ k, k < 32 → 0 ≤ S.2 108 k) : ∀ (fu i : Nat), i ≤ 32 → 32 - i < fu → sf_X10_task_3 fu f s n dt (i : Int) S = some (0, S) := by
  intro fu
  induction fu with
  | zero => intro i _ h; omega
  | succ fu ih =>
    intro i hi hfu
    simp only [sf_X10_task_3]
    by_cases h8 : (32 : Int) ≤ (i : Int)
    · have : i = 32 := by omega
      subst this
      rw [if_pos h8]
      unfold sf_X10_task_26
      rw [if_pos (show ((32 : Nat) : Int) = 32 from rfl)]
    · have hi8 : i < 32 := by omega
      rw [if_neg h8]
      simp only [pr_gdn hi8, Int.toNat_natCast]
      rw [if_neg (by have := h i hi8; omega), pr_ws (by omega)]
      exact ih (i + 1) (by omega) (by omega)
theorem pr_tasks {B : Int} {Sc Sr : am_S} (K : pr_RK B Sc Sr) : ∃ TS : List Nat, Sc.1 259 = (TS.length : Int) ∧ TS.length ≤ 32 ∧ (TS.length = 32 → ∀ k, k < 32 → 0 ≤ Sr.2 108 k) ∧ (TS.length < 32 → ∃ k, k < 32 ∧ Sr.2 108 k < 0) ∧ pr_cnt (fun t => decide (0 ≤ Sr.2 108 t)) 32 = TS.length := by
  obtain ⟨TS, a1, a2, a3, a4, -⟩ := K
  have hnd : TS.Nodup := a2.imp (fun {a b} h e => by subst e; omega)
  have hc : pr_cnt (fun t => decide (0 ≤ Sr.2 108 t)) 32 = TS.length := pr_cnt_list 32 TS hnd (fun k => by rw [a1 k]; simp)
  have hle := pr_cnt_le (fun t => decide (0 ≤ Sr.2 108 t)) 32
  refine ⟨TS, a4, by omega, fun h k hk => ?_, fun h => ?_, hc⟩
  · have := pr_cnt_all (P := fun t => decide (0 ≤ Sr.2 108 t)) 32 (hc.trans h) k hk
    simpa using this
  · rcases Classical.em (∃ k, k < 32 ∧ Sr.2 108 k < 0) with h2 | h2
    · exact h2
    · have := pr_cnt_full (P := fun t => decide (0 ≤ Sr.2 108 t)) 32 (fun k hk => by
        rcases Int.lt_or_le (Sr.2 108 k) 0 with h3 | h3
        · exact absurd ⟨k, hk, h3⟩ h2
        · simpa using h3)
      omega
/-- another TASK -/
theorem pr_task {B : Int} {Sc Sr : am_S} (Z : pr_Y B Sc Sr) (hB : B + 1 < 2000000000) {f s n dt : Int} (hf : 0 ≤ f ∧ f < 10) (hv : pr_VV (Sr.1 4745) s n) (hdt : 0 ≤ dt ∧ dt ≤ 1000) :
    (32 ≤ Sc.1 259 → sf_X10_task f s n dt Sr = some (0, Sr)) ∧ (Sc.1 259 < 32 → ∃ Sc' Sr', sf_X6_add f (pr_V s n) dt Sc = some (Sc.1 259 + 1, Sc') ∧ sf_X10_task f s n dt Sr = some (1, Sr') ∧ pr_Y (B + 1) Sc' Sr' ∧ Sc'.1 259 = Sc.1 259 + 1 ∧ pr_out [259] [58, 59, 60] Sc Sc' ∧ pr_out [4755] [108, 109, 110, 111, 112] Sr Sr') := by
  obtain ⟨TS0, q1, q2, q3, q4, -⟩ := pr_tasks Z.2.1.2.2.1
  constructor
  · intro h
    exact pr_task_none Sr f s n dt (q3 (by omega)) 1000 0 (by omega) (by omega)
  · intro h
    obtain ⟨k0, hk0, hk1⟩ := q4 (by omega)
    obtain ⟨k, hk, hkd, hev⟩ := pr_task_loop Sr f s n dt k0 hk0 hk1 1000 0 (by omega) (by omega)
    have Z0 := Z
    obtain ⟨c1, c2⟩ := pr_Y_clk Z
    obtain ⟨TS, a1, a2, a3, a4, a5, a6, a7⟩ := Z.2.1.2.2.1
    have hsz : TS.length < 32 := by omega
    have hkn : k ∉ TS := fun hm => by have := (a1 k).mp hm; omega
    have hm4 := (pr_Y_m Z0).2.2.2.1
    obtain ⟨c, hc1, hc2⟩ : ∃ c, (∀ _ : Nat, c = am_w32 (Sr.1 4755 + 1)) ∧ c = Sr.1 4755 + 1 := ⟨_, fun _ => rfl, pr_w (by omega) (by omega)⟩
    obtain ⟨d, hd1, hd2⟩ : ∃ d, (∀ _ : Nat, d = am_w32 (Sr.1 4777 + dt)) ∧ d = Sr.1 4777 + dt := ⟨_, fun _ => rfl, pr_w (by omega) (by omega)⟩
    obtain ⟨z, hz1, hz2⟩ : ∃ z, (∀ _ : Nat, z = am_w32 ((TS.length : Int) + 1)) ∧ z = (TS.length : Int) + 1 := ⟨_, fun _ => rfl, pr_w (by omega) (by omega)⟩
    obtain ⟨Sc', hSc⟩ : ∃ Sc', Sc' = am_sI (am_sA (am_sA (am_sA Sc 58 TS.length f) 59 TS.length (pr_V s n)) 60 TS.length d) 259 z := ⟨_, rfl⟩
    obtain ⟨Sr', hSr⟩ : ∃ Sr', Sr' = am_sA (am_sA (am_sA (am_sA (am_sI (am_sA Sr 108 k d) 4755 c) 109 k c) 110 k f) 111 k s) 112 k n := ⟨_, rfl⟩
    have oc : pr_out [259] [58, 59, 60] Sc Sc' := by
      rw [hSc]
      refine pr_out_sI (pr_out_sA (pr_out_sA (pr_out_sA (pr_out_refl _) ?_) ?_) ?_) ?_ <;> decide
    have or' : pr_out [4755] [108, 109, 110, 111, 112] Sr Sr' := by
      rw [hSr]
      refine pr_out_sA (pr_out_sA (pr_out_sA (pr_out_sA (pr_out_sI (pr_out_sA (pr_out_refl _) ?_) ?_) ?_) ?_) ?_) ?_ <;> decide
    have x259 : Sc'.1 259 = (TS.length : Int) + 1 := by rw [hSc, ← hz2]; rfl
    refine ⟨Sc', Sr', ?_, ?_, ?_, by rw [x259, a4], oc, or'⟩
    · unfold sf_X6_add
      have p1 : (am_sA Sc 58 TS.length f).1 259 = (TS.length : Int) := a4
      have p2 : (am_sA (am_sA Sc 58 TS.length f) 59 TS.length (pr_V s n)).1 259 = (TS.length : Int) := a4
      have p3 : (am_sA (am_sA Sc 58 TS.length f) 59 TS.length (pr_V s n)).1 260 = Sr.1 4777 := a5
      have p4 : (am_sA (am_sA (am_sA Sc 58 TS.length f) 59 TS.length (pr_V s n)) 60 TS.length d).1 259 = (TS.length : Int) := a4
      rw [a4, pr_putn hsz, pr_b1, p1, pr_putn hsz, pr_b1, p2, p3, ← hd1 0, pr_putn hsz, pr_b1, p4, ← hz1 0, pr_let, ← hSc, x259]
    · have hev' : sf_X10_task f s n dt Sr = sf_X10_task_26 f s n dt (k : Int) Sr := hev
      rw [hev']
      unfold sf_X10_task_26
      have hk32 : ¬ (k : Int) = 32 := by omega
      rw [if_neg hk32]
      have p1 : (am_sA Sr 108 k d).1 4755 = Sr.1 4755 := rfl
      rw [← hd1 0, pr_gdn hk, Int.toNat_natCast, pr_let, p1, ← hc1 0]
      simp only [pr_gdn hk, pr_let]
      rw [hSr]
    · have Z1 := pr_Y_clock Z hB
      rw [← hc2] at Z1
      refine pr_Y_any Z1 (fun a ha => oc.2 a (by simp; omega)) (fun n hn => oc.1 n (by simp; omega)) (fun a ha => or'.2 a (by simp; omega)) (or'.1 _ (by decide)) ?_ (pr_O_task Z1.2.1 (fun a _ _ h1 h2 h3 => oc.2 a (by simp; omega)) (oc.1 _ (by decide)) (oc.1 _ (by decide)) (oc.1 _ (by decide)) (fun a _ _ h1 h2 h3 h4 h5 => or'.2 a (by simp; omega)) (or'.1 _ (by decide)) (or'.1 _ (by decide)) (or'.1 _ (by decide)) (or'.1 _ (by decide)) ?_)
      · rw [hSr]; rfl
      · have x108 : Sr'.2 108 = am_up (Sr.2 108) k d := by rw [hSr]; rfl
        have x109 : Sr'.2 109 = am_up (Sr.2 109) k c := by rw [hSr]; rfl
        have x110 : Sr'.2 110 = am_up (Sr.2 110) k f := by rw [hSr]; rfl
        have x111 : Sr'.2 111 = am_up (Sr.2 111) k s := by rw [hSr]; rfl
        have x112 : Sr'.2 112 = am_up (Sr.2 112) k n := by rw [hSr]; rfl
        have y58 : Sc'.2 58 = am_up (Sc.2 58) TS.length f := by rw [hSc]; rfl
        have y59 : Sc'.2 59 = am_up (Sc.2 59) TS.length (pr_V s n) := by rw [hSc]; rfl
        have y60 : Sc'.2 60 = am_up (Sc.2 60) TS.length d := by rw [hSc]; rfl
        have xc : Sr'.1 4755 = c := by rw [hSr]; rfl
        have hnek : ∀ t, t ∈ TS → t ≠ k := fun t ht e => hkn (e ▸ ht)
        refine ⟨TS ++ [k], fun t => ?_, ?_, fun t ht => ?_, ?_, ?_, ?_, ?_⟩
        · rw [x108]
          by_cases e : t = k
          · subst e
            rw [am_up_self]
            constructor
            · intro _; exact ⟨hk, by omega⟩
            · intro _; simp
          · rw [am_up_ne _ _ e, ← a1 t]; simp [e]
        · rw [x109, List.pairwise_append]
          refine ⟨a2.imp_of_mem (fun {x y} hx hy h => ?_), List.pairwise_singleton _ _, fun x hx y hy => ?_⟩
          · rw [am_up_ne _ _ (hnek x hx), am_up_ne _ _ (hnek y hy)]; exact h
          · rw [List.mem_singleton.mp hy, am_up_self, am_up_ne _ _ (hnek x hx)]
            have := a3 x hx
            omega
        · rw [x109, xc]
          rcases List.mem_append.mp ht with h1 | h1
          · rw [am_up_ne _ _ (hnek t h1)]
            have := a3 t h1
            omega
          · rw [List.mem_singleton.mp h1, am_up_self]; exact Int.le_refl _
        · rw [x259]; simp
        · rw [oc.1 260 (by decide), or'.1 4777 (by decide)]; exact a5
        · rw [or'.1 4777 (by decide)]; omega
        · intro i t hit
          unfold pr_TD
          rw [x108, x110, x111, x112, y58, y59, y60, or'.1 4745 (by decide)]
          rcases Nat.lt_or_ge i TS.length with hi | hi
          · rw [List.getElem?_append_left hi] at hit
            have htm : t ∈ TS := List.mem_of_getElem? hit
            have hne := hnek t htm
            obtain ⟨b1, b2, b3, b4, b5, b6⟩ := a7 i t hit
            rw [am_up_ne _ _ hne, am_up_ne _ _ hne, am_up_ne _ _ hne, am_up_ne _ _ hne, am_up_ne _ _ (by omega), am_up_ne _ _ (by omega), am_up_ne _ _ (by omega)]
            exact ⟨b1, b2, b3, b4, b5, by omega⟩
          · rw [List.getElem?_append_right hi] at hit
            have hi0 : i = TS.length := by
              rcases Nat.lt_or_ge (i - TS.length) 1 with h9 | h9
              · omega
              · rw [List.getElem?_eq_none (by simpa using h9)] at hit; cases hit
            subst hi0
            rw [Nat.sub_self] at hit
            have htk : t = k := by simpa using hit.symm
            subst htk
            rw [am_up_self, am_up_self, am_up_self, am_up_self, am_up_self, am_up_self, am_up_self]
            exact ⟨rfl, hf, rfl, hv, rfl, by omega⟩
