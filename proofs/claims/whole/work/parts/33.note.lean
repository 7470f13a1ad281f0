/-! single STEPS: what they need beside the core -/
def pr_disp (a1 x5 x11 x14 x17 x21 : Int) (S20 : am_S) : Option (Int × am_S) := (if x21 = 0 then (if x5 = 0 then (am_b1 (sf_X2_add x11 S20) (fun S24 => (some (0, S24)))) else (if x5 = 1 then (am_b1 (sf_X2_add x17 S20) (fun S26 => (some (0, S26)))) else (if x5 = 2 then (am_b1 (sf_X4_put 69 101 a1 x11 S20) (fun S28 => (some (0, S28)))) else (if x5 = 3 then (some (1, S20)) else (if x5 = 4 then (some (2, S20)) else (if x5 = 5 then (some (3, S20)) else (if x5 = 8 then (am_b2 (sf_X5_begin x14 x17 S20) (fun x31 S30 => (am_b2 (sf_X8_of 1 x31 S30) (fun x34 S33 => (am_b1 (sf_X4_put 69 101 a1 x34 S33) (fun S36 => (some (0, S36)))))))) else (if x5 = 9 then (am_b1 (sf_X3_settleBy x14 1 x17 0 S20) (fun S38 => (some (0, S38)))) else (if x5 = 10 then (am_b1 (sf_X3_settleBy x14 2 x17 0 S20) (fun S40 => (some (0, S40)))) else (if x5 = 11 then (am_b2 (sf_X8_numberOf x17 S20) (fun x43 S42 => (am_b2 (sf_X5_addHandlers x43 x14 (-1) S42) (fun x46 S45 => (am_b2 (sf_X8_of 1 x46 S45) (fun x49 S48 => (am_b1 (sf_X4_put 69 101 a1 x49 S48) (fun S51 => (some (0, S51)))))))))) else (if x5 = 12 then (am_b2 (sf_X6_add x14 x17 5 S20) (fun x54 S53 => (some (0, S53)))) else (if x5 = 13 then (am_b1 (sf_X5_jumpIfZero a1 x14 S20) (fun S56 => (some (0, S56)))) else (if x5 = 14 then (am_b1 (sf_X5_jumpIfAbove a1 x14 S20) (fun S58 => (some (0, S58)))) else (some (0, S20))))))))))))))) else (am_b2 (sf_X8_of 0 x21 S20) (fun x61 S60 => (am_b1 (sf_X4_put 69 101 a1 x61 S60) (fun S63 => (some (2, S63)))))))

theorem pr_RX_same {Sc Sr Sc' Sr' : am_S} {st : List Nat} (X : pr_RX Sc Sr st) (c67 : Sc'.2 67 = Sc.2 67) (c68 : Sc'.2 68 = Sc.2 68) (c69 : Sc'.2 69 = Sc.2 69) (c70 : Sc'.2 70 = Sc.2 70) (c71 : Sc'.2 71 = Sc.2 71) (c459 : Sc'.1 459 = Sc.1 459)
    (r79 : Sr'.2 79 = Sr.2 79) (r80 : Sr'.2 80 = Sr.2 80) (r83 : Sr'.2 83 = Sr.2 83) (r16 : Sr'.2 116 = Sr.2 116) (r17 : Sr'.2 117 = Sr.2 117) (r18 : Sr'.2 118 = Sr.2 118) (r19 : Sr'.2 119 = Sr.2 119) (r20 : Sr'.2 120 = Sr.2 120) (f4788 : Sr'.1 4788 = Sr.1 4788) (f4745 : Sr'.1 4745 = Sr.1 4745) : pr_RX Sc' Sr' st := by
  obtain ⟨h1, h2, h3, h4, h5⟩ := X
  refine ⟨pr_st_keep (Sc := Sc) (Sr := Sr) (by rw [f4745]; exact Int.le_refl _) h1 (fun b _ => by rw [c67, c68, c69, c70]; exact ⟨rfl, rfl, rfl, rfl⟩) (fun d _ => by rw [r16, r17, r18, r19, r20]; exact ⟨rfl, rfl, rfl, rfl, rfl⟩) (fun _ _ _ _ h => by rw [r83]; exact h), by rw [c459]; exact h2, by rw [f4788]; exact h3, fun r a b => ?_, fun p hp => ?_⟩
  · rw [f4745] at a
    rw [r83] at b
    rw [c67, c68, r79, r80]; exact h4 r a b
  · rw [f4745] at hp
    rw [c71, r83]; exact h5 p hp
theorem pr_tmod60 (t : Nat) : Int.tmod (t : Int) 60 = ((t % 60 : Nat) : Int) := by
  rw [Int.tmod_eq_emod_of_nonneg (by omega)]; omega
/-- Y where only cells of O change -/
theorem pr_Y_O {B : Int} {Sc Sr Sc' Sr' : am_S} (Z : pr_Y B Sc Sr) (hc : ∀ a, a < 52 ∨ 64 ≤ a → Sc'.2 a = Sc.2 a) (hcI : ∀ n, n ≤ 78 → Sc'.1 n = Sc.1 n) (hr : ∀ a, a ≤ 92 ∨ (102 ≤ a ∧ a ≤ 105) → Sr'.2 a = Sr.2 a) (hm : Sr'.1 4745 = Sr.1 4745) (hcl : Sr'.1 4755 = Sr.1 4755) (O' : pr_O B Sc' Sr') : pr_Y B Sc' Sr' := by
  obtain ⟨⟨KS, R⟩, O, G⟩ := Z
  have hjb : pr_jb Sr' = pr_jb Sr := funext fun k => pr_jb_congr (by rw [hr 84 (by omega)]) (by rw [hr 87 (by omega)]) (by rw [hr 88 (by omega)]) (by rw [hr 89 (by omega)])
  refine ⟨⟨KS, pr_RB_of R (hcI _ (by omega)) (hcI _ (by omega)) (hcI _ (by omega)) (hcI _ (by omega)) (hc 47 (by omega)) (hc 48 (by omega)) (hc 49 (by omega)) (hc 50 (by omega)) hm hcl (hr 84 (by omega)) (hr 85 (by omega)) (hr 86 (by omega)) (hr 87 (by omega)) (hr 88 (by omega)) (hr 89 (by omega)) (fun p _ h => ?_) (fun k _ hJ hO => ⟨?_, ?_⟩) (fun p _ _ => by rw [hc 71 (by omega)])⟩, O', ?_⟩
  · unfold pr_PD at h ⊢
    rw [hc 41 (by omega), hc 42 (by omega), hc 43 (by omega), hc 44 (by omega), hc 45 (by omega), hr 75 (by omega), hr 76 (by omega), hr 77 (by omega), hr 78 (by omega), hr 81 (by omega), hr 82 (by omega)]
    exact h
  · obtain ⟨p, hp, j⟩ := hJ
    refine ⟨p, hp, ?_⟩
    unfold pr_JK at j ⊢
    rw [hr 84 (by omega), hr 85 (by omega), hr 87 (by omega), hr 88 (by omega), hr 89 (by omega), hr 90 (by omega), hr 91 (by omega), hr 92 (by omega), hr 81 (by omega), hr 78 (by omega), hr 75 (by omega), hc 72 (by omega), hc 73 (by omega), hc 46 (by omega), hc 71 (by omega)]
    exact j
  · unfold pr_JO at hO ⊢
    rw [hjb, hr 84 (by omega), hr 85 (by omega), hr 90 (by omega), hr 91 (by omega), hr 92 (by omega), hr 75 (by omega), hr 76 (by omega), hr 77 (by omega), hc 51 (by omega)]
    exact hO
  · intro p k hk hk3 hkp
    rw [hr 84 (by omega)] at hk3
    rw [hr 87 (by omega)] at hkp
    refine pr_GD_keep (G p k ⟨hk.1, by have := hk.2; rw [hr 84 (by omega)] at this; exact this⟩ hk3 hkp) (by rw [hc 64 (by omega)]) (by rw [hc 65 (by omega)]) (by rw [hc 66 (by omega)]) (by rw [hr 102 (by omega)]) (by rw [hr 103 (by omega)]) (by rw [hr 104 (by omega)]) (by rw [hr 105 (by omega)]) (fun h => ?_)
    rw [hr 78 (by omega), hr 81 (by omega)]; exact h
/-- something is NOTED -/
theorem pr_note {B : Int} {Sc Sr : am_S} (Z : pr_Y B Sc Sr) (hB : B + 1 < 2000000000) {s n : Int} (hs : 0 ≤ s ∧ s ≤ 2) (hn : am_r32 n) :
    ∃ Sc' Sr', sf_X2_add (pr_V s n) Sc = some Sc' ∧ sf_X10_note s n Sr = some Sr' ∧ pr_Y (B + 1) Sc' Sr' ∧ pr_out [322] [61, 62] Sc Sc' ∧ pr_out [4782] [113, 114, 115] Sr Sr' := by
  have Z0 := Z
  obtain ⟨R, ⟨o1, o2, o3, ⟨n1, n2, n3, n4, n5⟩, o5⟩, G⟩ := Z
  obtain ⟨t, ht⟩ : ∃ t : Nat, Sr.1 4782 = (t : Int) := ⟨(Sr.1 4782).toNat, by omega⟩
  have htc : Sc.1 322 = (t : Int) := n1.trans ht
  have hi : t % 60 < 60 := by omega
  have hm4 := (pr_Y_m Z0).2.2.2.1
  obtain ⟨v, hv1, hv2⟩ : ∃ v, v = am_w32 ((t : Int) + 1) ∧ v = (t : Int) + 1 := ⟨_, rfl, pr_w (by omega) (by omega)⟩
  obtain ⟨Sc', hSc⟩ : ∃ Sc', Sc' = am_sI (am_sA (am_sA Sc 61 (t % 60) (pr_V s n)) 62 (t % 60) (Sc.1 323)) 322 v := ⟨_, rfl⟩
  obtain ⟨Sr', hSr⟩ : ∃ Sr', Sr' = am_sI (am_sA (am_sA (am_sA Sr 113 (t % 60) s) 114 (t % 60) n) 115 (t % 60) (Sr.1 4778)) 4782 v := ⟨_, rfl⟩
  have oc : pr_out [322] [61, 62] Sc Sc' := by
    rw [hSc]
    refine pr_out_sI (pr_out_sA (pr_out_sA (pr_out_refl _) ?_) ?_) ?_ <;> decide
  have or' : pr_out [4782] [113, 114, 115] Sr Sr' := by
    rw [hSr]
    refine pr_out_sI (pr_out_sA (pr_out_sA (pr_out_sA (pr_out_refl _) ?_) ?_) ?_) ?_ <;> decide
  refine ⟨Sc', Sr', ?_, ?_, ?_, oc, or'⟩
  · unfold sf_X2_add
    have q1 : (am_sA Sc 61 (t % 60) (pr_V s n)).1 322 = (t : Int) := htc
    have q2 : (am_sA Sc 61 (t % 60) (pr_V s n)).1 323 = Sc.1 323 := rfl
    have q3 : (am_sA (am_sA Sc 61 (t % 60) (pr_V s n)) 62 (t % 60) (Sc.1 323)).1 322 = (t : Int) := htc
    rw [htc, pr_tmod60, pr_putn hi, pr_b1, q1, q2, pr_tmod60, pr_putn hi, pr_b1, q3, pr_let, ← hv1, hSc]
  · unfold sf_X10_note
    have q1 : (am_sA Sr 113 (t % 60) s).1 4782 = (t : Int) := ht
    have q2 : (am_sA (am_sA Sr 113 (t % 60) s) 114 (t % 60) n).1 4782 = (t : Int) := ht
    have q3 : (am_sA (am_sA Sr 113 (t % 60) s) 114 (t % 60) n).1 4778 = Sr.1 4778 := rfl
    have q4 : (am_sA (am_sA (am_sA Sr 113 (t % 60) s) 114 (t % 60) n) 115 (t % 60) (Sr.1 4778)).1 4782 = (t : Int) := ht
    rw [ht, pr_tmod60, pr_gdn hi, Int.toNat_natCast, pr_let, q1, pr_tmod60, pr_gdn hi, Int.toNat_natCast, pr_let, q2, q3, pr_tmod60, pr_gdn hi, Int.toNat_natCast, pr_let, q4, pr_let, ← hv1, hSr]
  · refine pr_Y_O (pr_Y_mono Z0 (by omega) hB) (fun a ha => oc.2 a (by simp; omega)) (fun n hn => oc.1 n (by simp; omega)) (fun a ha => or'.2 a (by simp; omega)) (or'.1 _ (by decide)) (or'.1 _ (by decide)) ?_
    obtain ⟨p1, p2, p3, p4, p5⟩ := pr_O_mono Z0.2.1 (show B ≤ B + 1 by omega)
    have e1 : Sr'.1 4782 = (t : Int) + 1 := by rw [hSr, ← hv2]; rfl
    have e2 : Sc'.1 322 = (t : Int) + 1 := by rw [hSc, ← hv2]; rfl
    refine ⟨?_, ?_, ?_, ?_, ?_⟩
    · intro q hq
      rw [oc.2 52 (by decide), oc.2 53 (by decide), oc.2 54 (by decide), or'.2 93 (by decide), or'.2 94 (by decide), or'.2 95 (by decide), or'.2 96 (by decide), or'.2 97 (by decide), or'.1 4745 (by decide)]
      exact p1 q hq
    · intro f hf
      rw [oc.2 55 (by decide), or'.2 98 (by decide)]
      obtain ⟨a1, a2, a3, a4⟩ := p2 f hf
      exact ⟨a1, a2, a3, fun i hi => pr_SD_same (a4 i hi) (by rw [oc.2 56 (by decide)]) (by rw [oc.2 57 (by decide)]) (by rw [or'.2 99 (by decide)]) (by rw [or'.2 100 (by decide)]) (by rw [or'.2 101 (by decide)])⟩
    · unfold pr_RK pr_TD at p3 ⊢
      rw [oc.1 259 (by decide), oc.1 260 (by decide), oc.2 58 (by decide), oc.2 59 (by decide), oc.2 60 (by decide), or'.2 108 (by decide), or'.2 109 (by decide), or'.2 110 (by decide), or'.2 111 (by decide), or'.2 112 (by decide), or'.1 4745 (by decide), or'.1 4755 (by decide), or'.1 4777 (by decide)]
      exact p3
    · refine ⟨by rw [e1, e2], by rw [e1]; omega, by rw [oc.1 323 (by decide), or'.1 4778 (by decide)]; exact n3, by rw [or'.1 4778 (by decide)]; exact n4, fun i hi60 hit => ?_⟩
      rw [e1] at hit
      have x61 : Sc'.2 61 = am_up (Sc.2 61) (t % 60) (pr_V s n) := by rw [hSc]; rfl
      have x62 : Sc'.2 62 = am_up (Sc.2 62) (t % 60) (Sc.1 323) := by rw [hSc]; rfl
      have x13 : Sr'.2 113 = am_up (Sr.2 113) (t % 60) s := by rw [hSr]; rfl
      have x14 : Sr'.2 114 = am_up (Sr.2 114) (t % 60) n := by rw [hSr]; rfl
      have x15 : Sr'.2 115 = am_up (Sr.2 115) (t % 60) (Sr.1 4778) := by rw [hSr]; rfl
      rw [x61, x62, x13, x14, x15]
      by_cases e : i = t % 60
      · rw [e, am_up_self, am_up_self, am_up_self, am_up_self, am_up_self]
        exact ⟨rfl, hs, hn, n3, n4⟩
      · rw [am_up_ne _ _ e, am_up_ne _ _ e, am_up_ne _ _ e, am_up_ne _ _ e, am_up_ne _ _ e]
        exact n5 i hi60 (by omega)
    · obtain ⟨a1, a2, a3⟩ := p5
      refine ⟨by rw [oc.1 389 (by decide), or'.1 4771 (by decide)]; exact a1, by rw [or'.1 4771 (by decide)]; exact a2, ?_⟩
      rw [or'.1 4771 (by decide), or'.1 4745 (by decide), oc.2 63 (by decide), or'.2 106 (by decide), or'.2 107 (by decide)]
      exact a3
