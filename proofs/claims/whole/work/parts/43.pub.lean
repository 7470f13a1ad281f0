/-! public calls that change something -/
theorem pr_I_core {B B2 : Int} {Sc Sr Sc' Sr' : am_S} (I : pr_I B Sc Sr) (Z : pr_Y B2 Sc' Sr') (hc : pr_kC Sc Sc') (hr : pr_kR Sr Sr') (h83 : ∀ q : Nat, (q : Int) < Sr.1 4745 → Sr'.2 83 q = Sr.2 83 q) (h83n : ∀ r : Nat, Sr.1 4745 ≤ (r : Int) → (r : Int) < Sr'.1 4745 → Sr'.2 83 r = 0 ∧ Sc'.2 71 r = 0) (h71 : Sc'.2 71 = Sc.2 71) : pr_I B2 Sc' Sr' := by
  obtain ⟨_, h1, h2, h3⟩ := I
  refine ⟨Z, by rw [hc.2 459 (by omega)]; exact h1, pr_SP_core h2 hc hr (fun r hr1 hr2 => ?_), pr_FL_core h3 h83 h83n h71⟩
  rcases Int.lt_or_le (r : Int) (Sr.1 4745) with h | h
  · exact ⟨h, by rw [← h83 r h]; exact hr2⟩
  · have := (h83n r h hr1).1; omega
theorem pr_I_same {B B2 : Int} {Sc Sr Sc' Sr' : am_S} (I : pr_I B Sc Sr) (Z : pr_Y B2 Sc' Sr') (c67 : Sc'.2 67 = Sc.2 67) (c68 : Sc'.2 68 = Sc.2 68) (c71 : Sc'.2 71 = Sc.2 71) (c459 : Sc'.1 459 = Sc.1 459) (r79 : Sr'.2 79 = Sr.2 79) (r80 : Sr'.2 80 = Sr.2 80) (r83 : Sr'.2 83 = Sr.2 83) (hm : Sr'.1 4745 = Sr.1 4745) : pr_I B2 Sc' Sr' := by
  obtain ⟨_, h1, h2, h3⟩ := I
  refine ⟨Z, by rw [c459]; exact h1, fun r a b => ?_, fun p hp => ?_⟩
  · rw [hm] at a
    rw [r83] at b
    rw [c67, c68, r79, r80]; exact h2 r a b
  · rw [hm] at hp
    rw [c71, r83]; exact h3 p hp
theorem pr_valC1 {Sc : am_S} {m s n : Int} (h : Sc.1 75 = m) (hv : pr_VV m s n) : sf_X9_isValue s n Sc = some (1, Sc) := by
  have hex : sf_X8_exists s n m Sc = some (1, Sc) := by
    unfold sf_X8_exists
    rcases hv.2 with h1 | ⟨h1, h2⟩ | ⟨h1, h2⟩
    · rw [if_pos h1]
    · rw [if_neg (by omega), if_pos h1, pr_iw1 h2, pr_b2, pr_gz1]
    · rw [if_neg (by omega), if_neg (by omega), if_pos h1, pr_iw1 h2, pr_b2, pr_gz1]
  unfold sf_X9_isValue sf_X3_made
  rw [pr_b2, h, hex, pr_b2, pr_gz1]
theorem pr_valC0 {Sc : am_S} {m s n : Int} (h : Sc.1 75 = m) (hn : am_r32 n) (hv : ¬ pr_VV m s n) : sf_X9_isValue s n Sc = some (0, Sc) := by
  have hex : sf_X8_exists s n m Sc = some (0, Sc) := by
    unfold sf_X8_exists
    rw [if_neg (fun h1 => hv ⟨hn, Or.inl h1⟩)]
    by_cases h1 : s = 1
    · rw [if_pos h1, pr_iw0 (fun h2 => hv ⟨hn, Or.inr (Or.inl ⟨h1, h2⟩)⟩), pr_b2, pr_gz0]
    · rw [if_neg h1]
      by_cases h3 : s = 2
      · rw [if_pos h3, pr_iw0 (fun h2 => hv ⟨hn, Or.inr (Or.inr ⟨h3, h2⟩)⟩), pr_b2, pr_gz0]
      · rw [if_neg h3]
  unfold sf_X9_isValue sf_X3_made
  rw [pr_b2, h, hex, pr_b2, pr_gz0]
theorem pr_valR1 {Sr : am_S} (hm : 0 ≤ Sr.1 4745 ∧ Sr.1 4745 ≤ 100) {s n : Int} (hv : pr_VV (Sr.1 4745) s n) : sf_X10_isValue s n Sr = some (1, Sr) := by
  unfold sf_X10_isValue sf_X10_isValue_17
  rcases hv.2 with h1 | ⟨h1, h2⟩ | ⟨h1, h2⟩
  · rw [if_pos h1]
  · rw [if_neg (by omega), if_pos h1, pr_isPromise hm, if_pos h2, pr_b2, if_neg (by decide)]
  · rw [if_neg (by omega), if_neg (by omega), if_pos h1, pr_in1 (by omega), pr_b2, if_neg (by decide)]
theorem pr_valR0 {Sr : am_S} (hm : 0 ≤ Sr.1 4745 ∧ Sr.1 4745 ≤ 100) {s n : Int} (hn : am_r32 n) (hv : ¬ pr_VV (Sr.1 4745) s n) : sf_X10_isValue s n Sr = some (0, Sr) := by
  unfold sf_X10_isValue sf_X10_isValue_17
  rw [if_neg (fun h1 => hv ⟨hn, Or.inl h1⟩)]
  by_cases h1 : s = 1
  · rw [if_pos h1, pr_isPromise hm, if_neg (fun h2 => hv ⟨hn, Or.inr (Or.inl ⟨h1, h2⟩)⟩), pr_b2, if_pos rfl, if_neg (by omega)]
  · rw [if_neg h1]
    by_cases h3 : s = 2
    · rw [if_pos h3, pr_in0 (fun h2 => hv ⟨hn, Or.inr (Or.inr ⟨h3, by omega⟩)⟩), pr_b2, if_pos rfl]
    · rw [if_neg h3]
theorem pr_hasC1 {Sc : am_S} {m p : Int} (h : Sc.1 75 = m) (hp : 0 ≤ p ∧ p < m) : sf_X3_has p Sc = some (1, Sc) := by rw [pr_has h, if_pos hp]
theorem pr_hasC0 {Sc : am_S} {m p : Int} (h : Sc.1 75 = m) (hp : ¬ (0 ≤ p ∧ p < m)) : sf_X3_has p Sc = some (0, Sc) := by rw [pr_has h, if_neg hp]
theorem pr_isP1 {Sr : am_S} (hm : 0 ≤ Sr.1 4745 ∧ Sr.1 4745 ≤ 100) {p : Int} (hp : 0 ≤ p ∧ p < Sr.1 4745) : sf_X10_isPromise p Sr = some (1, Sr) := by rw [pr_isPromise hm, if_pos hp]
theorem pr_isP0 {Sr : am_S} (hm : 0 ≤ Sr.1 4745 ∧ Sr.1 4745 ≤ 100) {p : Int} (hp : ¬ (0 ≤ p ∧ p < Sr.1 4745)) : sf_X10_isPromise p Sr = some (0, Sr) := by rw [pr_isPromise hm, if_neg hp]
theorem pr_isFn1 {f : Int} (h : 0 ≤ f ∧ f < 10) (S : am_S) : sf_X9_isFunction f S = some (1, S) := by
  unfold sf_X9_isFunction
  rw [pr_iw1 h, pr_b2, pr_gz1]
theorem pr_isFn0 {f : Int} (h : ¬ (0 ≤ f ∧ f < 10)) (S : am_S) : sf_X9_isFunction f S = some (0, S) := by
  unfold sf_X9_isFunction
  rw [pr_iw0 h, pr_b2, pr_gz0]
theorem pr_isH1 {f : Int} (h : -1 ≤ f ∧ f < 10) (S : am_S) : sf_X9_isHandler f S = some (1, S) := by
  unfold sf_X9_isHandler
  by_cases h1 : f = -1
  · rw [if_pos h1]
  · rw [if_neg h1, pr_isFn1 (by omega), pr_b2, if_neg (by decide)]
theorem pr_isH0 {f : Int} (h : ¬ (-1 ≤ f ∧ f < 10)) (S : am_S) : sf_X9_isHandler f S = some (0, S) := by
  unfold sf_X9_isHandler
  rw [if_neg (by omega), pr_isFn0 (by omega), pr_b2, if_pos rfl]
theorem pr_full0 {Sc : am_S} {m : Int} (h : Sc.1 75 = m) (hm : m < 100) : sf_X3_isFull Sc = some (0, Sc) := by rw [pr_isFull h, if_pos hm]
theorem pr_full1 {Sc : am_S} {m : Int} (h : Sc.1 75 = m) (hm : ¬ m < 100) : sf_X3_isFull Sc = some (1, Sc) := by rw [pr_isFull h, if_neg hm]
theorem pr_pub_promise {B : Int} {Sc Sr : am_S} (I : pr_I B Sc Sr) (hB : B + 2000000 < 2000000000) : pr_pub B Sc Sr sf_X9_promise sf_X10_promise := by
  obtain ⟨m1, m2, m3, m4, m5⟩ := pr_Y_m I.1
  unfold pr_pub sf_X9_promise
  by_cases hm : Sr.1 4745 < 100
  · obtain ⟨Sc', Sr', p, e1, e2, e3, e4, e5, e6, e7, e8, e9, e10, -⟩ := pr_Ymake I.1 hm
    refine ⟨(p : Int), Sc', Sr', ?_, e3, pr_I_mono (pr_I_core I e4 e6 e7 (fun q hq => (e10 q (by omega)).2.2.2) (fun r h1 h2 => ?_) e9) (by omega) hB⟩
    · rw [pr_full0 m1 hm, pr_b2, if_pos rfl, e2, pr_b2]
    · have : r = p := by omega
      subst this; exact ⟨e8.2.2.2.1, e8.2.2.2.2⟩
  · refine ⟨-2, Sc, Sr, ?_, pr_promise_full (by omega), pr_I_mono I (by omega) hB⟩
    rw [pr_full1 m1 hm, pr_b2, if_neg (by decide)]
theorem pr_pub_settle {B : Int} {Sc Sr : am_S} (I : pr_I B Sc Sr) (hB : B + 2000000 < 2000000000) {p how s n : Int} (hw : how = 1 ∨ how = 2) (hn : am_r32 n) :
    ∃ (x : Int) (Sc' Sr' : am_S), (x = 0 ∨ x = 1) ∧ sf_X9_settleFromOutside p how s n Sc = some (x, Sc') ∧ (how = 1 → sf_X10_resolve p s n Sr = some (x, Sr')) ∧ (how = 2 → sf_X10_reject p s n Sr = some (x, Sr')) ∧ pr_I (B + 2000000) Sc' Sr' := by
  obtain ⟨m1, m2, m3, m4, m5⟩ := pr_Y_m I.1
  unfold sf_X9_settleFromOutside sf_X10_resolve sf_X10_reject
  by_cases hp : 0 ≤ p ∧ p < Sr.1 4745
  · by_cases hv : pr_VV (Sr.1 4745) s n
    · obtain ⟨q, hq⟩ : ∃ q : Nat, p = (q : Int) := ⟨p.toNat, by omega⟩
      obtain ⟨Sc', Sr', g1, g2, g3, g4, g5, g6, g7, g8, g9, g10, -⟩ := pr_Ysettle I.1 (by omega) (p := q) (how := how) (s := s) (n := n) (k := 0) (by omega) hw hv (pr_free0 I.1)
      refine ⟨1, Sc', Sr', Or.inr rfl, ?_, fun h => ?_, fun h => ?_, pr_I_mono (pr_I_core I g5 g6 g7 (fun q _ => by rw [g10]) (fun r h1 h2 => by omega) g9) (by omega) hB⟩
      · rw [pr_hasC1 m1 hp, pr_b2, if_neg (by decide), pr_valC1 m1 hv, pr_b2, if_neg (by decide), pr_of (pr_VV_s hv), pr_b2, hq, g1, pr_b1]
      · rw [pr_isP1 ⟨m2, m3⟩ hp, pr_b2, if_neg (by decide), pr_valR1 ⟨m2, m3⟩ hv, pr_b2, if_neg (by decide), hq, g3 h, pr_b1]
      · rw [pr_isP1 ⟨m2, m3⟩ hp, pr_b2, if_neg (by decide), pr_valR1 ⟨m2, m3⟩ hv, pr_b2, if_neg (by decide), hq, g4 h, pr_b1]
    · refine ⟨0, Sc, Sr, Or.inl rfl, ?_, fun _ => ?_, fun _ => ?_, pr_I_mono I (by omega) hB⟩
      · rw [pr_hasC1 m1 hp, pr_b2, if_neg (by decide), pr_valC0 m1 hn hv, pr_b2, if_pos rfl]
      · rw [pr_isP1 ⟨m2, m3⟩ hp, pr_b2, if_neg (by decide), pr_valR0 ⟨m2, m3⟩ hn hv, pr_b2, if_pos rfl]
      · rw [pr_isP1 ⟨m2, m3⟩ hp, pr_b2, if_neg (by decide), pr_valR0 ⟨m2, m3⟩ hn hv, pr_b2, if_pos rfl]
  · refine ⟨0, Sc, Sr, Or.inl rfl, ?_, fun _ => ?_, fun _ => ?_, pr_I_mono I (by omega) hB⟩
    · rw [pr_hasC0 m1 hp, pr_b2, if_pos rfl]
    · rw [pr_isP0 ⟨m2, m3⟩ hp, pr_b2, if_pos rfl]
    · rw [pr_isP0 ⟨m2, m3⟩ hp, pr_b2, if_pos rfl]
theorem pr_pub_resolve {B : Int} {Sc Sr : am_S} (I : pr_I B Sc Sr) (hB : B + 2000000 < 2000000000) (p s : Int) {n : Int} (hn : am_r32 n) : pr_pub B Sc Sr (sf_X9_resolve p s n) (sf_X10_resolve p s n) := by
  obtain ⟨x, Sc', Sr', h0, h1, h2, -, h4⟩ := pr_pub_settle I hB (p := p) (how := 1) (s := s) (Or.inl rfl) hn
  refine ⟨x, Sc', Sr', ?_, h2 rfl, h4⟩
  unfold sf_X9_resolve
  rw [h1, pr_b2, pr_gz h0]
theorem pr_pub_reject {B : Int} {Sc Sr : am_S} (I : pr_I B Sc Sr) (hB : B + 2000000 < 2000000000) (p s : Int) {n : Int} (hn : am_r32 n) : pr_pub B Sc Sr (sf_X9_reject p s n) (sf_X10_reject p s n) := by
  obtain ⟨x, Sc', Sr', h0, h1, -, h3, h4⟩ := pr_pub_settle I hB (p := p) (how := 2) (s := s) (Or.inr rfl) hn
  refine ⟨x, Sc', Sr', ?_, h3 rfl, h4⟩
  unfold sf_X9_reject
  rw [h1, pr_b2, pr_gz h0]
theorem pr_pub_then {B : Int} {Sc Sr : am_S} (I : pr_I B Sc Sr) (hB : B + 2000000 < 2000000000) (p f g : Int) : pr_pub B Sc Sr (sf_X9_then p f g) (sf_X10_then p f g) := by
  obtain ⟨m1, m2, m3, m4, m5⟩ := pr_Y_m I.1
  unfold pr_pub sf_X9_then sf_X10_then
  by_cases hp : 0 ≤ p ∧ p < Sr.1 4745
  · by_cases hf : -1 ≤ f ∧ f < 10
    · by_cases hg : -1 ≤ g ∧ g < 10
      · by_cases hm : Sr.1 4745 < 100
        · obtain ⟨q, hq⟩ : ∃ q : Nat, p = (q : Int) := ⟨p.toNat, by omega⟩
          obtain ⟨Sc', Sr', Rm, d, e1, e2, e3, e4, e5, e6, e7, e8, e9, e10, e11⟩ := pr_handlers I.1 (by omega) hm (q := q) (by omega) hf hg
          have hd0 : ¬ (d : Int) < 0 := by omega
          refine ⟨(d : Int), Sc', Sr', ?_, ?_, pr_I_mono (pr_I_core I e5 e6 e7 e10 e11 e9) (by omega) hB⟩
          · rw [pr_hasC1 m1 hp, pr_b2, if_neg (by decide), pr_isH1 hf, pr_b2, if_neg (by decide), pr_isH1 hg, pr_b2, if_neg (by decide), pr_full0 m1 hm, pr_b2, if_pos rfl, hq, e2, pr_b2]
          · rw [pr_isP1 ⟨m2, m3⟩ hp, pr_b2, if_neg (by decide), pr_in1 (by omega), pr_b2, if_neg (by decide), pr_in1 (by omega), pr_b2, if_neg (by decide), e3, pr_b2, if_neg hd0, hq, e4, pr_b1]
        · refine ⟨-2, Sc, Sr, ?_, ?_, pr_I_mono I (by omega) hB⟩
          · rw [pr_hasC1 m1 hp, pr_b2, if_neg (by decide), pr_isH1 hf, pr_b2, if_neg (by decide), pr_isH1 hg, pr_b2, if_neg (by decide), pr_full1 m1 hm, pr_b2, if_neg (by decide)]
          · rw [pr_isP1 ⟨m2, m3⟩ hp, pr_b2, if_neg (by decide), pr_in1 (by omega), pr_b2, if_neg (by decide), pr_in1 (by omega), pr_b2, if_neg (by decide), pr_promise_full (by omega), pr_b2, if_pos (by decide)]
      · refine ⟨-1, Sc, Sr, ?_, ?_, pr_I_mono I (by omega) hB⟩
        · rw [pr_hasC1 m1 hp, pr_b2, if_neg (by decide), pr_isH1 hf, pr_b2, if_neg (by decide), pr_isH0 hg, pr_b2, if_pos rfl]
        · rw [pr_isP1 ⟨m2, m3⟩ hp, pr_b2, if_neg (by decide), pr_in1 (by omega), pr_b2, if_neg (by decide), pr_in0 (by omega), pr_b2, if_pos rfl]
    · refine ⟨-1, Sc, Sr, ?_, ?_, pr_I_mono I (by omega) hB⟩
      · rw [pr_hasC1 m1 hp, pr_b2, if_neg (by decide), pr_isH0 hf, pr_b2, if_pos rfl]
      · rw [pr_isP1 ⟨m2, m3⟩ hp, pr_b2, if_neg (by decide), pr_in0 (by omega), pr_b2, if_pos rfl]
  · refine ⟨-1, Sc, Sr, ?_, ?_, pr_I_mono I (by omega) hB⟩
    · rw [pr_hasC0 m1 hp, pr_b2, if_pos rfl]
    · rw [pr_isP0 ⟨m2, m3⟩ hp, pr_b2, if_pos rfl]
theorem pr_pub_start {B : Int} {Sc Sr : am_S} (I : pr_I B Sc Sr) (hB : B + 2000000 < 2000000000) (f s : Int) {n : Int} (hn : am_r32 n) : pr_pub B Sc Sr (sf_X9_start f s n) (sf_X10_start f s n) := by
  obtain ⟨m1, m2, m3, m4, m5⟩ := pr_Y_m I.1
  unfold pr_pub sf_X9_start sf_X10_start
  by_cases hf : 0 ≤ f ∧ f < 10
  · by_cases hv : pr_VV (Sr.1 4745) s n
    · by_cases hm : Sr.1 4745 < 100
      · obtain ⟨Cm, Rm, p, e1, e2, e3, e4, e5, e6, e7, e8, e9, e10, -⟩ := pr_Ymake I.1 hm
        have Im := pr_I_core I e4 e6 e7 (fun q hq => (e10 q (by omega)).2.2.2) (fun r h1 h2 => by
          have : r = p := by omega
          subst this; exact ⟨e8.2.2.2.1, e8.2.2.2.2⟩) e9
        obtain ⟨R2, hR2⟩ : ∃ R2, R2 = am_sI (am_sI Rm 4789 0) 4788 (-1) := ⟨_, rfl⟩
        have oR2 : pr_out [4788, 4789, 4790, 4791, 4792] [79, 80, 83, 116, 117, 118, 119, 120] Rm R2 := by
          rw [hR2]; exact pr_out_sI (pr_out_sI (pr_out_refl _) (by decide)) (by decide)
        have Z2 : pr_Y B Cm R2 := pr_Y_run e4 (pr_out_refl _) oR2
        have X2 : pr_RX Cm R2 [] := by
          refine ⟨True.intro, Im.2.1, by rw [hR2]; rfl, ?_, ?_⟩
          · rw [hR2]; exact Im.2.2.1
          · rw [hR2]; exact Im.2.2.2
        have mR2 : R2.1 4745 = Rm.1 4745 := oR2.1 _ (by decide)
        obtain ⟨C3, R3, g1, g2, g3, g4, g5, g6, -⟩ := pr_begin Z2 X2 (a := p) (f := f) (s := s) (n := n) hf (pr_VV_mono hv (by omega)) (by omega) (by simp) (fun _ => ⟨by omega, by rw [hR2]; exact e8.2.2.2.1⟩) (fun h => by omega)
        rw [if_neg (show ¬ p = 100 by omega)] at g2
        obtain ⟨Sc', Sr', u1, u2, u3⟩ := pr_go (dn := -2) g3 g4 ⟨fun h => by simp at h; omega, fun _ => by omega⟩ (by rw [g6.1 4789 (by decide), hR2]; rfl) (by omega)
        have hp0 : (0 : Int) ≤ (p : Int) := by omega
        refine ⟨(p : Int), Sc', Sr', ?_, ?_, pr_I_mono (pr_I_of (u3.2 (by omega)).1 (u3.2 (by omega)).2) (by omega) hB⟩
        · unfold sf_X5_begin
          rw [pr_isFn1 hf, pr_b2, if_neg (by decide), pr_valC1 m1 hv, pr_b2, if_neg (by decide), pr_full0 m1 hm, pr_b2, if_pos rfl, pr_of (pr_VV_s hv), pr_b2, e2, pr_b2, g1, pr_b1, pr_b2, u1, pr_b1]
        · rw [pr_in1 (by omega), pr_b2, if_neg (by decide), pr_valR1 ⟨m2, m3⟩ hv, pr_b2, if_neg (by decide), e3, pr_b2, if_pos hp0, pr_let, pr_let, ← hR2, g2, pr_b1, u2, pr_b1]
      · refine ⟨-2, Sc, Sr, ?_, ?_, pr_I_mono I (by omega) hB⟩
        · rw [pr_isFn1 hf, pr_b2, if_neg (by decide), pr_valC1 m1 hv, pr_b2, if_neg (by decide), pr_full1 m1 hm, pr_b2, if_neg (by decide)]
        · rw [pr_in1 (by omega), pr_b2, if_neg (by decide), pr_valR1 ⟨m2, m3⟩ hv, pr_b2, if_neg (by decide), pr_promise_full (by omega), pr_b2, if_neg (by decide)]
    · refine ⟨-1, Sc, Sr, ?_, ?_, pr_I_mono I (by omega) hB⟩
      · rw [pr_isFn1 hf, pr_b2, if_neg (by decide), pr_valC0 m1 hn hv, pr_b2, if_pos rfl]
      · rw [pr_in1 (by omega), pr_b2, if_neg (by decide), pr_valR0 ⟨m2, m3⟩ hn hv, pr_b2, if_pos rfl]
  · refine ⟨-1, Sc, Sr, ?_, ?_, pr_I_mono I (by omega) hB⟩
    · rw [pr_isFn0 hf, pr_b2, if_pos rfl]
    · rw [pr_in0 (by omega), pr_b2, if_pos rfl]
theorem pr_count66 (S : am_S) : ∀ (fu i c : Nat), i ≤ 32 → 32 - i < fu → c ≤ i → sf_X10_count_66 fu (c : Int) (i : Int) S = some (((c + pr_cnt (fun t => decide (0 ≤ S.2 108 t)) 32 - pr_cnt (fun t => decide (0 ≤ S.2 108 t)) i : Nat) : Int), S) := by
  intro fu
  induction fu with
  | zero => intro i c _ h; omega
  | succ fu ih =>
    intro i c hi hfu hc
    simp only [sf_X10_count_66]
    by_cases h8 : (32 : Int) ≤ (i : Int)
    · have : i = 32 := by omega
      subst this
      rw [if_pos h8, Nat.add_sub_cancel]
    · rw [if_neg h8]
      have hi8 : i < 32 := by omega
      simp only [pr_gdn hi8, Int.toNat_natCast]
      rw [pr_ws (show i < 2000000000 by omega), pr_ws (show c < 2000000000 by omega)]
      have hs : pr_cnt (fun t => decide (0 ≤ S.2 108 t)) (i + 1) = (if decide (0 ≤ S.2 108 i) = true then 1 else 0) + pr_cnt (fun t => decide (0 ≤ S.2 108 t)) i := rfl
      by_cases hl : S.2 108 i < 0
      · rw [if_pos hl, ih (i + 1) c (by omega) (by omega) (by omega), hs, if_neg (by simp; omega), Nat.zero_add]
      · rw [if_neg hl, ih (i + 1) (c + 1) (by omega) (by omega) (by omega), hs, if_pos (by simp; omega)]
        have e : ∀ A B : Nat, c + 1 + A - (1 + B) = c + A - B := fun A B => by omega
        rw [e]
theorem pr_count3 {B : Int} {Sc Sr : am_S} (K : pr_RK B Sc Sr) : sf_X10_count 3 Sr = some (Sc.1 259, Sr) := by
  obtain ⟨TS, q1, q2, q3, q4, q5⟩ := pr_tasks K
  have h := pr_count66 Sr 1000 0 0 (by omega) (by omega) (by omega)
  have h' : sf_X10_count_66 1000 0 0 Sr = _ := h
  unfold sf_X10_count
  rw [if_neg (by decide), if_neg (by decide), if_neg (by decide), if_pos rfl, h', q5, q1]
  simp [pr_cnt]
theorem pr_pub_later {B : Int} {Sc Sr : am_S} (I : pr_I B Sc Sr) (hB : B + 2000000 < 2000000000) (f s : Int) {n : Int} (hn : am_r32 n) (dt : Int) : pr_pub B Sc Sr (sf_X9_later f s n dt) (sf_X10_later f s n dt) := by
  obtain ⟨m1, m2, m3, m4, m5⟩ := pr_Y_m I.1
  unfold pr_pub sf_X9_later sf_X10_later
  by_cases hf : 0 ≤ f ∧ f < 10
  · by_cases hv : pr_VV (Sr.1 4745) s n
    · by_cases hd : 0 ≤ dt ∧ dt < 1001
      · obtain ⟨k1, k2⟩ := pr_task I.1 (by omega) hf hv (dt := dt) (by omega)
        by_cases hful : Sc.1 259 < 32
        · obtain ⟨Sc', Sr', g1, g2, g3, g4, g5, g6⟩ := k2 hful
          refine ⟨Sc.1 259 + 1, Sc', Sr', ?_, ?_, pr_I_mono (pr_I_same I g3 (g5.2 _ (by decide)) (g5.2 _ (by decide)) (g5.2 _ (by decide)) (g5.1 _ (by decide)) (g6.2 _ (by decide)) (g6.2 _ (by decide)) (g6.2 _ (by decide)) (g6.1 _ (by decide))) (by omega) hB⟩
          · unfold sf_X6_isFull
            rw [pr_isFn1 hf, pr_b2, if_neg (by decide), pr_valC1 m1 hv, pr_b2, if_neg (by decide), pr_iw1 hd, pr_b2, if_neg (by decide), if_pos hful, pr_b2, if_pos rfl, pr_of (pr_VV_s hv), pr_b2, g1, pr_b2]
          · rw [pr_in1 (by omega), pr_b2, if_neg (by decide), pr_valR1 ⟨m2, m3⟩ hv, pr_b2, if_neg (by decide), pr_in1 (by omega), pr_b2, if_neg (by decide), g2, pr_b2, if_neg (by decide), pr_count3 g3.2.1.2.2.1, pr_b2, g4]
        · refine ⟨-2, Sc, Sr, ?_, ?_, pr_I_mono I (by omega) hB⟩
          · unfold sf_X6_isFull
            rw [pr_isFn1 hf, pr_b2, if_neg (by decide), pr_valC1 m1 hv, pr_b2, if_neg (by decide), pr_iw1 hd, pr_b2, if_neg (by decide), if_neg hful, pr_b2, if_neg (by decide)]
          · rw [pr_in1 (by omega), pr_b2, if_neg (by decide), pr_valR1 ⟨m2, m3⟩ hv, pr_b2, if_neg (by decide), pr_in1 (by omega), pr_b2, if_neg (by decide), k1 (by omega), pr_b2, if_pos rfl]
      · refine ⟨-1, Sc, Sr, ?_, ?_, pr_I_mono I (by omega) hB⟩
        · rw [pr_isFn1 hf, pr_b2, if_neg (by decide), pr_valC1 m1 hv, pr_b2, if_neg (by decide), pr_iw0 hd, pr_b2, if_pos rfl]
        · rw [pr_in1 (by omega), pr_b2, if_neg (by decide), pr_valR1 ⟨m2, m3⟩ hv, pr_b2, if_neg (by decide), pr_in0 (by omega), pr_b2, if_pos rfl]
    · refine ⟨-1, Sc, Sr, ?_, ?_, pr_I_mono I (by omega) hB⟩
      · rw [pr_isFn1 hf, pr_b2, if_neg (by decide), pr_valC0 m1 hn hv, pr_b2, if_pos rfl]
      · rw [pr_in1 (by omega), pr_b2, if_neg (by decide), pr_valR0 ⟨m2, m3⟩ hn hv, pr_b2, if_pos rfl]
  · refine ⟨-1, Sc, Sr, ?_, ?_, pr_I_mono I (by omega) hB⟩
    · rw [pr_isFn0 hf, pr_b2, if_pos rfl]
    · rw [pr_in0 (by omega), pr_b2, if_pos rfl]
theorem pr_pub_item {B : Int} {Sc Sr : am_S} (I : pr_I B Sc Sr) (hB : B + 2000000 < 2000000000) (s : Int) {n : Int} (hn : am_r32 n) : pr_pub B Sc Sr (sf_X9_item s n) (sf_X10_item s n) := by
  obtain ⟨m1, m2, m3, m4, m5⟩ := pr_Y_m I.1
  obtain ⟨i1, i2, i3⟩ := I.1.2.1.2.2.2.2
  unfold pr_pub sf_X9_item sf_X10_item
  by_cases hv : pr_VV (Sr.1 4745) s n
  · by_cases hful : Sr.1 4771 = 5
    · refine ⟨-2, Sc, Sr, ?_, ?_, pr_I_mono I (by omega) hB⟩
      · unfold sf_X1_isFull
        rw [pr_valC1 m1 hv, pr_b2, if_neg (by decide), if_neg (by omega), pr_b2, if_neg (by decide)]
      · rw [pr_valR1 ⟨m2, m3⟩ hv, pr_b2, if_neg (by decide), if_pos hful]
    · obtain ⟨k, hk⟩ : ∃ k : Nat, Sr.1 4771 = (k : Int) := ⟨(Sr.1 4771).toNat, by omega⟩
      have hk5 : k < 5 := by omega
      obtain ⟨v, hv1, hv2⟩ : ∃ v, (∀ _ : Nat, v = am_w32 ((k : Int) + 1)) ∧ v = (k : Int) + 1 := ⟨_, fun _ => rfl, pr_w (by omega) (by omega)⟩
      have hkc : Sc.1 389 = (k : Int) := i1.trans hk
      obtain ⟨Sc', hSc⟩ : ∃ Sc', Sc' = am_sI (am_sA Sc 63 k (pr_V s n)) 389 v := ⟨_, rfl⟩
      obtain ⟨Sr', hSr⟩ : ∃ Sr', Sr' = am_sI (am_sA (am_sA Sr 106 k s) 107 k n) 4771 v := ⟨_, rfl⟩
      have oc : pr_out [389] [63] Sc Sc' := by rw [hSc]; exact pr_out_sI (pr_out_sA (pr_out_refl _) (by decide)) (by decide)
      have or' : pr_out [4771] [106, 107] Sr Sr' := by rw [hSr]; exact pr_out_sI (pr_out_sA (pr_out_sA (pr_out_refl _) (by decide)) (by decide)) (by decide)
      have Z' : pr_Y B Sc' Sr' := by
        refine pr_Y_O I.1 (fun a ha => oc.2 a (by simp; omega)) (fun n hn => oc.1 n (by simp; omega)) (fun a ha => or'.2 a (by simp; omega)) (or'.1 _ (by decide)) (or'.1 _ (by decide)) ?_
        obtain ⟨p1, p2, p3, p4, p5⟩ := I.1.2.1
        refine ⟨?_, ?_, ?_, ?_, ?_⟩
        · rw [hSc, hSr]; exact p1
        · rw [hSc, hSr]; exact p2
        · rw [hSc, hSr]; exact p3
        · rw [hSc, hSr]; exact p4
        · have x389 : Sc'.1 389 = v := by rw [hSc]; rfl
          have x4771 : Sr'.1 4771 = v := by rw [hSr]; rfl
          have x63 : Sc'.2 63 = am_up (Sc.2 63) k (pr_V s n) := by rw [hSc]; rfl
          have x106 : Sr'.2 106 = am_up (Sr.2 106) k s := by rw [hSr]; rfl
          have x107 : Sr'.2 107 = am_up (Sr.2 107) k n := by rw [hSr]; rfl
          refine ⟨by rw [x389, x4771], by rw [x4771]; omega, fun i hi hi2 => ?_⟩
          rw [x4771] at hi2
          rw [x63, x106, x107, or'.1 4745 (by decide)]
          by_cases e : i = k
          · rw [e, am_up_self, am_up_self, am_up_self]; exact ⟨rfl, hv⟩
          · rw [am_up_ne _ _ e, am_up_ne _ _ e, am_up_ne _ _ e]; exact i3 i hi (by omega)
      refine ⟨v, Sc', Sr', ?_, ?_, pr_I_mono (pr_I_same I Z' (oc.2 _ (by decide)) (oc.2 _ (by decide)) (oc.2 _ (by decide)) (oc.1 _ (by decide)) (or'.2 _ (by decide)) (or'.2 _ (by decide)) (or'.2 _ (by decide)) (or'.1 _ (by decide))) (by omega) hB⟩
      · unfold sf_X1_isFull sf_X1_addItem
        have y : (am_sA Sc 63 k (pr_V s n)).1 389 = (k : Int) := hkc
        rw [pr_valC1 m1 hv, pr_b2, if_neg (by decide), if_pos (by omega), pr_b2, if_pos rfl, pr_of (pr_VV_s hv), pr_b2, hkc, pr_putn hk5, pr_b1, y, ← hv1 0, pr_let, pr_In, pr_b2, hSc]
      · have y1 : (am_sA Sr 106 k s).1 4771 = (k : Int) := hk
        have y2 : (am_sA (am_sA Sr 106 k s) 107 k n).1 4771 = (k : Int) := hk
        rw [pr_valR1 ⟨m2, m3⟩ hv, pr_b2, if_neg (by decide), if_neg hful, hk, pr_gdn hk5, pr_let, Int.toNat_natCast, y1, pr_gdn hk5, pr_let, Int.toNat_natCast, y2, ← hv1 0, pr_let, hSr]
  · refine ⟨-1, Sc, Sr, ?_, ?_, pr_I_mono I (by omega) hB⟩
    · rw [pr_valC0 m1 hn hv, pr_b2, if_pos rfl]
    · rw [pr_valR0 ⟨m2, m3⟩ hn hv, pr_b2, if_pos rfl]
theorem pr_pub_thenable {B : Int} {Sc Sr : am_S} (I : pr_I B Sc Sr) (hB : B + 2000000 < 2000000000) (t k s1 : Int) {n1 : Int} (h1 : am_r32 n1) (s2 : Int) {n2 : Int} (h2 : am_r32 n2) : pr_pub B Sc Sr (sf_X9_thenable t k s1 n1 s2 n2) (sf_X10_thenable t k s1 n1 s2 n2) := by
  obtain ⟨m1, m2, m3, m4, m5⟩ := pr_Y_m I.1
  unfold pr_pub sf_X9_thenable sf_X10_thenable
  by_cases ht : 0 ≤ t ∧ t < 4
  · by_cases hk : 0 ≤ k ∧ k < 4
    · by_cases hv1 : pr_VV (Sr.1 4745) s1 n1
      · by_cases hv2 : pr_VV (Sr.1 4745) s2 n2
        · obtain ⟨q, hq⟩ : ∃ q : Nat, t = (q : Int) := ⟨t.toNat, by omega⟩
          subst hq
          have hq4 : q < 4 := by omega
          obtain ⟨Sc', hSc⟩ : ∃ Sc', Sc' = am_sA (am_sA (am_sA Sc 52 q k) 53 q (pr_V s1 n1)) 54 q (pr_V s2 n2) := ⟨_, rfl⟩
          obtain ⟨Sr', hSr⟩ : ∃ Sr', Sr' = am_sA (am_sA (am_sA (am_sA (am_sA Sr 93 q k) 94 q s1) 95 q n1) 96 q s2) 97 q n2 := ⟨_, rfl⟩
          have oc : pr_out [] [52, 53, 54] Sc Sc' := by rw [hSc]; exact pr_out_sA (pr_out_sA (pr_out_sA (pr_out_refl _) (by decide)) (by decide)) (by decide)
          have or' : pr_out [] [93, 94, 95, 96, 97] Sr Sr' := by rw [hSr]; exact pr_out_sA (pr_out_sA (pr_out_sA (pr_out_sA (pr_out_sA (pr_out_refl _) (by decide)) (by decide)) (by decide)) (by decide)) (by decide)
          have Z' : pr_Y B Sc' Sr' := by
            refine pr_Y_O I.1 (fun a ha => oc.2 a (by simp; omega)) (fun n hn => oc.1 n (by simp)) (fun a ha => or'.2 a (by simp; omega)) (or'.1 _ (by decide)) (or'.1 _ (by decide)) ?_
            obtain ⟨p1, p2, p3, p4, p5⟩ := I.1.2.1
            refine ⟨?_, ?_, ?_, ?_, ?_⟩
            · intro j hj
              have x52 : Sc'.2 52 = am_up (Sc.2 52) q k := by rw [hSc]; rfl
              have x53 : Sc'.2 53 = am_up (Sc.2 53) q (pr_V s1 n1) := by rw [hSc]; rfl
              have x54 : Sc'.2 54 = am_up (Sc.2 54) q (pr_V s2 n2) := by rw [hSc]; rfl
              have y93 : Sr'.2 93 = am_up (Sr.2 93) q k := by rw [hSr]; rfl
              have y94 : Sr'.2 94 = am_up (Sr.2 94) q s1 := by rw [hSr]; rfl
              have y95 : Sr'.2 95 = am_up (Sr.2 95) q n1 := by rw [hSr]; rfl
              have y96 : Sr'.2 96 = am_up (Sr.2 96) q s2 := by rw [hSr]; rfl
              have y97 : Sr'.2 97 = am_up (Sr.2 97) q n2 := by rw [hSr]; rfl
              rw [x52, x53, x54, y93, y94, y95, y96, y97, or'.1 4745 (by decide)]
              by_cases e : j = q
              · rw [e]
                repeat rw [am_up_self]
                exact ⟨rfl, hk.1, by omega, fun _ => ⟨rfl, hv1, rfl, hv2⟩⟩
              · repeat rw [am_up_ne _ _ e]
                exact p1 j hj
            · rw [hSc, hSr]; exact p2
            · rw [hSc, hSr]; exact p3
            · rw [hSc, hSr]; exact p4
            · rw [hSc, hSr]; exact p5
          refine ⟨1, Sc', Sr', ?_, ?_, pr_I_mono (pr_I_same I Z' (oc.2 _ (by decide)) (oc.2 _ (by decide)) (oc.2 _ (by decide)) (oc.1 _ (by decide)) (or'.2 _ (by decide)) (or'.2 _ (by decide)) (or'.2 _ (by decide)) (or'.1 _ (by decide))) (by omega) hB⟩
          · unfold sf_X7_change
            rw [pr_iw1 ht, pr_b2, if_neg (by decide), pr_iw1 hk, pr_b2, if_neg (by decide), pr_valC1 m1 hv1, pr_b2, if_neg (by decide), pr_valC1 m1 hv2, pr_b2, if_neg (by decide), pr_of (pr_VV_s hv1), pr_b2, pr_of (pr_VV_s hv2), pr_b2, pr_putn hq4, pr_b1, pr_putn hq4, pr_b1, pr_putn hq4, pr_b1, pr_b1, hSc]
          · rw [pr_in1 (by omega), pr_b2, if_neg (by decide), pr_in1 (by omega), pr_b2, if_neg (by decide), pr_valR1 ⟨m2, m3⟩ hv1, pr_b2, if_neg (by decide), pr_valR1 ⟨m2, m3⟩ hv2, pr_b2, if_neg (by decide)]
            simp only [pr_gdn hq4, pr_let, Int.toNat_natCast]
            rw [hSr]
        · refine ⟨0, Sc, Sr, ?_, ?_, pr_I_mono I (by omega) hB⟩
          · rw [pr_iw1 ht, pr_b2, if_neg (by decide), pr_iw1 hk, pr_b2, if_neg (by decide), pr_valC1 m1 hv1, pr_b2, if_neg (by decide), pr_valC0 m1 h2 hv2, pr_b2, if_pos rfl]
          · rw [pr_in1 (by omega), pr_b2, if_neg (by decide), pr_in1 (by omega), pr_b2, if_neg (by decide), pr_valR1 ⟨m2, m3⟩ hv1, pr_b2, if_neg (by decide), pr_valR0 ⟨m2, m3⟩ h2 hv2, pr_b2, if_pos rfl]
      · refine ⟨0, Sc, Sr, ?_, ?_, pr_I_mono I (by omega) hB⟩
        · rw [pr_iw1 ht, pr_b2, if_neg (by decide), pr_iw1 hk, pr_b2, if_neg (by decide), pr_valC0 m1 h1 hv1, pr_b2, if_pos rfl]
        · rw [pr_in1 (by omega), pr_b2, if_neg (by decide), pr_in1 (by omega), pr_b2, if_neg (by decide), pr_valR0 ⟨m2, m3⟩ h1 hv1, pr_b2, if_pos rfl]
    · refine ⟨0, Sc, Sr, ?_, ?_, pr_I_mono I (by omega) hB⟩
      · rw [pr_iw1 ht, pr_b2, if_neg (by decide), pr_iw0 hk, pr_b2, if_pos rfl]
      · rw [pr_in1 (by omega), pr_b2, if_neg (by decide), pr_in0 (by omega), pr_b2, if_pos rfl]
  · refine ⟨0, Sc, Sr, ?_, ?_, pr_I_mono I (by omega) hB⟩
    · rw [pr_iw0 ht, pr_b2, if_pos rfl]
    · rw [pr_in0 (by omega), pr_b2, if_pos rfl]
