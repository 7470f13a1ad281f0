/-! TURNS -/
def pr_I (B : Int) (Sc Sr : am_S) : Prop := pr_Y B Sc Sr ∧ Sc.1 459 = -1 ∧ pr_SP Sc Sr ∧ pr_FL Sc Sr
theorem pr_I_of {B : Int} {Sc Sr : am_S} (Z : pr_Y B Sc Sr) (X : pr_RX Sc Sr []) : pr_I B Sc Sr := ⟨Z, X.2.1, X.2.2.2.1, X.2.2.2.2⟩
theorem pr_I_mono {B B2 : Int} {Sc Sr : am_S} (h : pr_I B Sc Sr) (hb : B ≤ B2) (h2 : B2 < 2000000000) : pr_I B2 Sc Sr := ⟨pr_Y_mono h.1 hb h2, h.2⟩
theorem pr_Yturn {B : Int} {Sc Sr : am_S} (Z : pr_Y B Sc Sr) {v : Int} (hv : am_r32 v) : pr_Y B (am_sI Sc 323 v) (am_sI Sr 4778 v) := by
  have O : pr_O B (am_sI Sc 323 v) (am_sI Sr 4778 v) := by
    obtain ⟨o1, o2, o3, ⟨n1, n2, n3, n4, n5⟩, o5⟩ := Z.2.1
    exact ⟨o1, o2, o3, ⟨n1, n2, rfl, hv, n5⟩, o5⟩
  exact pr_Y_any Z (fun _ _ => rfl) (fun n hn => pr_Im _ _ (by omega)) (fun _ _ => rfl) rfl rfl O
theorem pr_fd_uniq {B : Int} {Sc Sr : am_S} (K : pr_RK B Sc Sr) {r : Int} {b : Nat} (h1 : pr_fd Sr 32 r) (h2 : pr_fd Sr 32 (b : Int)) : r = (b : Int) := by
  obtain ⟨TS, a1, a2, -⟩ := K
  rcases h2 with ⟨h2, -⟩ | ⟨kb, e, k1, k2, k3⟩
  · omega
  · have : kb = b := by omega
    subst this
    rcases h1 with ⟨h1, h3⟩ | ⟨kr, e2, r1, r2, r3⟩
    · have := h3 kb k1; omega
    · have x1 := k3 kr r1 r2
      have x2 := r3 kb k1 k2
      have heq : Sr.2 109 kr = Sr.2 109 kb := by omega
      have m1 := (a1 kb).mpr ⟨k1, k2⟩
      have m2 := (a1 kr).mpr ⟨r1, r2⟩
      obtain ⟨i, hi, ei⟩ := List.getElem_of_mem m1
      obtain ⟨j, hj, ej⟩ := List.getElem_of_mem m2
      have hp := List.pairwise_iff_getElem.mp a2
      rcases Nat.lt_trichotomy i j with h | h | h
      · have := hp i j hi hj h
        rw [ei, ej] at this; omega
      · subst h
        have : kr = kb := by rw [← ei, ← ej]
        rw [e2, this]
      · have := hp j i hj hi h
        rw [ei, ej] at this; omega
def pr_bodyC (S : am_S) : Option am_S :=
  am_b1 (sf_X2_beginTurn S) (fun S7 => am_b2 (sf_X3_jobs S7) (fun x10 S9 => if x10 ≤ 0 then am_b2 (sf_X6_dueFirst S9) (fun x13 S12 => am_b1 (sf_X9_doTask x13 S12) (fun S15 => sf_X5_goOn S15)) else am_b2 (sf_X3_takeJob S9) (fun x20 S19 => am_b1 (sf_X9_doJob x20 S19) (fun S22 => sf_X5_goOn S22))))
theorem pr_turn {B : Int} {Sc Sr : am_S} (I : pr_I B Sc Sr) (hB : B + 32000 < 2000000000) :
    (¬ 0 < Sc.1 76 → ¬ 0 < Sc.1 259 → ∃ Sr', sf_X10_turn Sr = some (0, Sr') ∧ pr_I B Sc Sr')
    ∧ (0 < Sc.1 76 ∨ 0 < Sc.1 259 → ∃ Sc' Sr', pr_bodyC Sc = some Sc' ∧ sf_X10_turn Sr = some (1, Sr') ∧ pr_I (B + 32000) Sc' Sr') := by
  obtain ⟨Z, h459, hSP, hFL⟩ := I
  have hN := Z.2.1.2.2.2.1
  obtain ⟨R2, hR2⟩ : ∃ R2, R2 = am_sI (am_sI Sr 4789 0) 4788 (-1) := ⟨_, rfl⟩
  have oR2 : pr_out [4788, 4789, 4790, 4791, 4792] [79, 80, 83, 116, 117, 118, 119, 120] Sr R2 := by
    rw [hR2]; exact pr_out_sI (pr_out_sI (pr_out_refl _) (by decide)) (by decide)
  have Z2 : pr_Y B Sc R2 := pr_Y_run Z (pr_out_refl _) oR2
  have X2 : pr_RX Sc R2 [] := by
    refine ⟨True.intro, h459, by rw [hR2]; rfl, ?_, ?_⟩
    · rw [hR2]; exact hSP
    · rw [hR2]; exact hFL
  have ht : R2.1 4789 = 0 := by rw [hR2]; rfl
  obtain ⟨v, hv1, hv2⟩ : ∃ v, (∀ _ : Nat, v = am_w32 (Sr.1 4778 + 1)) ∧ am_r32 v := ⟨_, fun _ => rfl, am_w32_r _⟩
  have h78 : R2.1 4778 = Sr.1 4778 := oR2.1 _ (by decide)
  have hturn : sf_X10_turn Sr = am_b2 (sf_X10_firstOn (-1) R2) (fun x4 S3 => (if x4 < 0 then (sf_X10_turn_41 1000 (-1) 0 S3) else (am_let (am_sI S3 4778 (am_w32 ((S3.1 4778) + 1))) (fun S6 => (am_b1 (sf_X10_job x4 S6) (fun S7 => (some (1, S7)))))))) := by
    unfold sf_X10_turn
    rw [pr_let, pr_let, ← hR2]
  have Zt := pr_Yturn Z2 hv2
  have Xt : pr_RX (am_sI Sc 323 v) (am_sI R2 4778 v) [] := pr_RX_same X2 rfl rfl rfl rfl rfl rfl rfl rfl rfl rfl rfl rfl rfl rfl rfl rfl
  have hbt : sf_X2_beginTurn Sc = some (am_sI Sc 323 v) := by
    unfold sf_X2_beginTurn
    rw [pr_let, hN.2.2.1, ← hv1 0]
  have h0 : pr_fd R2 0 (-1) := Or.inl ⟨rfl, fun k hk => by omega⟩
  obtain ⟨r, hr1, hr2⟩ := pr_turn_loop R2 1000 0 (-1) (by omega) (by omega) h0
  have hr1' : sf_X10_turn_41 1000 (-1) 0 R2 = pr_tend r R2 := hr1
  constructor
  · intro hj hz
    obtain ⟨e1, e2⟩ := pr_Yidle Z2 hj
    refine ⟨R2, ?_, pr_I_of Z2 X2⟩
    obtain ⟨TS, a1, a2, a3, a4, -⟩ := Z2.2.1.2.2.1
    have hT0 : TS = [] := List.length_eq_zero_iff.mp (by omega)
    have hr : ¬ 0 ≤ r := by
      rcases hr2 with ⟨h, _⟩ | ⟨kb, h1, h2, h3, _⟩
      · omega
      · have := (a1 kb).mpr ⟨h2, h3⟩
        rw [hT0] at this; cases this
    rw [hturn, e2, pr_b2, if_pos (by decide), hr1']
    unfold pr_tend
    rw [if_neg hr]
  · intro hor
    by_cases hj : 0 < Sc.1 76
    · obtain ⟨k, j, Scj, Sc1, Sc2, Sr', g1, g2, g3, g4, g5, g6, g7⟩ := pr_job Zt Xt (by rw [hR2]; rfl) (by omega) hj
      refine ⟨Sc2, Sr', ?_, ?_, pr_I_mono (pr_I_of g6 g7) (by omega) hB⟩
      · unfold pr_bodyC sf_X3_jobs
        have e76 : (am_sI Sc 323 v).1 76 = Sc.1 76 := rfl
        rw [hbt, pr_b1, pr_b2, e76, if_neg (by omega), g2, pr_b2, g3, pr_b1]; exact g4
      · rw [hturn, g1 R2 rfl rfl rfl rfl, pr_b2, if_neg (by omega), h78, ← hv1 0, pr_let, g5, pr_b1]
    · have hz : 0 < Sc.1 259 := by rcases hor with h | h; exact absurd h hj; exact h
      obtain ⟨e1, e2⟩ := pr_Yidle Z2 hj
      obtain ⟨r', b, Sc1, Sc2, Sr', g1, g2, g3, g4, g5, g6, g7, g8⟩ := pr_duetask Zt Xt (by rw [hR2]; rfl) (by omega) hz
      have g5' : pr_fd R2 32 (b : Int) := g5
      have hrb := pr_fd_uniq Z2.2.1.2.2.1 hr2 g5'
      refine ⟨Sc2, Sr', ?_, ?_, pr_I_mono (pr_I_of g7 g8) (by omega) hB⟩
      · unfold pr_bodyC sf_X3_jobs
        have e76 : (am_sI Sc 323 v).1 76 = Sc.1 76 := rfl
        rw [hbt, pr_b1, pr_b2, e76, if_pos (by omega), g1, pr_b2, g2, pr_b1]; exact g3
      · rw [hturn, e2, pr_b2, if_pos (by decide), hr1', hrb]
        unfold pr_tend
        have hb0 : (0 : Int) ≤ (b : Int) := by omega
        rw [if_pos hb0, h78, ← hv1 0, pr_let, pr_gdn g4, pr_gdn g4, pr_let, Int.toNat_natCast]; exact g6
theorem pr_run_s (fu : Nat) (n i : Int) (S : am_S) : sf_X9_run_13 (fu + 1) n i S = (if n ≤ i then some (i, S) else if 0 < S.1 76 ∨ 0 < S.1 259 then am_b1 (pr_bodyC S) (fun S' => sf_X9_run_13 fu n (am_w32 (i + 1)) S') else some (i, S)) := by
  have hb12 : ∀ (o : Option (Int × am_S)) (f : Int → am_S → Option am_S) (g : am_S → Option (Int × am_S)), am_b1 (am_b2 o f) g = am_b2 o (fun x S => am_b1 (f x S) g) := by intro o f g; cases o <;> rfl
  have hb11 : ∀ (o : Option am_S) (f : am_S → Option am_S) (g : am_S → Option (Int × am_S)), am_b1 (am_b1 o f) g = am_b1 o (fun S => am_b1 (f S) g) := by intro o f g; cases o <;> rfl
  have hbif : ∀ (c : Prop) [Decidable c] (x y : Option am_S) (g : am_S → Option (Int × am_S)), am_b1 (if c then x else y) g = if c then am_b1 x g else am_b1 y g := by intro c _ x y g; split <;> rfl
  simp only [sf_X9_run_13, pr_bodyC, hb12, hb11, hbif]
  by_cases h1 : n ≤ i
  · rw [if_pos h1, if_pos h1]
  · rw [if_neg h1, if_neg h1]
    have hj : ∀ S : am_S, sf_X3_jobs S = some (S.1 76, S) := fun _ => rfl
    have hs : ∀ S : am_S, sf_X6_size S = some (S.1 259, S) := fun _ => rfl
    rw [hj, pr_b2]
    by_cases h2 : 0 < S.1 76
    · rw [if_pos h2, if_pos (Or.inl h2)]
    · rw [if_neg h2, hs, pr_b2]
      by_cases h3 : S.1 259 ≤ 0
      · rw [if_pos h3, if_neg (by omega)]
      · rw [if_neg h3, if_pos (Or.inr (by omega))]
theorem pr_runloop : ∀ (k d : Nat) (B : Int) (Sc Sr : am_S) (fuC fuR : Nat), pr_I B Sc Sr → d + k ≤ 60 → k + 2 < fuC → k + 2 < fuR → B + 32000 * (k : Int) < 2000000000 →
    ∃ (x : Int) (Sc' Sr' : am_S), sf_X9_run_13 fuC ((d + k : Nat) : Int) (d : Int) Sc = some (x, Sc') ∧ sf_X10_run_16 fuR ((d + k : Nat) : Int) (d : Int) 1 Sr = some (x, Sr') ∧ pr_I (B + 32000 * (k : Int)) Sc' Sr' := by
  intro k
  induction k with
  | zero =>
    intro d B Sc Sr fuC fuR I hd hfC hfR hB
    cases fuC with
    | zero => omega
    | succ fuC =>
    cases fuR with
    | zero => omega
    | succ fuR =>
    refine ⟨(d : Int), Sc, Sr, ?_, ?_, pr_I_mono I (by omega) hB⟩
    · rw [pr_run_s, if_pos (by omega)]
    · simp only [sf_X10_run_16]
      rw [if_pos (by omega)]
  | succ k ih =>
    intro d B Sc Sr fuC fuR I hd hfC hfR hB
    cases fuC with
    | zero => omega
    | succ fuC =>
    cases fuR with
    | zero => omega
    | succ fuR =>
    obtain ⟨t1, t2⟩ := pr_turn I (by omega)
    have hnd : ¬ ((d + (k + 1) : Nat) : Int) ≤ (d : Int) := by omega
    have h10 : ¬ (1 : Int) = 0 := by decide
    by_cases hor : 0 < Sc.1 76 ∨ 0 < Sc.1 259
    · obtain ⟨Sc1, Sr1, g1, g2, g3⟩ := t2 hor
      obtain ⟨x, Sc', Sr', e1, e2, e3⟩ := ih (d + 1) (B + 32000) Sc1 Sr1 fuC fuR g3 (by omega) (by omega) (by omega) (by omega)
      have hdk : d + 1 + k = d + (k + 1) := by omega
      rw [hdk] at e1 e2
      refine ⟨x, Sc', Sr', ?_, ?_, pr_I_mono e3 (by omega) hB⟩
      · rw [pr_run_s, if_neg hnd, if_pos hor, g1, pr_b1, pr_ws (by omega)]; exact e1
      · simp only [sf_X10_run_16]
        rw [if_neg hnd, if_neg h10, g2, pr_b2, if_neg h10, pr_ws (by omega)]; exact e2
    · obtain ⟨Sr1, g1, g2⟩ := t1 (fun h => hor (Or.inl h)) (fun h => hor (Or.inr h))
      refine ⟨(d : Int), Sc, Sr1, ?_, ?_, pr_I_mono g2 (by omega) hB⟩
      · rw [pr_run_s, if_neg hnd, if_neg hor]
      · simp only [sf_X10_run_16]
        rw [if_neg hnd, if_neg h10, g1, pr_b2, if_pos rfl]
        cases fuR with
        | zero => omega
        | succ fuR =>
          simp only [sf_X10_run_16]
          rw [if_neg hnd, if_pos trivial]
theorem pr_isWithin (a b : Int) (S : am_S) : sf_X9_isWithin a b S = some ((if 0 ≤ a ∧ a < b then 1 else 0), S) := by
  unfold sf_X9_isWithin
  by_cases h1 : a < 0
  · rw [if_pos h1, if_neg (by omega)]
  · rw [if_neg h1]
    by_cases h2 : b ≤ a
    · rw [if_pos h2, if_neg (by omega)]
    · rw [if_neg h2, if_pos (by omega)]
theorem pr_in (a lo hi : Int) (S : am_S) : sf_X10_in a lo hi S = some ((if lo ≤ a ∧ a ≤ hi then 1 else 0), S) := by
  unfold sf_X10_in
  by_cases h1 : a < lo
  · rw [if_pos h1, if_neg (by omega)]
  · rw [if_neg h1]
    by_cases h2 : hi < a
    · rw [if_pos h2, if_neg (by omega)]
    · rw [if_neg h2, if_pos (by omega)]
theorem pr_iw1 {a b : Int} (h : 0 ≤ a ∧ a < b) (S : am_S) : sf_X9_isWithin a b S = some (1, S) := by rw [pr_isWithin, if_pos h]
theorem pr_iw0 {a b : Int} (h : ¬ (0 ≤ a ∧ a < b)) (S : am_S) : sf_X9_isWithin a b S = some (0, S) := by rw [pr_isWithin, if_neg h]
theorem pr_in1 {a lo hi : Int} (h : lo ≤ a ∧ a ≤ hi) (S : am_S) : sf_X10_in a lo hi S = some (1, S) := by rw [pr_in, if_pos h]
theorem pr_in0 {a lo hi : Int} (h : ¬ (lo ≤ a ∧ a ≤ hi)) (S : am_S) : sf_X10_in a lo hi S = some (0, S) := by rw [pr_in, if_neg h]
/-- what a public call owes -/
def pr_pub (B : Int) (Sc Sr : am_S) (c r : am_S → Option (Int × am_S)) : Prop := ∃ (x : Int) (Sc' Sr' : am_S), c Sc = some (x, Sc') ∧ r Sr = some (x, Sr') ∧ pr_I (B + 2000000) Sc' Sr'
theorem pr_pub_run {B : Int} {Sc Sr : am_S} (I : pr_I B Sc Sr) (hB : B + 2000000 < 2000000000) (a : Int) : pr_pub B Sc Sr (sf_X9_run a) (sf_X10_run a) := by
  unfold pr_pub sf_X9_run sf_X10_run
  by_cases h : 0 ≤ a ∧ a < 61
  · obtain ⟨n, hn⟩ : ∃ n : Nat, a = ((0 + n : Nat) : Int) := ⟨a.toNat, by omega⟩
    obtain ⟨x, Sc', Sr', e1, e2, e3⟩ := pr_runloop n 0 B Sc Sr 1000 1000 I (by omega) (by omega) (by omega) (by omega)
    refine ⟨x, Sc', Sr', ?_, ?_, pr_I_mono e3 (by omega) hB⟩
    · rw [pr_iw1 h, pr_b2, if_neg (by decide), hn]; exact e1
    · rw [pr_in1 (by omega), pr_b2, if_neg (by decide), hn]; exact e2
  · refine ⟨-1, Sc, Sr, ?_, ?_, pr_I_mono I (by omega) hB⟩
    · rw [pr_iw0 h, pr_b2, if_pos rfl]
    · rw [pr_in0 (by omega), pr_b2, if_pos rfl]
