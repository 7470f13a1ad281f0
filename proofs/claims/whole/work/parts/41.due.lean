/-! the TASK that is due first -/
theorem pr_due_loop {S : am_S} {z : Nat} (hz : S.1 259 = (z : Int)) (hz32 : z ≤ 32) (hw : ∀ j, j < z → am_w32 (S.2 60 j) = S.2 60 j) : ∀ (n i first fu : Nat), i + n = z → n < fu → first < i → i ≤ z → (∀ j, j < i → S.2 60 first ≤ S.2 60 j) → (∀ j, j < first → S.2 60 first < S.2 60 j) →
    ∃ r : Nat, sf_X6_dueFirst_4 fu (first : Int) (i : Int) S = some ((r : Int), S) ∧ r < z ∧ (∀ j, j < z → S.2 60 r ≤ S.2 60 j) ∧ (∀ j, j < r → S.2 60 r < S.2 60 j) := by
  intro n
  induction n with
  | zero =>
    intro i first fu hi hfu hfi hiz h1 h2
    cases fu with
    | zero => omega
    | succ fu =>
      have : i = z := by omega
      subst this
      refine ⟨first, ?_, by omega, h1, h2⟩
      simp only [sf_X6_dueFirst_4]
      rw [hz, if_pos (Int.le_refl _)]
  | succ n ih =>
    intro i first fu hi hfu hfi hiz h1 h2
    cases fu with
    | zero => omega
    | succ fu =>
      simp only [sf_X6_dueFirst_4]
      have e1 := hw i (by omega)
      have e2 := hw first (by omega)
      rw [hz, if_neg (by omega), pr_atn (by omega), pr_b2, pr_atn (by omega), pr_b2, e1, e2, pr_ws (by omega)]
      clear e1 e2
      by_cases hle : S.2 60 first ≤ S.2 60 i
      · rw [if_pos hle]
        refine ih (i + 1) first fu (by omega) (by omega) (by omega) (by omega) (fun j hj => ?_) h2
        rcases Nat.lt_or_ge j i with h | h
        · exact h1 j h
        · have : j = i := by omega
          subst this; exact hle
      · rw [if_neg hle]
        refine ih (i + 1) i fu (by omega) (by omega) (by omega) (by omega) (fun j hj => ?_) (fun j hj => ?_)
        · rcases Nat.lt_or_ge j i with h | h
          · have := h1 j h; omega
          · have : j = i := by omega
            subst this; exact Int.le_refl _
        · have := h1 j hj; omega
/-- what the reference has found among the first t -/
def pr_fd (S : am_S) (t : Nat) (b : Int) : Prop :=
  (b = -1 ∧ ∀ k, k < t → S.2 108 k < 0) ∨ ∃ kb : Nat, b = (kb : Int) ∧ kb < t ∧ 0 ≤ S.2 108 kb ∧ ∀ k, k < t → 0 ≤ S.2 108 k → S.2 108 kb < S.2 108 k ∨ (S.2 108 kb = S.2 108 k ∧ S.2 109 kb ≤ S.2 109 k)
theorem pr_fd_keep {S : am_S} {t : Nat} {b : Int} (h : pr_fd S t b) (hn : 0 ≤ S.2 108 t → ∃ kb : Nat, b = (kb : Int) ∧ (S.2 108 kb < S.2 108 t ∨ (S.2 108 kb = S.2 108 t ∧ S.2 109 kb ≤ S.2 109 t))) : pr_fd S (t + 1) b := by
  rcases h with ⟨h1, h2⟩ | ⟨kb, h1, h2, h3, h4⟩
  · refine Or.inl ⟨h1, fun k hk => ?_⟩
    rcases Nat.lt_or_ge k t with h | h
    · exact h2 k h
    · have : k = t := by omega
      subst this
      rcases Int.lt_or_le (S.2 108 k) 0 with h3 | h3
      · exact h3
      · obtain ⟨kb, e, _⟩ := hn h3
        omega
  · refine Or.inr ⟨kb, h1, by omega, h3, fun k hk hk0 => ?_⟩
    rcases Nat.lt_or_ge k t with h | h
    · exact h4 k h hk0
    · have : k = t := by omega
      subst this
      obtain ⟨kb2, e, h5⟩ := hn hk0
      have : kb2 = kb := by omega
      subst this; exact h5
theorem pr_fd_take {S : am_S} {t : Nat} {b : Int} (h : pr_fd S t b) (h0 : 0 ≤ S.2 108 t) (hn : ∀ kb : Nat, b = (kb : Int) → S.2 108 t < S.2 108 kb ∨ (S.2 108 t = S.2 108 kb ∧ S.2 109 t ≤ S.2 109 kb)) : pr_fd S (t + 1) (t : Int) := by
  refine Or.inr ⟨t, rfl, by omega, h0, fun k hk hk0 => ?_⟩
  rcases Nat.lt_or_ge k t with h6 | h6
  · rcases h with ⟨h1, h2⟩ | ⟨kb, h1, h2, h3, h4⟩
    · have := h2 k h6; omega
    · have a := h4 k h6 hk0
      have b' := hn kb h1
      omega
  · have : k = t := by omega
    subst this; exact Or.inr ⟨rfl, Int.le_refl _⟩
def pr_tend (b : Int) (S : am_S) : Option (Int × am_S) := if 0 ≤ b then (am_let (am_sI S 4778 (am_w32 ((S.1 4778) + 1))) (fun S9 => (am_gd b 32 (if (S9.2 108 (Int.toNat b)) ≤ (S9.1 4777) then (sf_X10_turn_155 b S9) else (am_gd b 32 (am_let (am_sI S9 4777 (S9.2 108 (Int.toNat b))) (fun S10 => (sf_X10_turn_155 b S10)))))))) else (some (0, S))
theorem pr_turn_loop (S : am_S) : ∀ (fu t : Nat) (b : Int), t ≤ 32 → 32 - t < fu → pr_fd S t b → ∃ r : Int, sf_X10_turn_41 fu b (t : Int) S = pr_tend r S ∧ pr_fd S 32 r := by
  intro fu
  induction fu with
  | zero => intro t b _ h _; omega
  | succ fu ih =>
    intro t b ht hfu hf
    simp only [sf_X10_turn_41]
    by_cases h8 : (32 : Int) ≤ (t : Int)
    · rw [if_pos h8]
      have : t = 32 := by omega
      subst this
      exact ⟨b, rfl, hf⟩
    · rw [if_neg h8]
      have ht8 : t < 32 := by omega
      simp only [pr_gdn ht8, Int.toNat_natCast]
      rw [pr_ws (by omega)]
      by_cases h0 : 0 ≤ S.2 108 t
      · rw [if_pos h0]
        by_cases hb : b < 0
        · rw [if_pos hb]
          exact ih (t + 1) (t : Int) (by omega) (by omega) (pr_fd_take hf h0 (fun kb e => by omega))
        · rw [if_neg hb]
          obtain ⟨kb, e, hkb⟩ : ∃ kb : Nat, b = (kb : Int) ∧ kb < t := by
            rcases hf with ⟨h1, h2⟩ | ⟨kb, h1, h2, _⟩
            · omega
            · exact ⟨kb, h1, h2⟩
          subst e
          simp only [pr_gdn (show kb < 32 by omega), Int.toNat_natCast]
          by_cases hlt : S.2 108 t < S.2 108 kb
          · rw [if_pos hlt]
            exact ih (t + 1) (t : Int) (by omega) (by omega) (pr_fd_take hf h0 (fun kb2 e => by
              have : kb2 = kb := by omega
              subst this; exact Or.inl hlt))
          · rw [if_neg hlt]
            by_cases heq : S.2 108 t = S.2 108 kb
            · rw [if_pos heq]
              by_cases ho : S.2 109 kb ≤ S.2 109 t
              · rw [if_pos ho]
                exact ih (t + 1) (kb : Int) (by omega) (by omega) (pr_fd_keep hf (fun _ => ⟨kb, rfl, Or.inr ⟨heq.symm, ho⟩⟩))
              · rw [if_neg ho]
                exact ih (t + 1) (t : Int) (by omega) (by omega) (pr_fd_take hf h0 (fun kb2 e => by
                  have : kb2 = kb := by omega
                  subst this; exact Or.inr ⟨heq, by omega⟩))
            · rw [if_neg heq]
              exact ih (t + 1) (kb : Int) (by omega) (by omega) (pr_fd_keep hf (fun _ => ⟨kb, rfl, Or.inl (by omega)⟩))
      · rw [if_neg h0]
        exact ih (t + 1) b (by omega) (by omega) (pr_fd_keep hf (fun h => absurd h h0))
theorem pr_split : ∀ (l : List Nat) (i b : Nat), l[i]? = some b → ∃ l1 l2, l = l1 ++ b :: l2 ∧ l1.length = i
  | [], i, b, h => by simp at h
  | a :: l, 0, b, h => by
    simp at h
    exact ⟨[], l, by rw [h]; rfl, rfl⟩
  | a :: l, i + 1, b, h => by
    simp at h
    obtain ⟨l1, l2, h1, h2⟩ := pr_split l i b h
    exact ⟨a :: l1, l2, by rw [h1]; rfl, by simp [h2]⟩
theorem pr_finish_loop {z : Nat} (hz32 : z < 32) : ∀ (n i fu : Nat) (S : am_S), i + n = z → n < fu → S.1 259 = (z : Int) → (∀ j, i ≤ j → j < z → am_w32 (S.2 58 (j + 1)) = S.2 58 (j + 1) ∧ am_w32 (S.2 60 (j + 1)) = S.2 60 (j + 1)) →
    ∃ S', sf_X6_finish_31 fu (i : Int) S = some S' ∧ pr_out [] [58, 59, 60] S S' ∧ (∀ j, j < i → S'.2 58 j = S.2 58 j ∧ S'.2 59 j = S.2 59 j ∧ S'.2 60 j = S.2 60 j) ∧ (∀ j, i ≤ j → j < z → S'.2 58 j = S.2 58 (j + 1) ∧ S'.2 59 j = S.2 59 (j + 1) ∧ S'.2 60 j = S.2 60 (j + 1)) := by
  intro n
  induction n with
  | zero =>
    intro i fu S hi hfu hz hw
    cases fu with
    | zero => omega
    | succ fu =>
      refine ⟨S, ?_, pr_out_refl _, fun _ _ => ⟨rfl, rfl, rfl⟩, fun j h1 h2 => by omega⟩
      simp only [sf_X6_finish_31]
      rw [hz, if_pos (by omega)]
  | succ n ih =>
    intro i fu S hi hfu hz hw
    cases fu with
    | zero => omega
    | succ fu =>
      have hi1 : i + 1 < 32 := by omega
      have hi0 : i < 32 := by omega
      obtain ⟨S1, hS1⟩ : ∃ S1, S1 = am_sA (am_sA (am_sA S 58 i (S.2 58 (i + 1))) 59 i (S.2 59 (i + 1))) 60 i (S.2 60 (i + 1)) := ⟨_, rfl⟩
      have x58 : S1.2 58 = am_up (S.2 58) i (S.2 58 (i + 1)) := by rw [hS1]; rfl
      have x59 : S1.2 59 = am_up (S.2 59) i (S.2 59 (i + 1)) := by rw [hS1]; rfl
      have x60 : S1.2 60 = am_up (S.2 60) i (S.2 60 (i + 1)) := by rw [hS1]; rfl
      obtain ⟨S', g1, g2, g3, g4⟩ := ih (i + 1) fu S1 (by omega) (by omega) (by rw [hS1]; exact hz) (fun j h1 h2 => by
        rw [x58, x60, am_up_ne _ _ (by omega), am_up_ne _ _ (by omega)]
        exact hw j (by omega) h2)
      refine ⟨S', ?_, ?_, fun j hj => ?_, fun j h1 h2 => ?_⟩
      · simp only [sf_X6_finish_31]
        have y58 := (hw i (Nat.le_refl _) (by omega)).1
        have y60 := (hw i (Nat.le_refl _) (by omega)).2
        have e58 : (am_sA (am_sA S 58 i (S.2 58 (i + 1))) 59 i (S.2 59 (i + 1))).2 60 = S.2 60 := rfl
        have e59 : (am_sA S 58 i (S.2 58 (i + 1))).2 59 = S.2 59 := rfl
        rw [hz, if_neg (by omega), pr_ws (by omega), pr_atn hi1, pr_b2, y58, pr_putn hi0, pr_b1, pr_van hi1, pr_b2, e59, pr_putn hi0, pr_b1, pr_atn hi1, pr_b2, e58, y60, pr_putn hi0, pr_b1, ← hS1]
        exact g1
      · refine pr_out_trans ?_ g2
        rw [hS1]
        exact pr_out_sA (pr_out_sA (pr_out_sA (pr_out_refl _) (by decide)) (by decide)) (by decide)
      · obtain ⟨a1, a2, a3⟩ := g3 j (by omega)
        rw [a1, a2, a3, x58, x59, x60, am_up_ne _ _ (by omega), am_up_ne _ _ (by omega), am_up_ne _ _ (by omega)]
        exact ⟨rfl, rfl, rfl⟩
      · by_cases e : j = i
        · subst e
          obtain ⟨a1, a2, a3⟩ := g3 j (by omega)
          rw [a1, a2, a3, x58, x59, x60, am_up_self, am_up_self, am_up_self]
          exact ⟨rfl, rfl, rfl⟩
        · obtain ⟨a1, a2, a3⟩ := g4 j (by omega) h2
          rw [a1, a2, a3, x58, x59, x60, am_up_ne _ _ (by omega), am_up_ne _ _ (by omega), am_up_ne _ _ (by omega)]
          exact ⟨rfl, rfl, rfl⟩
/-- a TASK's TURN -/
theorem pr_duetask {B : Int} {Sc Sr : am_S} (Z : pr_Y B Sc Sr) (X : pr_RX Sc Sr []) (t2 : Sr.1 4789 = 0) (hB : B + 31010 < 2000000000) (hsz : 0 < Sc.1 259) :
    ∃ (r b : Nat) (Sc1 Sc2 Sr' : am_S), sf_X6_dueFirst Sc = some ((r : Int), Sc) ∧ sf_X9_doTask (r : Int) Sc = some Sc1 ∧ sf_X5_goOn Sc1 = some Sc2 ∧ b < 32 ∧ pr_fd Sr 32 (b : Int)
      ∧ (if Sr.2 108 b ≤ Sr.1 4777 then sf_X10_turn_155 (b : Int) Sr else sf_X10_turn_155 (b : Int) (am_sI Sr 4777 (Sr.2 108 b))) = some (1, Sr') ∧ pr_Y (B + 31010) Sc2 Sr' ∧ pr_RX Sc2 Sr' [] := by
  obtain ⟨m1, m2, m3, m4, m5⟩ := pr_Y_m Z
  obtain ⟨TS, a1, a2, a3, a4, a5, a6, a7⟩ := Z.2.1.2.2.1
  have hnd : TS.Nodup := a2.imp (fun {a b} h e => by subst e; omega)
  obtain ⟨TS0, u1, u2, -⟩ := pr_tasks Z.2.1.2.2.1
  have hlen32 : TS.length ≤ 32 := by omega
  have hlen0 : 0 < TS.length := by omega
  have htd : ∀ j, j < TS.length → ∃ t, TS[j]? = some t ∧ t ∈ TS ∧ t < 32 ∧ 0 ≤ Sr.2 108 t ∧ pr_TD B Sc Sr j t := by
    intro j hj
    have h1 : TS[j]? = some TS[j] := List.getElem?_eq_getElem hj
    have h2 : TS[j] ∈ TS := List.getElem_mem hj
    have h3 := (a1 _).mp h2
    exact ⟨TS[j], h1, h2, h3.1, h3.2, a7 j _ h1⟩
  have hw60 : ∀ j, j < TS.length → am_w32 (Sc.2 60 j) = Sc.2 60 j := by
    intro j hj
    obtain ⟨t, h1, h2, h3, h4, h5⟩ := htd j hj
    obtain ⟨b1, b2, b3, b4, b5, b6⟩ := h5
    rw [b5, pr_w (by omega) (by omega)]
  have hw58 : ∀ j, j < TS.length → am_w32 (Sc.2 58 j) = Sc.2 58 j := by
    intro j hj
    obtain ⟨t, h1, h2, h3, h4, h5⟩ := htd j hj
    obtain ⟨b1, b2, b3, b4, b5, b6⟩ := h5
    rw [b1, pr_w (by omega) (by omega)]
  obtain ⟨r, d1, d2, d3, d4⟩ := pr_due_loop a4 hlen32 hw60 (TS.length - 1) 1 0 1000 (by omega) (by omega) (by omega) (by omega) (fun j hj => by
    have : j = 0 := by omega
    subst this; exact Int.le_refl _) (fun j hj => by omega)
  obtain ⟨b, hb, hbm, hb32, hbd, hbT⟩ := htd r d2
  obtain ⟨T1, T2, T3, T4, T5, T6⟩ := hbT
  -- what the class finds is what the reference finds
  have hfd : pr_fd Sr 32 (b : Int) := by
    refine Or.inr ⟨b, rfl, hb32, hbd, fun k hk hk0 => ?_⟩
    have hkm : k ∈ TS := (a1 k).mpr ⟨hk, hk0⟩
    obtain ⟨j, hj, ej⟩ := List.getElem_of_mem hkm
    have hj' : TS[j]? = some k := by rw [List.getElem?_eq_getElem hj, ej]
    obtain ⟨c1, c2, c3, c4, c5, c6⟩ := a7 j k hj'
    have h1 := d3 j hj
    rw [T5, c5] at h1
    rcases Nat.lt_trichotomy j r with h | h | h
    · have h2 := d4 j h
      rw [T5, c5] at h2
      exact Or.inl h2
    · subst h
      have : k = b := Option.some.inj (hj'.symm.trans hb)
      subst this; exact Or.inr ⟨rfl, Int.le_refl _⟩
    · rcases Int.lt_or_eq_of_le h1 with h2 | h2
      · exact Or.inl h2
      · refine Or.inr ⟨h2, ?_⟩
        have hp := List.pairwise_iff_getElem.mp a2 r j d2 hj h
        have e1 : TS[r] = b := Option.some.inj ((List.getElem?_eq_getElem d2).symm.trans hb)
        rw [e1, ej] at hp
        exact Int.le_of_lt hp
  obtain ⟨f, hf⟩ : ∃ f, f = Sr.2 110 b := ⟨_, rfl⟩
  obtain ⟨s, hs⟩ : ∃ s, s = Sr.2 111 b := ⟨_, rfl⟩
  obtain ⟨n, hn⟩ : ∃ n, n = Sr.2 112 b := ⟨_, rfl⟩
  obtain ⟨du, hdu⟩ : ∃ du, du = Sr.2 108 b := ⟨_, rfl⟩
  rw [← hf] at T1 T2
  rw [← hs, ← hn] at T3 T4
  rw [← hdu] at T5 T6 hbd
  -- the class: FUNCTION entered, then the TASK counts no more
  obtain ⟨Ce, hCe⟩ : ∃ Ce, Ce = am_sI (am_sA (am_sA (am_sA (am_sA (am_sI Sc 460 (-1)) 67 100 f) 68 100 0) 69 100 (pr_V s n)) 70 100 (Sc.1 459)) 459 100 := ⟨_, rfl⟩
  have hen : sf_X5_perform f (pr_V s n) (-1) Sc = some Ce := by
    unfold sf_X5_perform
    have := pr_enterC (Sc := am_sI Sc 460 (-1)) (a := 100) (by omega) f (pr_V s n)
    have h100 : ((100 : Nat) : Int) = 100 := rfl
    rw [h100] at this
    rw [pr_let, this, pr_b1, hCe]; rfl
  obtain ⟨tm, htm⟩ : ∃ tm, tm = (if Sr.1 4777 < du then du else Sr.1 4777) := ⟨_, rfl⟩
  have htmB : 0 ≤ tm ∧ tm ≤ B + 1000 := by rw [htm]; split <;> omega
  obtain ⟨z, hz⟩ : ∃ z : Nat, TS.length = z + 1 := ⟨TS.length - 1, by omega⟩
  have wz : ∀ _ : Nat, am_w32 ((TS.length : Int) - 1) = (z : Int) := fun _ => by rw [pr_w (by omega) (by omega)]; omega
  obtain ⟨Cf, hCf⟩ : ∃ Cf, Cf = am_sI (am_sI Ce 260 tm) 259 (z : Int) := ⟨_, rfl⟩
  have oCe : pr_out [459, 460] [67, 68, 69, 70] Sc Ce := by
    rw [hCe]
    refine pr_out_sI (pr_out_sA (pr_out_sA (pr_out_sA (pr_out_sA (pr_out_sI (pr_out_refl _) ?_) ?_) ?_) ?_) ?_) ?_ <;> decide
  have oCf : pr_out [259, 260] [] Ce Cf := by rw [hCf]; exact pr_out_sI (pr_out_sI (pr_out_refl _) (by decide)) (by decide)
  have cf2 : ∀ a, a = 58 ∨ a = 59 ∨ a = 60 → Cf.2 a = Sc.2 a := fun a ha => by rw [oCf.2 a (by simp), oCe.2 a (by simp; omega)]
  obtain ⟨Sc1, f1, f2, f3, f4⟩ := pr_finish_loop (z := z) (by omega) (z - r) r 1000 Cf (by omega) (by omega) (by rw [hCf]; rfl) (fun j h1 h2 => by
    rw [cf2 58 (by omega), cf2 60 (by omega)]
    exact ⟨hw58 (j + 1) (by omega), hw60 (j + 1) (by omega)⟩)
  have hdoT : sf_X9_doTask (r : Int) Sc = some Sc1 := by
    unfold sf_X9_doTask sf_X6_functionOf sf_X6_valueOf sf_X6_finish
    have w58 : am_w32 (Sc.2 58 r) = f := by rw [hw58 r d2]; exact T1
    have e60 : Ce.2 60 = Sc.2 60 := oCe.2 60 (by decide)
    have w60 : am_w32 (Ce.2 60 r) = du := by rw [e60, hw60 r d2]; exact T5
    have e260 : Ce.1 260 = Sr.1 4777 := by rw [oCe.1 260 (by decide)]; exact a5
    have e259 : (am_sI Ce 260 tm).1 259 = (TS.length : Int) := by
      show Ce.1 259 = _
      rw [oCe.1 259 (by decide)]; exact a4
    have emax : am_max (Sr.1 4777) du = tm := by rw [htm]; rfl
    rw [pr_atn (by omega), pr_b2, pr_b2, w58, pr_van (by omega), pr_b2, pr_b2, T3, hen, pr_b1, pr_atn (by omega), pr_b2, w60, e260, emax, pr_let, e259, wz 0, pr_let, ← hCf, f1, pr_b1]
  -- the reference: TIME, the TASK away
  obtain ⟨R1, hR1⟩ : ∃ R1, R1 = am_sA (am_sI Sr 4777 tm) 108 b (-1) := ⟨_, rfl⟩
  have oR1 : pr_out [4777] [108] Sr R1 := by rw [hR1]; exact pr_out_sA (pr_out_sI (pr_out_refl _) (by decide)) (by decide)
  have hrefT : (if Sr.2 108 b ≤ Sr.1 4777 then sf_X10_turn_155 (b : Int) Sr else sf_X10_turn_155 (b : Int) (am_sI Sr 4777 (Sr.2 108 b))) = am_b1 (sf_X10_done f s n R1) (fun S12 => (some (1, S12))) := by
    have h155 : ∀ S : am_S, S.2 = Sr.2 → sf_X10_turn_155 (b : Int) S = am_b1 (sf_X10_done f s n (am_sA S 108 b (-1))) (fun S12 => (some (1, S12))) := by
      intro S hS
      unfold sf_X10_turn_155
      have x1 : (am_sA S 108 b (-1)).2 110 = Sr.2 110 := by rw [pr_AA _ _ _ (by decide), hS]
      have x2 : (am_sA S 108 b (-1)).2 111 = Sr.2 111 := by rw [pr_AA _ _ _ (by decide), hS]
      have x3 : (am_sA S 108 b (-1)).2 112 = Sr.2 112 := by rw [pr_AA _ _ _ (by decide), hS]
      simp only [pr_gdn hb32, pr_let, Int.toNat_natCast]
      rw [x1, x2, x3, ← hf, ← hs, ← hn]
    rw [← hdu]
    by_cases hle : du ≤ Sr.1 4777
    · have ht : tm = Sr.1 4777 := by rw [htm, if_neg (by omega)]
      have hself : am_sI Sr 4777 (Sr.1 4777) = Sr := by
        have : am_up Sr.1 4777 (Sr.1 4777) = Sr.1 := by
          funext j
          unfold am_up
          split
          · rename_i e; rw [e]
          · rfl
        show (am_up Sr.1 4777 (Sr.1 4777), Sr.2) = Sr
        rw [this]
      rw [if_pos hle, h155 Sr rfl, hR1, ht, hself]
    · have ht : tm = du := by rw [htm, if_pos (by omega)]
      rw [if_neg hle, h155 (am_sI Sr 4777 du) rfl, hR1, ht]
  have X1 : pr_RX (am_sI Sc 460 (-1)) R1 [] := pr_RX_same X rfl rfl rfl rfl rfl rfl (oR1.2 _ (by decide)) (oR1.2 _ (by decide)) (oR1.2 _ (by decide)) (oR1.2 _ (by decide)) (oR1.2 _ (by decide)) (oR1.2 _ (by decide)) (oR1.2 _ (by decide)) (oR1.2 _ (by decide)) (oR1.1 _ (by decide)) (oR1.1 _ (by decide))
  have mR1 : R1.1 4745 = Sr.1 4745 := oR1.1 _ (by decide)
  have s1a : ∀ a, 67 ≤ a → a ≤ 71 → Sc1.2 a = Ce.2 a := fun a h1 h2 => by rw [f2.2 a (by simp; omega), oCf.2 a (by simp)]
  have s1i : ∀ n, n ≠ 259 → n ≠ 260 → Sc1.1 n = Ce.1 n := fun n h1 h2 => by rw [f2.1 n (by simp), oCf.1 n (by simp; omega)]
  have c67 : Sc1.2 67 = am_up (Sc.2 67) 100 f := by rw [s1a 67 (by omega) (by omega), hCe]; rfl
  have c68 : Sc1.2 68 = am_up (Sc.2 68) 100 0 := by rw [s1a 68 (by omega) (by omega), hCe]; rfl
  have c69 : Sc1.2 69 = am_up (Sc.2 69) 100 (pr_V s n) := by rw [s1a 69 (by omega) (by omega), hCe]; rfl
  have c70 : Sc1.2 70 = am_up (Sc.2 70) 100 (Sc.1 459) := by rw [s1a 70 (by omega) (by omega), hCe]; rfl
  obtain ⟨R2, g1, g2, g3⟩ := pr_push (Sc' := Sc1) (a := 100) (f := f) (t := 0) (s := s) (n := n) X1 (by rw [mR1]; exact m3)
    (fun b' hb' => by
      rw [c67, c68, c69, c70, am_up_ne _ _ hb', am_up_ne _ _ hb', am_up_ne _ _ hb', am_up_ne _ _ hb']
      exact ⟨rfl, rfl, rfl, rfl⟩) (by rw [c67, am_up_self]) T2 (by rw [c68, am_up_self]) (by omega) (by rw [c69, am_up_self]) (by rw [mR1]; exact T4) (by rw [c70, am_up_self]; exact X.2.1) (by rw [s1i 459 (by omega) (by omega), hCe]; rfl) (by rw [s1a 71 (by omega) (by omega), hCe]; rfl) (by omega) (by simp) (fun h => absurd rfl h) (fun _ => rfl)
  rw [if_pos rfl] at g1
  have oR2 : pr_out [4777, 4788] [108, 116, 117, 118, 119, 120] Sr R2 := pr_out_trans (pr_out_mono oR1 (by decide) (by decide)) (pr_out_mono g3 (by decide) (by decide))
  have x108 : R2.2 108 = am_up (Sr.2 108) b (-1) := by rw [g3.2 108 (by decide), hR1]; rfl
  obtain ⟨l1, l2, hl, hl1⟩ := pr_split TS r b hb
  have hnd2 := hnd
  rw [hl] at hnd2
  have hbn : b ∉ l1 ∧ b ∉ l2 := by
    have h := List.nodup_append.mp hnd2
    refine ⟨fun h1 => h.2.2 b h1 b List.mem_cons_self rfl, (List.nodup_cons.mp h.2.1).1⟩
  have K' : pr_RK (B + 1000) Sc1 R2 := by
    refine ⟨l1 ++ l2, fun t => ?_, ?_, fun t ht => ?_, ?_, ?_, ?_, fun j t hjt => ?_⟩
    · rw [x108]
      by_cases e : t = b
      · subst e
        rw [am_up_self]
        constructor
        · intro h
          rcases List.mem_append.mp h with h | h
          · exact absurd h hbn.1
          · exact absurd h hbn.2
        · rintro ⟨_, h⟩; omega
      · rw [am_up_ne _ _ e, ← a1 t, hl]
        simp [e]
    · rw [oR2.2 109 (by decide)]
      rw [hl] at a2
      refine a2.sublist ?_
      exact List.Sublist.append (List.Sublist.refl l1) (List.sublist_cons_self b l2)
    · rw [oR2.2 109 (by decide), oR2.1 4755 (by decide)]
      refine a3 t ?_
      rw [hl]
      rcases List.mem_append.mp ht with h | h
      · exact List.mem_append_left _ h
      · exact List.mem_append_right _ (List.mem_cons_of_mem _ h)
    · have hz2 : Sc1.1 259 = (z : Int) := by rw [f2.1 259 (by simp), hCf]; rfl
      have hzl : (l1 ++ l2).length = z := by
        have : TS.length = l1.length + (l2.length + 1) := by rw [hl]; simp
        rw [List.length_append]; omega
      rw [hz2, hzl]
    · have h1 : Sc1.1 260 = tm := by rw [f2.1 260 (by simp), hCf]; rfl
      have h2 : R2.1 4777 = tm := by rw [g3.1 4777 (by decide), hR1]; rfl
      rw [h1, h2]
    · have h2 : R2.1 4777 = tm := by rw [g3.1 4777 (by decide), hR1]; rfl
      rw [h2]; exact htmB
    · have hjz : j < z := by
        have h1 : j < (l1 ++ l2).length := by
          rcases Nat.lt_or_ge j (l1 ++ l2).length with h | h
          · exact h
          · rw [List.getElem?_eq_none h] at hjt; cases hjt
        have hzl : TS.length = l1.length + (l2.length + 1) := by rw [hl]; simp
        rw [List.length_append] at h1
        omega
      have htm2 : t ∈ l1 ++ l2 := List.mem_of_getElem? hjt
      have hne : t ≠ b := fun e => by
        subst e
        rcases List.mem_append.mp htm2 with h | h
        · exact hbn.1 h
        · exact hbn.2 h
      have hold : ∃ j0, TS[j0]? = some t ∧ Sc1.2 58 j = Sc.2 58 j0 ∧ Sc1.2 59 j = Sc.2 59 j0 ∧ Sc1.2 60 j = Sc.2 60 j0 := by
        rcases Nat.lt_or_ge j r with h | h
        · obtain ⟨q1, q2, q3⟩ := f3 j h
          rw [cf2 58 (by omega)] at q1
          rw [cf2 59 (by omega)] at q2
          rw [cf2 60 (by omega)] at q3
          refine ⟨j, ?_, q1, q2, q3⟩
          rw [List.getElem?_append_left (by omega)] at hjt
          rw [hl, List.getElem?_append_left (by omega)]; exact hjt
        · obtain ⟨q1, q2, q3⟩ := f4 j h hjz
          rw [cf2 58 (by omega)] at q1
          rw [cf2 59 (by omega)] at q2
          rw [cf2 60 (by omega)] at q3
          refine ⟨j + 1, ?_, q1, q2, q3⟩
          rw [List.getElem?_append_right (by omega)] at hjt
          rw [hl, List.getElem?_append_right (by omega)]
          have : j + 1 - l1.length = (j - l1.length) + 1 := by omega
          rw [this, List.getElem?_cons_succ]; exact hjt
      obtain ⟨j0, h0, q1, q2, q3⟩ := hold
      obtain ⟨c1, c2, c3, c4, c5, c6⟩ := a7 j0 t h0
      unfold pr_TD
      rw [q1, q2, q3, x108, am_up_ne _ _ hne, oR2.2 110 (by decide), oR2.2 111 (by decide), oR2.2 112 (by decide), oR2.1 4745 (by decide)]
      exact ⟨c1, c2, c3, c4, c5, by omega⟩
  have Z2 : pr_Y (B + 1000) Sc1 R2 := by
    have Zm := pr_Y_mono Z (show B ≤ B + 1000 by omega) (by omega)
    have hall : ∀ a, a ≠ 58 → a ≠ 59 → a ≠ 60 → (a < 67 ∨ 70 < a) → Sc1.2 a = Sc.2 a := fun a h1 h2 h3 h4 => by rw [f2.2 a (by simp; omega), oCf.2 a (by simp), oCe.2 a (by simp; omega)]
    have halli : ∀ n, n ≠ 259 → n ≠ 260 → n ≠ 459 → n ≠ 460 → Sc1.1 n = Sc.1 n := fun n h1 h2 h3 h4 => by rw [s1i n h1 h2, oCe.1 n (by simp; omega)]
    refine pr_Y_any Zm (fun a ha => hall a (by omega) (by omega) (by omega) (by omega)) (fun n hn => halli n (by omega) (by omega) (by omega) (by omega)) (fun a ha => oR2.2 a (by simp; omega)) (oR2.1 _ (by decide)) (oR2.1 _ (by decide)) ?_
    exact pr_O_task Zm.2.1 (fun a h1 h2 h3 h4 h5 => hall a h3 h4 h5 (by omega)) (halli _ (by omega) (by omega) (by omega) (by omega)) (halli _ (by omega) (by omega) (by omega) (by omega)) (halli _ (by omega) (by omega) (by omega) (by omega)) (fun a h1 h2 h3 h4 h5 h6 h7 => oR2.2 a (by simp; omega)) (oR2.1 _ (by decide)) (oR2.1 _ (by decide)) (oR2.1 _ (by decide)) (oR2.1 _ (by decide)) K'
  have hdn : pr_dn (-1) Sc1 R2 [100] := ⟨fun _ => ⟨by rw [s1i 460 (by omega) (by omega), hCe]; rfl, by omega, by rw [oR2.1 4745 (by decide)]; omega⟩, fun h => absurd (List.mem_singleton.mpr rfl) h⟩
  obtain ⟨Sc2, Sr2, v1, v2, v3⟩ := pr_go Z2 g2 hdn (by rw [oR2.1 4789 (by decide)]; exact t2) (by omega)
  refine ⟨r, b, Sc1, Sc2, Sr2, d1, hdoT, v1, hb32, hfd, ?_, pr_Y_mono (v3.2 (by omega)).1 (by omega) hB, (v3.2 (by omega)).2⟩
  rw [hrefT]
  unfold sf_X10_done
  rw [g1, pr_b1, v2, pr_b1, pr_b1]
