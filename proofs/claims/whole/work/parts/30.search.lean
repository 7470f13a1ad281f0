/-! the END of the innermost TRY in which a STEP lies: both ways of looking for it -/
def pr_eo (K : Nat → Int) : Nat → Nat → Nat → Int
  | 0, _, _ => -1
  | u + 1, i, k => if K k = 7 then (if i = 0 then (k : Int) else pr_eo K u (i - 1) (k + 1)) else if K k = 6 then pr_eo K u (i + 1) (k + 1) else pr_eo K u i (k + 1)
def pr_seg (K : Nat → Int) : Nat → Nat → Nat × Nat
  | 0, _ => (0, 0)
  | n + 1, t => if K t = 6 then (if 0 < (pr_seg K n (t + 1)).1 then ((pr_seg K n (t + 1)).1 - 1, (pr_seg K n (t + 1)).2) else (0, (pr_seg K n (t + 1)).2 + 1)) else if K t = 7 then ((pr_seg K n (t + 1)).1 + 1, (pr_seg K n (t + 1)).2) else pr_seg K n (t + 1)
def pr_A (K : Nat → Int) : Nat → Nat
  | 0 => 0
  | t + 1 => if K t = 6 then pr_A K t + 1 else if K t = 7 then pr_A K t - 1 else pr_A K t
theorem pr_eo_s (K : Nat → Int) (u i k : Nat) : pr_eo K (u + 1) i k = if K k = 7 then (if i = 0 then (k : Int) else pr_eo K u (i - 1) (k + 1)) else if K k = 6 then pr_eo K u (i + 1) (k + 1) else pr_eo K u i (k + 1) := rfl
theorem pr_seg_s (K : Nat → Int) (n t : Nat) : pr_seg K (n + 1) t = if K t = 6 then (if 0 < (pr_seg K n (t + 1)).1 then ((pr_seg K n (t + 1)).1 - 1, (pr_seg K n (t + 1)).2) else (0, (pr_seg K n (t + 1)).2 + 1)) else if K t = 7 then ((pr_seg K n (t + 1)).1 + 1, (pr_seg K n (t + 1)).2) else pr_seg K n (t + 1) := rfl
theorem pr_A_s (K : Nat → Int) (t : Nat) : pr_A K (t + 1) = if K t = 6 then pr_A K t + 1 else if K t = 7 then pr_A K t - 1 else pr_A K t := rfl
theorem pr_seg_1 (K : Nat → Int) (t : Nat) : pr_seg K 1 t = if K t = 6 then (0, 1) else if K t = 7 then (1, 0) else (0, 0) := by
  rw [show 1 = 0 + 1 from rfl, pr_seg_s]
  by_cases h6 : K t = 6
  · rw [if_pos h6, if_pos h6]; rfl
  · rw [if_neg h6, if_neg h6]; rfl
def pr_res (e : Int) : Int := if e = -1 then -1 else e + 1
theorem pr_eo_ge (K : Nat → Int) : ∀ (u i k : Nat), pr_eo K u i k = -1 ∨ ((k : Int) ≤ pr_eo K u i k ∧ pr_eo K u i k < (k : Int) + u ∧ K (pr_eo K u i k).toNat = 7)
  | 0, _, _ => Or.inl rfl
  | u + 1, i, k => by
    rw [pr_eo_s]
    by_cases h7 : K k = 7
    · rw [if_pos h7]
      by_cases hi : i = 0
      · rw [if_pos hi]
        refine Or.inr ⟨Int.le_refl _, by omega, ?_⟩
        rw [Int.toNat_natCast]; exact h7
      · rw [if_neg hi]
        rcases pr_eo_ge K u (i - 1) (k + 1) with h | h
        · exact Or.inl h
        · exact Or.inr ⟨by omega, by omega, h.2.2⟩
    · rw [if_neg h7]
      by_cases h6 : K k = 6
      · rw [if_pos h6]
        rcases pr_eo_ge K u (i + 1) (k + 1) with h | h
        · exact Or.inl h
        · exact Or.inr ⟨by omega, by omega, h.2.2⟩
      · rw [if_neg h6]
        rcases pr_eo_ge K u i (k + 1) with h | h
        · exact Or.inl h
        · exact Or.inr ⟨by omega, by omega, h.2.2⟩
theorem pr_eo_mono (K : Nat → Int) : ∀ (u i k : Nat), pr_eo K u i k = -1 → pr_eo K u (i + 1) k = -1
  | 0, _, _, _ => rfl
  | u + 1, i, k, h => by
    rw [pr_eo_s] at h ⊢
    by_cases h7 : K k = 7
    · rw [if_pos h7] at h ⊢
      rw [if_neg (by omega)]
      by_cases hi : i = 0
      · rw [if_pos hi] at h; omega
      · rw [if_neg hi] at h
        have := pr_eo_mono K u (i - 1) (k + 1) h
        rw [show i - 1 + 1 = i + 1 - 1 by omega] at this
        exact this
    · rw [if_neg h7] at h ⊢
      by_cases h6 : K k = 6
      · rw [if_pos h6] at h ⊢
        exact pr_eo_mono K u (i + 1) (k + 1) h
      · rw [if_neg h6] at h ⊢
        exact pr_eo_mono K u i (k + 1) h
theorem pr_eo_zero (K : Nat → Int) : ∀ (u i k : Nat), (∀ j, k ≤ j → K j = 0) → pr_eo K u i k = -1
  | 0, _, _, _ => rfl
  | u + 1, i, k, h => by
    rw [pr_eo_s]
    have hk := h k (Nat.le_refl k)
    rw [if_neg (by omega), if_neg (by omega)]
    exact pr_eo_zero K u i (k + 1) (fun j hj => h j (by omega))
theorem pr_eo_seg (K : Nat → Int) (u : Nat) : ∀ (n i t : Nat), (i < (pr_seg K n t).1 → (t : Int) ≤ pr_eo K (n + u) i t ∧ pr_eo K (n + u) i t < (t : Int) + n) ∧ ((pr_seg K n t).1 ≤ i → pr_eo K (n + u) i t = pr_eo K u (i - (pr_seg K n t).1 + (pr_seg K n t).2) (t + n))
  | 0, i, t => by
    refine ⟨fun h => absurd h (by simp [pr_seg]), fun _ => ?_⟩
    simp [pr_seg]
  | n + 1, i, t => by
    have e : n + 1 + u = (n + u) + 1 := by omega
    rw [e]
    rw [pr_eo_s, pr_seg_s]
    by_cases h6 : K t = 6
    · have h7 : ¬ K t = 7 := by omega
      simp only [if_neg h7, if_pos h6]
      have ih := pr_eo_seg K u n (i + 1) (t + 1)
      by_cases hD : 0 < (pr_seg K n (t + 1)).1
      · rw [if_pos hD]
        refine ⟨fun h => ?_, fun h => ?_⟩
        · have h' : i < (pr_seg K n (t + 1)).1 - 1 := h
          have := ih.1 (by omega)
          omega
        · have h' : (pr_seg K n (t + 1)).1 - 1 ≤ i := h
          rw [ih.2 (by omega)]
          congr 1
          · show i + 1 - (pr_seg K n (t + 1)).1 + (pr_seg K n (t + 1)).2 = i - ((pr_seg K n (t + 1)).1 - 1) + (pr_seg K n (t + 1)).2
            omega
          · omega
      · rw [if_neg hD]
        refine ⟨fun h => absurd h (by simp), fun h => ?_⟩
        rw [ih.2 (by omega)]
        congr 1
        · show i + 1 - (pr_seg K n (t + 1)).1 + (pr_seg K n (t + 1)).2 = i - 0 + ((pr_seg K n (t + 1)).2 + 1)
          omega
        · omega
    · simp only [if_neg h6]
      by_cases h7 : K t = 7
      · simp only [if_pos h7]
        by_cases hi : i = 0
        · rw [if_pos hi]
          refine ⟨fun h => by omega, fun h => ?_⟩
          have h' : (pr_seg K n (t + 1)).1 + 1 ≤ i := h
          omega
        · rw [if_neg hi]
          have ih := pr_eo_seg K u n (i - 1) (t + 1)
          refine ⟨fun h => ?_, fun h => ?_⟩
          · have h' : i < (pr_seg K n (t + 1)).1 + 1 := h
            have := ih.1 (by omega)
            omega
          · have h' : (pr_seg K n (t + 1)).1 + 1 ≤ i := h
            rw [ih.2 (by omega)]
            congr 1
            · show i - 1 - (pr_seg K n (t + 1)).1 + (pr_seg K n (t + 1)).2 = i - ((pr_seg K n (t + 1)).1 + 1) + (pr_seg K n (t + 1)).2
              omega
            · omega
      · simp only [if_neg h7]
        have ih := pr_eo_seg K u n i (t + 1)
        refine ⟨fun h => ?_, fun h => ?_⟩
        · have := ih.1 h
          omega
        · rw [ih.2 h]
          congr 1
          omega
/-- what is found from a STEP at 'at' -/
def pr_find (K : Nat → Int) (at' : Nat) : Int := if (pr_seg K 1 at').1 < pr_A K at' then pr_res (pr_eo K (20 - at') (pr_seg K 1 at').2 (at' + 1)) else -1
def pr_K (S : am_S) (f : Nat) : Nat → Int := fun i => if (i : Int) < S.2 98 f then S.2 99 (10 * f + i) else 0
theorem pr_find_le (S : am_S) (f at' : Nat) (hN : S.2 98 f ≤ 10) : pr_find (pr_K S f) at' = -1 ∨ ((at' : Int) + 2 ≤ pr_find (pr_K S f) at' ∧ pr_find (pr_K S f) at' ≤ 10) := by
  unfold pr_find
  by_cases h : (pr_seg (pr_K S f) 1 at').1 < pr_A (pr_K S f) at'
  · rw [if_pos h]
    unfold pr_res
    rcases pr_eo_ge (pr_K S f) (20 - at') (pr_seg (pr_K S f) 1 at').2 (at' + 1) with h2 | ⟨h2, h3, h4⟩
    · rw [h2]; exact Or.inl rfl
    · rw [if_neg (by omega)]
      refine Or.inr ⟨by omega, ?_⟩
      generalize pr_eo (pr_K S f) (20 - at') (pr_seg (pr_K S f) 1 at').2 (at' + 1) = e at *
      unfold pr_K at h4
      by_cases hh : ((e.toNat : Nat) : Int) < S.2 98 f
      · omega
      · rw [if_neg hh] at h4; omega
  · rw [if_neg h]; exact Or.inl rfl
