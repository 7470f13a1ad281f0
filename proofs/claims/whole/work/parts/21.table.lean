/-! what is left as it was -/
def pr_out (LI LA : List Nat) (S S' : am_S) : Prop := (∀ n, n ∉ LI → S'.1 n = S.1 n) ∧ ∀ a, a ∉ LA → S'.2 a = S.2 a
theorem pr_out_refl {LI LA : List Nat} (S : am_S) : pr_out LI LA S S := ⟨fun _ _ => rfl, fun _ _ => rfl⟩
theorem pr_out_trans {LI LA : List Nat} {S S1 S2 : am_S} (h : pr_out LI LA S S1) (h2 : pr_out LI LA S1 S2) : pr_out LI LA S S2 :=
  ⟨fun n hn => (h2.1 n hn).trans (h.1 n hn), fun n hn => (h2.2 n hn).trans (h.2 n hn)⟩
theorem pr_out_sA {LI LA : List Nat} {S S1 : am_S} (h : pr_out LI LA S S1) {a i : Nat} {x : Int} (ha : a ∈ LA) : pr_out LI LA S (am_sA S1 a i x) :=
  ⟨h.1, fun n hn => (pr_AA S1 i x (fun e => hn (by rw [e]; exact ha))).trans (h.2 n hn)⟩
theorem pr_out_sI {LI LA : List Nat} {S S1 : am_S} (h : pr_out LI LA S S1) {a : Nat} {x : Int} (ha : a ∈ LI) : pr_out LI LA S (am_sI S1 a x) :=
  ⟨fun n hn => (pr_Im S1 x (fun e => hn (by rw [e]; exact ha))).trans (h.1 n hn), h.2⟩
theorem pr_out_mono {LI LA MI MA : List Nat} {S S1 : am_S} (h : pr_out LI LA S S1) (h1 : ∀ n ∈ LI, n ∈ MI) (h2 : ∀ n ∈ LA, n ∈ MA) : pr_out MI MA S S1 :=
  ⟨fun n hn => h.1 n (fun hm => hn (h1 n hm)), fun n hn => h.2 n (fun hm => hn (h2 n hm))⟩
/-! the table: something more, something moved to the jobs, the first job taken away -/
def pr_W (S : am_S) : Nat := pr_cnt (fun k => decide (S.2 84 k ≠ 0) && decide (0 ≤ S.2 85 k)) 800
def pr_app (KS : Int → List Nat) (p : Int) (k : Nat) : Int → List Nat := fun q => if q = p then KS p ++ [k] else KS q
theorem pr_TB_congr {S : am_S} {KS KT : Int → List Nat} (T : pr_TB S KS) (h : ∀ q, KT q = KS q) : pr_TB S KT := by
  have : KT = KS := funext h
  rw [this]; exact T
theorem pr_TB_same {S S' : am_S} {KS : Int → List Nat} (T : pr_TB S KS) (h84 : S'.2 84 = S.2 84) (h85 : S'.2 85 = S.2 85) (h86 : S'.2 86 = S.2 86) (hc : S.1 4755 ≤ S'.1 4755) : pr_TB S' KS := by
  refine ⟨fun q k => ?_, fun q => ?_, fun k hk hl => ?_⟩
  · rw [h84, h85]; exact T.1 q k
  · rw [h86]; exact T.2.1 q
  · rw [h84] at hl; rw [h86]; exact Int.le_trans (T.2.2 k hk hl) hc
theorem pr_TB_add {S S' : am_S} {KS : Int → List Nat} {k : Nat} {q0 : Int} (T : pr_TB S KS) (hk : k < 800) (h0 : S.2 84 k = 0) (a84 : ∀ j, j ≠ k → S'.2 84 j = S.2 84 j) (b84 : S'.2 84 k ≠ 0) (a85 : ∀ j, j ≠ k → S'.2 85 j = S.2 85 j) (b85 : S'.2 85 k = q0) (a86 : ∀ j, j ≠ k → S'.2 86 j = S.2 86 j) (b86 : S'.2 86 k = S'.1 4755) (hc : S.1 4755 < S'.1 4755) : pr_TB S' (pr_app KS q0 k) := by
  have hne : ∀ q j, j ∈ KS q → j ≠ k := fun q j hj e => by
    subst e; exact ((T.1 q j).mp hj).2.1 h0
  refine ⟨fun q j => ?_, fun q => ?_, fun j hj hl => ?_⟩
  · unfold pr_app
    by_cases e : j = k
    · subst e
      by_cases hq : q = q0
      · subst hq
        rw [if_pos rfl]
        simp [hk, b84, b85]
      · rw [if_neg hq]
        constructor
        · intro h; exact absurd rfl (hne q j h)
        · rintro ⟨_, _, h⟩; exact absurd (h.symm.trans b85) hq
    · rw [a84 j e, a85 j e, ← T.1 q j]
      by_cases hq : q = q0
      · subst hq
        rw [if_pos rfl]
        simp [e]
      · rw [if_neg hq]
  · unfold pr_app
    by_cases hq : q = q0
    · subst hq
      rw [if_pos rfl, List.pairwise_append]
      refine ⟨(T.2.1 q).imp_of_mem (fun {i j} hi hj h => ?_), List.pairwise_singleton _ _, fun i hi j hj => ?_⟩
      · rw [a86 i (hne q i hi), a86 j (hne q j hj)]; exact h
      · rw [List.mem_singleton.mp hj, a86 i (hne q i hi), b86]
        have hh := (T.1 q i).mp hi
        have := T.2.2 i hh.1 hh.2.1
        omega
    · rw [if_neg hq]
      refine (T.2.1 q).imp_of_mem (fun {i j} hi hj h => ?_)
      rw [a86 i (hne q i hi), a86 j (hne q j hj)]; exact h
  · by_cases e : j = k
    · subst e; rw [b86]; exact Int.le_refl _
    · rw [a84 j e] at hl
      rw [a86 j e]
      have := T.2.2 j hj hl
      omega
theorem pr_TB_move {S S' : am_S} {KS : Int → List Nat} {k : Nat} {l : List Nat} {p : Int} (T : pr_TB S KS) (hp : p ≠ -1) (hl : KS p = k :: l) (a84 : S'.2 84 = S.2 84) (a85 : ∀ j, j ≠ k → S'.2 85 j = S.2 85 j) (b85 : S'.2 85 k = -1) (a86 : ∀ j, j ≠ k → S'.2 86 j = S.2 86 j) (b86 : S'.2 86 k = S'.1 4755) (hc : S.1 4755 < S'.1 4755) : pr_TB S' (fun q => if q = -1 then KS (-1) ++ [k] else if q = p then l else KS q) := by
  have hkp := (T.1 p k).mp (by rw [hl]; exact List.mem_cons_self)
  have hne : ∀ q j, q ≠ p → j ∈ KS q → j ≠ k := fun q j hq hj e => by
    subst e; exact hq (((T.1 q j).mp hj).2.2.symm.trans hkp.2.2)
  have hnd := pr_TB_nodup T p
  rw [hl] at hnd
  have hkl : k ∉ l := (List.nodup_cons.mp hnd).1
  refine ⟨fun q j => ?_, fun q => ?_, fun j hj hlv => ?_⟩
  · show j ∈ (if q = -1 then KS (-1) ++ [k] else if q = p then l else KS q) ↔ _
    rw [a84]
    by_cases e : j = k
    · subst e
      by_cases hq : q = -1
      · subst hq
        rw [if_pos rfl]
        simp [hkp.1, hkp.2.1, b85]
      · rw [if_neg hq]
        constructor
        · intro h
          by_cases hq2 : q = p
          · rw [if_pos hq2] at h; exact absurd h hkl
          · rw [if_neg hq2] at h; exact absurd rfl (hne q j hq2 h)
        · rintro ⟨_, _, h⟩; exact absurd (h.symm.trans b85) hq
    · rw [a85 j e, ← T.1 q j]
      by_cases hq : q = -1
      · subst hq
        rw [if_pos rfl]
        simp [e]
      · rw [if_neg hq]
        by_cases hq2 : q = p
        · subst hq2; rw [if_pos rfl, hl]; simp [e]
        · rw [if_neg hq2]
  · show (if q = -1 then KS (-1) ++ [k] else if q = p then l else KS q).Pairwise _
    by_cases hq : q = -1
    · subst hq
      rw [if_pos rfl, List.pairwise_append]
      have hn1 := fun i hi => hne (-1) i (fun e => hp e.symm) hi
      refine ⟨(T.2.1 (-1)).imp_of_mem (fun {i j} hi hj h => ?_), List.pairwise_singleton _ _, fun i hi j hj => ?_⟩
      · rw [a86 i (hn1 i hi), a86 j (hn1 j hj)]; exact h
      · rw [List.mem_singleton.mp hj, a86 i (hn1 i hi), b86]
        have hh := (T.1 (-1) i).mp hi
        have := T.2.2 i hh.1 hh.2.1
        omega
    · rw [if_neg hq]
      by_cases hq2 : q = p
      · subst hq2
        rw [if_pos rfl]
        have h1 := T.2.1 q
        rw [hl] at h1
        refine (List.pairwise_cons.mp h1).2.imp_of_mem (fun {i j} hi hj h => ?_)
        rw [a86 i (fun e => hkl (e ▸ hi)), a86 j (fun e => hkl (e ▸ hj))]; exact h
      · rw [if_neg hq2]
        refine (T.2.1 q).imp_of_mem (fun {i j} hi hj h => ?_)
        rw [a86 i (hne q i hq2 hi), a86 j (hne q j hq2 hj)]; exact h
  · rw [a84] at hlv
    by_cases e : j = k
    · subst e; rw [b86]; exact Int.le_refl _
    · rw [a86 j e]
      have := T.2.2 j hj hlv
      omega
theorem pr_TB_del {S S' : am_S} {KS : Int → List Nat} {k : Nat} {l : List Nat} (T : pr_TB S KS) (hl : KS (-1) = k :: l) (a84 : ∀ j, j ≠ k → S'.2 84 j = S.2 84 j) (b84 : S'.2 84 k = 0) (a85 : S'.2 85 = S.2 85) (a86 : S'.2 86 = S.2 86) (hc : S'.1 4755 = S.1 4755) : pr_TB S' (fun q => if q = -1 then l else KS q) := by
  have hkp := (T.1 (-1) k).mp (by rw [hl]; exact List.mem_cons_self)
  have hnd := pr_TB_nodup T (-1)
  rw [hl] at hnd
  have hkl : k ∉ l := (List.nodup_cons.mp hnd).1
  refine ⟨fun q j => ?_, fun q => ?_, fun j hj hlv => ?_⟩
  · show j ∈ (if q = -1 then l else KS q) ↔ _
    rw [a85]
    by_cases e : j = k
    · subst e
      rw [b84]
      constructor
      · intro h
        by_cases hq : q = -1
        · rw [if_pos hq] at h; exact absurd h hkl
        · rw [if_neg hq] at h
          exact absurd (((T.1 q j).mp h).2.2.symm.trans hkp.2.2) hq
      · rintro ⟨_, h, _⟩; exact absurd rfl h
    · rw [a84 j e, ← T.1 q j]
      by_cases hq : q = -1
      · subst hq; rw [if_pos rfl, hl]; simp [e]
      · rw [if_neg hq]
  · show (if q = -1 then l else KS q).Pairwise _
    rw [a86]
    by_cases hq : q = -1
    · rw [if_pos hq]
      have h1 := T.2.1 (-1)
      rw [hl] at h1
      exact (List.pairwise_cons.mp h1).2
    · rw [if_neg hq]; exact T.2.1 q
  · by_cases e : j = k
    · subst e; exact absurd b84 hlv
    · rw [a84 j e] at hlv
      rw [a86, hc]; exact T.2.2 j hj hlv
theorem pr_TB_len {S : am_S} {KS : Int → List Nat} (T : pr_TB S KS) (q : Int) : (KS q).length ≤ 800 := by
  rw [← pr_cnt_list (P := fun k => decide (S.2 84 k ≠ 0) && decide (S.2 85 k = q)) 800 (KS q) (pr_TB_nodup T q) (fun k => by
    rw [T.1 q k]
    simp)]
  exact pr_cnt_le _ _
/-! settle: all that waits for p becomes jobs -/
def pr_mov (S : am_S) (k : Nat) (w s n : Int) : am_S :=
  am_sA (am_sI (pr_car S k w s n) 4755 (am_w32 (S.1 4755 + 1))) 86 k (am_w32 (S.1 4755 + 1))
def pr_moved (KS : Int → List Nat) (p : Int) : Int → List Nat := fun q => if q = -1 then KS (-1) ++ KS p else if q = p then [] else KS q
theorem pr_settle_loop (p : Int) (hp : 0 ≤ p) (w s n : Int) : ∀ (l : List Nat) (fu : Nat) (S : am_S) (KS : Int → List Nat), pr_TB S KS → KS p = l → l.length < fu → 0 ≤ S.1 4755 → S.1 4755 + l.length < 2147483647 →
    ∃ S', sf_X10_settle_29 fu p w s n (pr_hd l) S = some S' ∧ pr_TB S' (pr_moved KS p) ∧ pr_out [4755] [85, 86, 90, 91, 92] S S' ∧ S'.1 4755 = S.1 4755 + l.length ∧ pr_W S' + l.length = pr_W S
      ∧ (∀ k, k ∉ l → S'.2 85 k = S.2 85 k ∧ S'.2 90 k = S.2 90 k ∧ S'.2 91 k = S.2 91 k ∧ S'.2 92 k = S.2 92 k)
      ∧ (∀ k, k ∈ l → S'.2 85 k = -1 ∧ S'.2 90 k = w ∧ S'.2 91 k = s ∧ S'.2 92 k = n) := by
  intro l
  induction l with
  | nil =>
    intro fu S KS T hl hfu h0 hc
    cases fu with
    | zero => exact absurd hfu (by simp)
    | succ fu =>
      refine ⟨S, rfl, pr_TB_congr T (fun q => ?_), pr_out_refl S, by simp, by simp, fun k _ => ⟨rfl, rfl, rfl, rfl⟩, fun k h => by cases h⟩
      unfold pr_moved
      by_cases hq : q = -1
      · rw [if_pos hq, hl, hq, List.append_nil]
      · rw [if_neg hq]
        by_cases hq2 : q = p
        · rw [if_pos hq2, hq2, hl]
        · rw [if_neg hq2]
  | cons k l ih =>
    intro fu S KS T hl hfu h0 hc
    cases fu with
    | zero => exact absurd hfu (by simp)
    | succ fu =>
      have hp1 : p ≠ -1 := by omega
      have hkp := (T.1 p k).mp (by rw [hl]; exact List.mem_cons_self)
      have hc2 : S.1 4755 + ((l.length : Int) + 1) < 2147483647 := by
        have : ((k :: l).length : Int) = (l.length : Int) + 1 := by simp
        rw [this] at hc; exact hc
      have hw : am_w32 (S.1 4755 + 1) = S.1 4755 + 1 := pr_w (by omega) (by omega)
      have e86 : (pr_mov S k w s n).2 86 = am_up (S.2 86) k (am_w32 (S.1 4755 + 1)) := rfl
      have e85 : (pr_mov S k w s n).2 85 = am_up (S.2 85) k (-1) := rfl
      have e84 : (pr_mov S k w s n).2 84 = S.2 84 := rfl
      have e90 : (pr_mov S k w s n).2 90 = am_up (S.2 90) k w := rfl
      have e91 : (pr_mov S k w s n).2 91 = am_up (S.2 91) k s := rfl
      have e92 : (pr_mov S k w s n).2 92 = am_up (S.2 92) k n := rfl
      have ec : (pr_mov S k w s n).1 4755 = S.1 4755 + 1 := by
        have : (pr_mov S k w s n).1 4755 = am_w32 (S.1 4755 + 1) := rfl
        rw [this, hw]
      have T1 := pr_TB_move (S' := pr_mov S k w s n) T hp1 hl e84 (fun j hj => by rw [e85, am_up_ne _ _ hj]) (by rw [e85, am_up_self]) (fun j hj => by rw [e86, am_up_ne _ _ hj]) (by rw [e86, am_up_self, ec, hw]) (by rw [ec]; omega)
      have hKp : (fun q => if q = -1 then KS (-1) ++ [k] else if q = p then l else KS q) p = l := by
        show (if p = -1 then KS (-1) ++ [k] else if p = p then l else KS p) = l
        rw [if_neg hp1, if_pos rfl]
      have hlen : l.length < fu := by simp at hfu; omega
      obtain ⟨S', g1, g2, g3, g4, g5, g6, g7⟩ := ih fu (pr_mov S k w s n) _ T1 hKp hlen (by rw [ec]; omega) (by rw [ec]; omega)
      have hnd := pr_TB_nodup T p
      rw [hl] at hnd
      have hkl : k ∉ l := (List.nodup_cons.mp hnd).1
      have hout : pr_out [4755] [85, 86, 90, 91, 92] S (pr_mov S k w s n) := by
        refine pr_out_sA (pr_out_sI (pr_out_sA (pr_out_sA (pr_out_sA (pr_out_sA (pr_out_refl S) ?_) ?_) ?_) ?_) ?_) ?_ <;> decide
      refine ⟨S', ?_, pr_TB_congr g2 (fun q => ?_), pr_out_trans hout g3, ?_, ?_, fun j hj => ?_, fun j hj => ?_⟩
      · show sf_X10_settle_29 (fu + 1) p w s n (k : Int) S = some S'
        simp only [sf_X10_settle_29]
        rw [if_neg (by omega), pr_carry hkp.1, pr_b1]
        simp only [pr_let, pr_gdn hkp.1, Int.toNat_natCast]
        show am_b2 (sf_X10_firstOn p (pr_mov S k w s n)) _ = some S'
        have hKp' : (if p = -1 then KS (-1) ++ [k] else if p = p then l else KS p) = l := hKp
        rw [pr_firstOn T1 p, pr_b2, hKp']
        exact g1
      · unfold pr_moved
        by_cases hq : q = -1
        · rw [if_pos hq, if_pos hq]
          show KS (-1) ++ KS p = (if (-1 : Int) = -1 then KS (-1) ++ [k] else if (-1 : Int) = p then l else KS (-1)) ++ (if p = -1 then KS (-1) ++ [k] else if p = p then l else KS p)
          rw [if_pos rfl, if_neg hp1, if_pos rfl, hl, List.append_assoc]; rfl
        · rw [if_neg hq, if_neg hq]
          by_cases hq2 : q = p
          · rw [if_pos hq2, if_pos hq2]
          · rw [if_neg hq2, if_neg hq2]
            show KS q = (if q = -1 then KS (-1) ++ [k] else if q = p then l else KS q)
            rw [if_neg hq, if_neg hq2]
      · rw [g4, ec]; simp; omega
      · have hch := pr_cnt_change (P := fun j => decide (S.2 84 j ≠ 0) && decide (0 ≤ S.2 85 j)) (Q := fun j => decide ((pr_mov S k w s n).2 84 j ≠ 0) && decide (0 ≤ (pr_mov S k w s n).2 85 j)) (k := k) 800 hkp.1 (fun j hj => by
          show (decide (S.2 84 j ≠ 0) && decide (0 ≤ S.2 85 j)) = (decide ((pr_mov S k w s n).2 84 j ≠ 0) && decide (0 ≤ (pr_mov S k w s n).2 85 j))
          rw [e84, e85, am_up_ne _ _ hj])
        simp only [e84, e85, am_up_self, hkp.2.2, hkp.2.1, hp, ne_eq, not_false_eq_true, decide_true, Bool.and_self, if_true, Bool.true_and] at hch
        have hW1 : pr_W (pr_mov S k w s n) = pr_cnt (fun j => decide (¬ S.2 84 j = 0) && decide (0 ≤ am_up (S.2 85) k (-1) j)) 800 := rfl
        have hW2 : pr_W S = pr_cnt (fun j => decide (¬ S.2 84 j = 0) && decide (0 ≤ S.2 85 j)) 800 := rfl
        rw [← hW1, ← hW2] at hch
        simp at hch
        simp only [List.length_cons]
        omega
      · have hjk : j ≠ k := fun e => hj (by rw [e]; exact List.mem_cons_self)
        have hjl : j ∉ l := fun h => hj (List.mem_cons_of_mem _ h)
        obtain ⟨q1, q2, q3, q4⟩ := g6 j hjl
        rw [q1, q2, q3, q4, e85, e90, e91, e92, am_up_ne _ _ hjk, am_up_ne _ _ hjk, am_up_ne _ _ hjk, am_up_ne _ _ hjk]
        exact ⟨rfl, rfl, rfl, rfl⟩
      · rcases List.mem_cons.mp hj with e | h
        · subst e
          obtain ⟨q1, q2, q3, q4⟩ := g6 j hkl
          rw [q1, q2, q3, q4, e85, e90, e91, e92, am_up_self, am_up_self, am_up_self, am_up_self]
          exact ⟨rfl, rfl, rfl, rfl⟩
        · exact g7 j h
