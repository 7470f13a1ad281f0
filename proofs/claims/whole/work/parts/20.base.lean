/-! ===== the pure part: the base ===== -/
theorem pr_b1 {α : Type} (S : am_S) (f : am_S → Option α) : am_b1 (some S) f = f S := rfl
theorem pr_b2 {α : Type} (x : Int) (S : am_S) (f : Int → am_S → Option α) : am_b2 (some (x, S)) f = f x S := rfl
theorem pr_let {α : Type} (S : am_S) (f : am_S → Option α) : am_let S f = f S := rfl
theorem pr_gd {α : Type} {i : Int} {n : Nat} {f : Option α} (h0 : 0 ≤ i) (h1 : i < (n : Int)) : am_gd i n f = f := if_pos ⟨h0, h1⟩
theorem pr_gdn {α : Type} {k n : Nat} (h : k < n) {f : Option α} : am_gd (k : Int) n f = f := if_pos ⟨by omega, by omega⟩
theorem pr_gz {α : Type} {x : Int} {f : Option α} (h : x = 0 ∨ x = 1) : am_gz x f = f := if_pos h
theorem pr_gz0 {α : Type} {f : Option α} : am_gz 0 f = f := if_pos (Or.inl rfl)
theorem pr_gz1 {α : Type} {f : Option α} : am_gz 1 f = f := if_pos (Or.inr rfl)
theorem pr_w {x : Int} (h1 : -2147483648 ≤ x) (h2 : x < 2147483648) : am_w32 x = x := am_w32_id ⟨h1, h2⟩
theorem pr_ws {i : Nat} (h : i < 2000000000) : am_w32 ((i : Int) + 1) = ((i + 1 : Nat) : Int) := by rw [pr_w (by omega) (by omega)]; omega
theorem pr_AA (S : am_S) {a b : Nat} (i : Nat) (x : Int) (h : b ≠ a) : (am_sA S a i x).2 b = S.2 b := am_up_ne _ _ h
theorem pr_A1 (S : am_S) (a i : Nat) (x : Int) : (am_sA S a i x).1 = S.1 := rfl
theorem pr_Ai (S : am_S) (a i : Nat) (x : Int) : (am_sA S a i x).2 a i = x := by simp [am_sA, am_up]
theorem pr_Aj (S : am_S) (a : Nat) {i j : Nat} (x : Int) (h : j ≠ i) : (am_sA S a i x).2 a j = S.2 a j := by simp [am_sA, am_up, h]
theorem pr_I2 (S : am_S) (n : Nat) (x : Int) : (am_sI S n x).2 = S.2 := rfl
theorem pr_In (S : am_S) (n : Nat) (x : Int) : (am_sI S n x).1 n = x := by simp [am_sI, am_up]
theorem pr_Im (S : am_S) {n m : Nat} (x : Int) (h : m ≠ n) : (am_sI S n x).1 m = S.1 m := by simp [am_sI, am_up, h]
/-! counting -/
def pr_cnt (P : Nat → Bool) : Nat → Nat
  | 0 => 0
  | n + 1 => (if P n then 1 else 0) + pr_cnt P n
theorem pr_cnt_congr {P Q : Nat → Bool} : ∀ (n : Nat), (∀ k, k < n → P k = Q k) → pr_cnt P n = pr_cnt Q n
  | 0, _ => rfl
  | n + 1, h => by
    simp only [pr_cnt]
    rw [h n (by omega), pr_cnt_congr n (fun k hk => h k (by omega))]
theorem pr_cnt_change {P Q : Nat → Bool} {k : Nat} : ∀ (n : Nat), k < n → (∀ j, j ≠ k → P j = Q j) → pr_cnt P n + (if Q k then 1 else 0) = pr_cnt Q n + (if P k then 1 else 0)
  | 0, h, _ => by omega
  | n + 1, h, hj => by
    simp only [pr_cnt]
    by_cases e : k = n
    · subst e
      rw [pr_cnt_congr k (fun j hjk => hj j (by omega))]
      omega
    · have := pr_cnt_change n (by omega) hj
      rw [hj n (fun h => e h.symm)]
      omega
theorem pr_cnt_le (P : Nat → Bool) : ∀ (n : Nat), pr_cnt P n ≤ n
  | 0 => Nat.le_refl _
  | n + 1 => by
    have := pr_cnt_le P n
    simp only [pr_cnt]
    split <;> omega
theorem pr_cnt_list {P : Nat → Bool} : ∀ (n : Nat) (l : List Nat), l.Nodup → (∀ k, k ∈ l ↔ k < n ∧ P k = true) → pr_cnt P n = l.length
  | 0, l, _, h => by
    cases l with
    | nil => rfl
    | cons a l => have := (h a).mp (List.mem_cons_self); omega
  | n + 1, l, hd, h => by
    simp only [pr_cnt]
    by_cases hn : P n = true
    · have hm : n ∈ l := (h n).mpr ⟨by omega, hn⟩
      have h1 := pr_cnt_list n (l.erase n) (hd.erase n) (fun k => by
        rw [hd.mem_erase_iff, h k]
        constructor
        · rintro ⟨h1, h2, h3⟩; exact ⟨by omega, h3⟩
        · rintro ⟨h1, h2⟩; exact ⟨by omega, by omega, h2⟩)
      rw [h1, if_pos hn, List.length_erase_of_mem hm]
      have : 0 < l.length := List.length_pos_of_mem hm
      omega
    · have h1 := pr_cnt_list n l hd (fun k => by
        rw [h k]
        constructor
        · rintro ⟨h1, h2⟩
          refine ⟨?_, h2⟩
          rcases Nat.lt_or_ge k n with h3 | h3
          · exact h3
          · have : k = n := by omega
            subst this; exact absurd h2 hn
        · rintro ⟨h1, h2⟩; exact ⟨by omega, h2⟩)
      rw [h1, if_neg hn]; omega
theorem pr_pigeon : ∀ (n : Nat) (f : Nat → Nat), (∀ i, i ≤ n → f i < n) → ∃ i j, i < j ∧ j ≤ n ∧ f i = f j
  | 0, f, h => by have := h 0 (by omega); omega
  | n + 1, f, h => by
    by_cases hx : ∃ i, i ≤ n ∧ f i = f (n + 1)
    · obtain ⟨i, h1, h2⟩ := hx
      exact ⟨i, n + 1, by omega, by omega, h2⟩
    · have hx' : ∀ i, i ≤ n → f i ≠ f (n + 1) := fun i hi he => hx ⟨i, hi, he⟩
      have hn := h (n + 1) (by omega)
      obtain ⟨i, j, h1, h2, h3⟩ := pr_pigeon n (fun i => if f i = n then f (n + 1) else f i) (fun i hi => by
        have a1 := h i (by omega)
        have a2 := hx' i hi
        show (if f i = n then f (n + 1) else f i) < n
        split <;> omega)
      refine ⟨i, j, h1, by omega, ?_⟩
      have a1 := hx' i (by omega)
      have a2 := hx' j (by omega)
      split at h3 <;> split at h3 <;> omega
/-! the table of the reference: all that waits, by what it waits for (-1: the jobs), in the order in which it came -/
def pr_live (S : am_S) (k : Nat) : Prop := k < 800 ∧ S.2 84 k ≠ 0
def pr_TB (S : am_S) (KS : Int → List Nat) : Prop :=
  (∀ q k, k ∈ KS q ↔ k < 800 ∧ S.2 84 k ≠ 0 ∧ S.2 85 k = q) ∧ (∀ q, (KS q).Pairwise (fun i j => S.2 86 i < S.2 86 j)) ∧ (∀ k, k < 800 → S.2 84 k ≠ 0 → S.2 86 k ≤ S.1 4755)
def pr_hd : List Nat → Int
  | [] => -1
  | k :: _ => (k : Int)
theorem pr_TB_nodup {S : am_S} {KS : Int → List Nat} (T : pr_TB S KS) (q : Int) : (KS q).Nodup := by
  refine (T.2.1 q).imp ?_
  intro a b h e
  subst e
  omega
def pr_ent (S : am_S) (k : Nat) (w p x y z : Int) : am_S :=
  am_sA (am_sA (am_sA (am_sA (am_sI (am_sA (am_sA S 84 k w) 85 k p) 4755 (am_w32 (S.1 4755 + 1))) 86 k (am_w32 (S.1 4755 + 1))) 87 k x) 88 k y) 89 k z
theorem pr_enter_loop (S : am_S) (w p x y z : Int) (k0 : Nat) (hk : k0 < 800) (h0 : S.2 84 k0 = 0) : ∀ (fu i : Nat), i ≤ k0 → k0 - i < fu → ∃ k, k < 800 ∧ S.2 84 k = 0 ∧ sf_X10_enter_3 fu w p x y z (i : Int) S = some ((k : Int), pr_ent S k w p x y z) := by
  intro fu
  induction fu with
  | zero => intro i _ h; omega
  | succ fu ih =>
    intro i hik hfu
    have hi8 : i < 800 := by omega
    simp only [sf_X10_enter_3, pr_gdn hi8, pr_let, Int.toNat_natCast]
    by_cases h : S.2 84 i = 0
    · rw [if_pos h]
      exact ⟨i, hi8, h, rfl⟩
    · rw [if_neg h]
      have hlt : i < k0 := by
        rcases Nat.lt_or_ge i k0 with h1 | h1
        · exact h1
        · have : i = k0 := by omega
          subst this; exact absurd h0 h
      rw [pr_ws (by omega)]
      exact ih (i + 1) (by omega) (by omega)
theorem pr_enter {S : am_S} {w p x y z : Int} (h : ∃ k, k < 800 ∧ S.2 84 k = 0) : ∃ k, k < 800 ∧ S.2 84 k = 0 ∧ sf_X10_enter w p x y z S = some ((k : Int), pr_ent S k w p x y z) := by
  obtain ⟨k0, hk, h0⟩ := h
  exact pr_enter_loop S w p x y z k0 hk h0 1000 0 (by omega) (by omega)
def pr_car (S : am_S) (k : Nat) (w s n : Int) : am_S := am_sA (am_sA (am_sA (am_sA S 85 k (-1)) 90 k w) 91 k s) 92 k n
theorem pr_carry {S : am_S} {k : Nat} {w s n : Int} (hk : k < 800) : sf_X10_carry (k : Int) w s n S = some (pr_car S k w s n) := by
  simp only [sf_X10_carry, pr_gdn hk, pr_let, Int.toNat_natCast]; rfl
/-- what firstOn has found among the first i -/
def pr_fo (S : am_S) (q : Int) (i : Nat) (b : Int) : Prop :=
  (b = -1 ∧ ∀ k, k < i → S.2 84 k ≠ 0 → S.2 85 k ≠ q) ∨ ∃ kb : Nat, b = (kb : Int) ∧ kb < i ∧ S.2 84 kb ≠ 0 ∧ S.2 85 kb = q ∧ ∀ k, k < i → S.2 84 k ≠ 0 → S.2 85 k = q → S.2 86 kb ≤ S.2 86 k
theorem pr_fo_keep {S : am_S} {q : Int} {i : Nat} {b : Int} (h : pr_fo S q i b) (hn : S.2 84 i ≠ 0 → S.2 85 i = q → ∃ kb : Nat, b = (kb : Int) ∧ S.2 86 kb ≤ S.2 86 i) : pr_fo S q (i + 1) b := by
  rcases h with ⟨h1, h2⟩ | ⟨kb, h1, h2, h3, h4, h5⟩
  · refine Or.inl ⟨h1, fun k hk hl hq => ?_⟩
    rcases Nat.lt_or_ge k i with h | h
    · exact h2 k h hl hq
    · have : k = i := by omega
      subst this
      obtain ⟨kb, e, _⟩ := hn hl hq
      omega
  · refine Or.inr ⟨kb, h1, by omega, h3, h4, fun k hk hl hq => ?_⟩
    rcases Nat.lt_or_ge k i with h | h
    · exact h5 k h hl hq
    · have : k = i := by omega
      subst this
      obtain ⟨kb2, e, h6⟩ := hn hl hq
      have : kb2 = kb := by omega
      subst this; exact h6
theorem pr_fo_take {S : am_S} {q : Int} {i : Nat} {b : Int} (h : pr_fo S q i b) (hl : S.2 84 i ≠ 0) (hq : S.2 85 i = q) (hn : ∀ kb : Nat, b = (kb : Int) → S.2 86 i ≤ S.2 86 kb) : pr_fo S q (i + 1) (i : Int) := by
  refine Or.inr ⟨i, rfl, by omega, hl, hq, fun k hk hl2 hq2 => ?_⟩
  rcases Nat.lt_or_ge k i with h6 | h6
  · rcases h with ⟨h1, h2⟩ | ⟨kb, h1, h2, h3, h4, h5⟩
    · exact absurd hq2 (h2 k h6 hl2)
    · exact Int.le_trans (hn kb h1) (h5 k h6 hl2 hq2)
  · have : k = i := by omega
    subst this; exact Int.le_refl _
theorem pr_firstOn_loop (S : am_S) (q : Int) : ∀ (fu i : Nat) (b : Int), i ≤ 800 → 800 - i < fu → pr_fo S q i b → ∃ r : Int, sf_X10_firstOn_4 fu q b (i : Int) S = some (r, S) ∧ pr_fo S q 800 r := by
  intro fu
  induction fu with
  | zero => intro i b _ h _; omega
  | succ fu ih =>
    intro i b hi hfu hf
    simp only [sf_X10_firstOn_4]
    by_cases h8 : (800 : Int) ≤ (i : Int)
    · rw [if_pos h8]
      have : i = 800 := by omega
      subst this
      exact ⟨b, rfl, hf⟩
    · rw [if_neg h8]
      have hi8 : i < 800 := by omega
      simp only [pr_gdn hi8, Int.toNat_natCast]
      rw [pr_ws (by omega)]
      by_cases hl : S.2 84 i = 0
      · rw [if_pos hl]
        exact ih (i + 1) b (by omega) (by omega) (pr_fo_keep hf (fun h => absurd hl h))
      · rw [if_neg hl]
        by_cases hq : S.2 85 i = q
        · rw [if_pos hq]
          by_cases hb : b < 0
          · rw [if_pos hb]
            exact ih (i + 1) (i : Int) (by omega) (by omega) (pr_fo_take hf hl hq (fun kb e => by omega))
          · rw [if_neg hb]
            obtain ⟨kb, e, hkb⟩ : ∃ kb : Nat, b = (kb : Int) ∧ kb < i := by
              rcases hf with ⟨h1, h2⟩ | ⟨kb, h1, h2, _⟩
              · omega
              · exact ⟨kb, h1, h2⟩
            subst e
            simp only [pr_gdn (show kb < 800 by omega), Int.toNat_natCast]
            by_cases ho : S.2 86 kb ≤ S.2 86 i
            · rw [if_pos ho]
              exact ih (i + 1) (kb : Int) (by omega) (by omega) (pr_fo_keep hf (fun _ _ => ⟨kb, rfl, ho⟩))
            · rw [if_neg ho]
              exact ih (i + 1) (i : Int) (by omega) (by omega) (pr_fo_take hf hl hq (fun kb2 e => by
                have : kb2 = kb := by omega
                subst this; omega))
        · rw [if_neg hq]
          exact ih (i + 1) b (by omega) (by omega) (pr_fo_keep hf (fun _ h => absurd h hq))
theorem pr_firstOn {S : am_S} {KS : Int → List Nat} (T : pr_TB S KS) (q : Int) : sf_X10_firstOn q S = some (pr_hd (KS q), S) := by
  obtain ⟨r, h1, h2⟩ := pr_firstOn_loop S q 1000 0 (-1) (by omega) (by omega) (Or.inl ⟨rfl, fun k hk => by omega⟩)
  have h1' : sf_X10_firstOn q S = some (r, S) := h1
  rw [h1']
  have e : r = pr_hd (KS q) := by
    rcases h2 with ⟨h3, h4⟩ | ⟨kb, h3, h4, h5, h6, h7⟩
    · cases hk : KS q with
      | nil => exact h3
      | cons a l =>
        have := (T.1 q a).mp (by rw [hk]; exact List.mem_cons_self)
        exact absurd this.2.2 (h4 a this.1 this.2.1)
    · have hm : kb ∈ KS q := (T.1 q kb).mpr ⟨h4, h5, h6⟩
      cases hk : KS q with
      | nil => rw [hk] at hm; cases hm
      | cons a l =>
        have ha := (T.1 q a).mp (by rw [hk]; exact List.mem_cons_self)
        have hp := T.2.1 q
        rw [hk] at hp hm
        rcases List.mem_cons.mp hm with e | hm2
        · subst e; exact h3
        · have h8 := (List.pairwise_cons.mp hp).1 kb hm2
          have h9 := h7 a ha.1 ha.2.1 ha.2.2
          omega
  rw [e]
theorem pr_waiting_loop (S : am_S) (q : Int) : ∀ (fu i : Nat) (c : Nat), i ≤ 800 → 800 - i < fu → c ≤ i → sf_X10_waiting_4 fu q (c : Int) (i : Int) S = some (((c + pr_cnt (fun k => decide (S.2 84 k ≠ 0) && decide (S.2 85 k = q)) 800 - pr_cnt (fun k => decide (S.2 84 k ≠ 0) && decide (S.2 85 k = q)) i : Nat) : Int), S) := by
  intro fu
  induction fu with
  | zero => intro i b _ h _; omega
  | succ fu ih =>
    intro i c hi hfu hc
    simp only [sf_X10_waiting_4]
    by_cases h8 : (800 : Int) ≤ (i : Int)
    · rw [if_pos h8]
      have : i = 800 := by omega
      subst this
      rw [Nat.add_sub_cancel]
    · rw [if_neg h8]
      have hi8 : i < 800 := by omega
      simp only [pr_gdn hi8, Int.toNat_natCast]
      rw [pr_ws (show i < 2000000000 by omega), pr_ws (show c < 2000000000 by omega)]
      have hs : pr_cnt (fun k => decide (S.2 84 k ≠ 0) && decide (S.2 85 k = q)) (i + 1) = (if (decide (S.2 84 i ≠ 0) && decide (S.2 85 i = q)) = true then 1 else 0) + pr_cnt (fun k => decide (S.2 84 k ≠ 0) && decide (S.2 85 k = q)) i := rfl
      by_cases hl : S.2 84 i = 0
      · rw [if_pos hl, ih (i + 1) c (by omega) (by omega) (by omega), hs, if_neg (by simp [hl]), Nat.zero_add]
      · rw [if_neg hl]
        by_cases hq : S.2 85 i = q
        · rw [if_pos hq, ih (i + 1) (c + 1) (by omega) (by omega) (by omega), hs, if_pos (by simp [hl, hq])]
          have e : ∀ A B : Nat, c + 1 + A - (1 + B) = c + A - B := fun A B => by omega
          rw [e]
        · rw [if_neg hq, ih (i + 1) c (by omega) (by omega) (by omega), hs, if_neg (by simp [hq]), Nat.zero_add]
theorem pr_waiting {S : am_S} {KS : Int → List Nat} (T : pr_TB S KS) (q : Int) : sf_X10_waiting q S = some (((KS q).length : Int), S) := by
  have h := pr_waiting_loop S q 1000 0 0 (by omega) (by omega) (by omega)
  have h' : sf_X10_waiting q S = _ := h
  rw [h', pr_cnt_list 800 (KS q) (pr_TB_nodup T q) (fun k => by
    rw [T.1 q k]
    simp)]
  simp [pr_cnt]
