/-! the class: rows, values -/
def pr_pt (S : am_S) (a n : Nat) (i x : Int) : am_S := if 0 ≤ i ∧ i < (n : Int) then am_sA S a i.toNat x else S
theorem pr_put (a n : Nat) (i x : Int) (S : am_S) : sf_X4_put a n i x S = some (pr_pt S a n i x) := by
  unfold sf_X4_put pr_pt
  by_cases h : i < 0
  · rw [if_pos h, if_neg (by omega)]
  · rw [if_neg h]
    by_cases h2 : (n : Int) ≤ i
    · rw [if_pos h2, if_neg (by omega)]
    · rw [if_neg h2, pr_gd (by omega) (by omega), pr_let, if_pos ⟨by omega, by omega⟩]
theorem pr_putn {a n i : Nat} (h : i < n) (x : Int) (S : am_S) : sf_X4_put a n (i : Int) x S = some (am_sA S a i x) := by
  rw [pr_put]
  unfold pr_pt
  rw [if_pos ⟨by omega, by omega⟩, Int.toNat_natCast]
theorem pr_atn {a n i : Nat} (h : i < n) (S : am_S) : sf_X4_at a n (i : Int) S = some (am_w32 (S.2 a i), S) := by
  unfold sf_X4_at
  rw [if_neg (by omega), if_neg (by omega), pr_gdn h, Int.toNat_natCast]
theorem pr_van {a n i : Nat} (h : i < n) (S : am_S) : sf_X4_valueAt a n (i : Int) S = some (S.2 a i, S) := by
  unfold sf_X4_valueAt
  rw [if_neg (by omega), if_neg (by omega), pr_gdn h, Int.toNat_natCast]
def pr_V (s n : Int) : Int := s * 4294967296 + n % 4294967296
theorem pr_of {s n : Int} (h : -2147483648 ≤ s ∧ s < 2147483648) (S : am_S) : sf_X8_of s n S = some (pr_V s n, S) := by
  unfold sf_X8_of am_g32 am_glo
  rw [if_pos h, if_pos ⟨by omega, by omega, by omega⟩]; rfl
theorem pr_sortOf {s n : Int} (h : -2147483648 ≤ s ∧ s < 2147483648) (S : am_S) : sf_X8_sortOf (pr_V s n) S = some (s, S) := by
  unfold sf_X8_sortOf
  have : am_w32 (pr_V s n / 4294967296) = s := by unfold am_w32 pr_V; omega
  rw [this]
theorem pr_numberOf {s n : Int} (h : am_r32 n) (S : am_S) : sf_X8_numberOf (pr_V s n) S = some (n, S) := by
  unfold sf_X8_numberOf
  have : am_w32 (pr_V s n) = n := by unfold am_r32 at h; unfold am_w32 pr_V; omega
  rw [this]
theorem pr_V_inj {s n s2 n2 : Int} (h : am_r32 n) (h2 : am_r32 n2) : pr_V s n = pr_V s2 n2 ↔ s = s2 ∧ n = n2 := by
  unfold am_r32 at h h2
  unfold pr_V
  constructor
  · intro h3; constructor <;> omega
  · rintro ⟨rfl, rfl⟩; rfl
theorem pr_cmp0 (x y : Int) : am_cmp x y = 0 ↔ x = y := by
  unfold am_cmp
  by_cases h1 : y < x
  · rw [if_pos h1]; constructor <;> intro h <;> omega
  · rw [if_neg h1]
    by_cases h2 : x = y
    · rw [if_pos h2]; exact ⟨fun _ => h2, fun _ => rfl⟩
    · rw [if_neg h2]; constructor <;> intro h <;> omega
/-- a VALUE, where m PROMISES were made -/
def pr_VV (m s n : Int) : Prop := am_r32 n ∧ (s = 0 ∨ s = 1 ∧ 0 ≤ n ∧ n < m ∨ s = 2 ∧ 0 ≤ n ∧ n < 4)
theorem pr_VV_mono {m m2 s n : Int} (h : pr_VV m s n) (hm : m ≤ m2) : pr_VV m2 s n := by
  refine ⟨h.1, ?_⟩
  rcases h.2 with h | ⟨h1, h2, h3⟩ | h
  · exact Or.inl h
  · exact Or.inr (Or.inl ⟨h1, h2, by omega⟩)
  · exact Or.inr (Or.inr h)
theorem pr_VV_s {m s n : Int} (h : pr_VV m s n) : -2147483648 ≤ s ∧ s < 2147483648 := by
  rcases h.2 with h | ⟨h1, h2, h3⟩ | ⟨h1, h2, h3⟩ <;> omega
/-! chains of JOBS -/
def pr_lk (nx : Nat → Int) : List Nat → Prop
  | [] => True
  | a :: l => (∀ b, l.head? = some b → nx a = (b : Int)) ∧ pr_lk nx l
def pr_CH (nx : Nat → Int) (cnt first last : Int) (l : List Nat) : Prop :=
  cnt = (l.length : Int) ∧ (∀ b, l.head? = some b → first = (b : Int)) ∧ (∀ b, l.getLast? = some b → last = (b : Int)) ∧ pr_lk nx l
theorem pr_lk_congr {nx ny : Nat → Int} : ∀ {l : List Nat}, (∀ a ∈ l, ny a = nx a) → pr_lk nx l → pr_lk ny l
  | [], _, _ => True.intro
  | a :: l, h, hl => ⟨fun b hb => by rw [h a List.mem_cons_self]; exact hl.1 b hb, pr_lk_congr (fun x hx => h x (List.mem_cons_of_mem _ hx)) hl.2⟩
theorem pr_CH_congr {nx ny : Nat → Int} {c f t : Int} {l : List Nat} (h : ∀ a ∈ l, ny a = nx a) (hl : pr_CH nx c f t l) : pr_CH ny c f t l :=
  ⟨hl.1, hl.2.1, hl.2.2.1, pr_lk_congr h hl.2.2.2⟩
theorem pr_lk_app {nx : Nat → Int} : ∀ {l k : List Nat}, pr_lk nx l → pr_lk nx k → (∀ a b, l.getLast? = some a → k.head? = some b → nx a = (b : Int)) → pr_lk nx (l ++ k)
  | [], k, _, hk, _ => hk
  | [a], k, _, hk, h => ⟨fun b hb => h a b rfl hb, hk⟩
  | a :: c :: l, k, hl, hk, h => ⟨hl.1, pr_lk_app hl.2 hk (fun x y hx hy => h x y (by rw [List.getLast?_cons_cons]; exact hx) hy)⟩
theorem pr_lk_last {nx : Nat → Int} {z : Nat} {x : Int} : ∀ {l : List Nat}, pr_lk nx l → l.Nodup → l.getLast? = some z → pr_lk (am_up nx z x) l
  | [], _, _, _ => True.intro
  | [a], _, _, _ => ⟨fun b hb => (by cases hb), True.intro⟩
  | a :: c :: l, hl, hd, hz => by
    rw [List.getLast?_cons_cons] at hz
    refine ⟨fun b hb => ?_, pr_lk_last hl.2 (List.nodup_cons.mp hd).2 hz⟩
    have hm : z ∈ c :: l := List.mem_of_getLast? hz
    have hne : a ≠ z := fun e => (List.nodup_cons.mp hd).1 (e ▸ hm)
    rw [am_up_ne _ _ hne]
    exact hl.1 b hb
theorem pr_CH_app {nx : Nat → Int} {c f t c2 f2 t2 : Int} {l k : List Nat} (hl : pr_CH nx c f t l) (hk : pr_lk nx k) (hkn : k ≠ []) (h2 : ∀ b, k.getLast? = some b → t2 = (b : Int)) (hn : ∀ a b, l.getLast? = some a → k.head? = some b → nx a = (b : Int)) (hc : c2 = c + (k.length : Int)) (hf : (l ≠ [] → f2 = f) ∧ (l = [] → ∀ b, k.head? = some b → f2 = (b : Int))) : pr_CH nx c2 f2 t2 (l ++ k) := by
  refine ⟨by rw [hc, hl.1, List.length_append]; omega, fun b hb => ?_, fun b hb => ?_, pr_lk_app hl.2.2.2 hk hn⟩
  · cases l with
    | nil => exact hf.2 rfl b hb
    | cons a l => rw [hf.1 (by simp)]; exact hl.2.1 b hb
  · apply h2
    rw [← hb, List.getLast?_append]
    cases k with
    | nil => exact absurd rfl hkn
    | cons a k => rw [List.getLast?_cons, Option.some_or]
theorem pr_lineUp {S : am_S} {Q l : List Nat} {a1 a2 a3 : Int} (hQ : pr_CH (S.2 50) (S.1 76) (S.1 77) (S.1 78) Q) (hl : pr_lk (S.2 50) l) (h1 : ∀ b, l.head? = some b → a1 = (b : Int)) (h2 : ∀ b, l.getLast? = some b → a2 = (b : Int)) (h3 : a3 = (l.length : Int)) (hQ9 : ∀ j ∈ Q, j < 900) (hnd : Q.Nodup) (hdj : ∀ j ∈ Q, j ∉ l) (hb : Q.length + l.length < 2000000000) :
    ∃ S', sf_X3_lineUp a1 a2 a3 S = some S' ∧ pr_CH (S'.2 50) (S'.1 76) (S'.1 77) (S'.1 78) (Q ++ l) ∧ pr_out [76, 77, 78] [50] S S' ∧ ∀ j, j ∉ Q → S'.2 50 j = S.2 50 j := by
  cases l with
  | nil =>
    refine ⟨S, ?_, by rw [List.append_nil]; exact hQ, pr_out_refl S, fun _ _ => rfl⟩
    unfold sf_X3_lineUp
    rw [if_pos (by rw [h3]; rfl)]
  | cons b l =>
    have ha3 : a3 = (l.length : Int) + 1 := by rw [h3]; simp
    have hb' : Q.length + (l.length + 1) < 2000000000 := by simpa using hb
    have e1 := h1 b rfl
    cases hg : Q.getLast? with
    | none =>
      have hQ0 : Q = [] := List.getLast?_eq_none_iff.mp hg
      subst hQ0
      have c1 : S.1 76 = 0 := hQ.1
      refine ⟨am_sI (am_sI (am_sI S 77 a1) 78 a2) 76 (am_w32 (S.1 76 + a3)), ?_, ?_, ?_, fun _ _ => rfl⟩
      · unfold sf_X3_lineUp
        rw [if_neg (by omega), if_pos c1]; rfl
      · have g76 : (am_sI (am_sI (am_sI S 77 a1) 78 a2) 76 (am_w32 (S.1 76 + a3))).1 76 = am_w32 (S.1 76 + a3) := rfl
        refine ⟨?_, fun x hx => ?_, fun x hx => ?_, hl⟩
        · rw [g76, c1, pr_w (by omega) (by omega), h3]; simp
        · exact h1 x hx
        · exact h2 x hx
      · refine pr_out_sI (pr_out_sI (pr_out_sI (pr_out_refl S) ?_) ?_) ?_ <;> decide
    | some z =>
      have hz : z ∈ Q := List.mem_of_getLast? hg
      have hz9 := hQ9 z hz
      have c1 : S.1 76 = (Q.length : Int) := hQ.1
      have hQl : 0 < Q.length := List.length_pos_of_mem hz
      have c3 : S.1 78 = (z : Int) := hQ.2.2.1 z hg
      refine ⟨am_sI (am_sI (am_sA S 50 z a1) 78 a2) 76 (am_w32 (S.1 76 + a3)), ?_, ?_, ?_, fun j hj => ?_⟩
      · unfold sf_X3_lineUp
        rw [if_neg (by omega), if_neg (by omega), c3, pr_putn hz9]; rfl
      · have g76 : (am_sI (am_sI (am_sA S 50 z a1) 78 a2) 76 (am_w32 (S.1 76 + a3))).1 76 = am_w32 (S.1 76 + a3) := rfl
        have g77 : (am_sI (am_sI (am_sA S 50 z a1) 78 a2) 76 (am_w32 (S.1 76 + a3))).1 77 = S.1 77 := rfl
        have g78 : (am_sI (am_sI (am_sA S 50 z a1) 78 a2) 76 (am_w32 (S.1 76 + a3))).1 78 = a2 := rfl
        have g50 : (am_sI (am_sI (am_sA S 50 z a1) 78 a2) 76 (am_w32 (S.1 76 + a3))).2 50 = am_up (S.2 50) z a1 := rfl
        rw [g76, g77, g78, g50]
        have hQ' : pr_CH (am_up (S.2 50) z a1) (S.1 76) (S.1 77) (S.1 78) Q := ⟨hQ.1, hQ.2.1, hQ.2.2.1, pr_lk_last hQ.2.2.2 hnd hg⟩
        refine pr_CH_app hQ' (pr_lk_congr (fun a ha => ?_) hl) (by simp) h2 (fun a x ha hx => ?_) ?_ ⟨fun _ => rfl, fun h => ?_⟩
        · exact am_up_ne _ _ (fun e => hdj z hz (e ▸ ha))
        · have : a = z := Option.some.inj (ha.symm.trans hg)
          subst this
          rw [am_up_self]; exact h1 x hx
        · rw [c1, h3, pr_w (by simp; omega) (by simp; omega)]
        · rw [h] at hz; cases hz
      · refine pr_out_sI (pr_out_sI (pr_out_sA (pr_out_refl S) ?_) ?_) ?_ <;> decide
      · show am_up (S.2 50) z a1 j = S.2 50 j
        exact am_up_ne _ _ (fun e => hj (e ▸ hz))
/-- WAITED for, while it is PENDING -/
theorem pr_wait0 {S : am_S} {p j : Nat} {l : List Nat} (hp : p < 100) (hj : j < 900) (hs : am_w32 (S.2 41 p) = 0) (hC : pr_CH (S.2 50) (S.2 47 p) (S.2 48 p) (S.2 49 p) l) (hl9 : ∀ x ∈ l, x < 900) (hnd : l.Nodup) (hjl : j ∉ l) (hb : l.length < 2000000) :
    ∃ S', sf_X3_waitFor (p : Int) (j : Int) S = some S' ∧ pr_CH (S'.2 50) (S'.2 47 p) (S'.2 48 p) (S'.2 49 p) (l ++ [j]) ∧ pr_out [] [45, 47, 48, 49, 50, 51] S S' ∧ S'.2 45 = am_up (S.2 45) p 1 ∧ S'.2 51 = am_up (S.2 51) j (p : Int)
      ∧ (∀ i, i ≠ p → S'.2 47 i = S.2 47 i ∧ S'.2 48 i = S.2 48 i ∧ S'.2 49 i = S.2 49 i) ∧ ∀ x, x ∉ l → S'.2 50 x = S.2 50 x := by
  have hlen : am_w32 (S.2 47 p) = (l.length : Int) := by rw [hC.1, pr_w (by omega) (by omega)]
  have hlk1 : pr_lk (S.2 50) [j] := ⟨fun b hb => (by cases hb), True.intro⟩
  have ev : sf_X3_waitFor (p : Int) (j : Int) S = am_b2 (sf_X4_at 47 100 (p : Int) (am_sA (am_sA S 45 p 1) 51 j (p : Int))) (fun x9 S8 => (if x9 = 0 then (am_b1 (sf_X4_put 48 100 (p : Int) (j : Int) S8) (fun S16 => (sf_X3_waitFor_81 (p : Int) (j : Int) x9 S16))) else (am_b2 (sf_X4_at 49 100 (p : Int) S8) (fun x12 S11 => (am_b1 (sf_X4_put 50 900 x12 (j : Int) S11) (fun S14 => (sf_X3_waitFor_81 (p : Int) (j : Int) x9 S14))))))) := by
    unfold sf_X3_waitFor
    rw [pr_putn hp, pr_b1, pr_putn hj, pr_b1, pr_atn hp, pr_b2]
    have : am_w32 ((am_sA (am_sA S 45 p 1) 51 j (p : Int)).2 41 p) = 0 := hs
    rw [if_pos this]
  rw [ev, pr_atn hp, pr_b2]
  have e47 : am_w32 ((am_sA (am_sA S 45 p 1) 51 j (p : Int)).2 47 p) = (l.length : Int) := hlen
  rw [e47]
  obtain ⟨V, hV⟩ : ∃ V, V = am_w32 ((l.length : Int) + 1) := ⟨_, rfl⟩
  have hV1 : V = (l.length : Int) + 1 := by rw [hV, pr_w (by omega) (by omega)]
  cases hg : l.getLast? with
  | none =>
    have hl0 : l = [] := List.getLast?_eq_none_iff.mp hg
    subst hl0
    refine ⟨am_sA (am_sA (am_sA (am_sA (am_sA S 45 p 1) 51 j (p : Int)) 48 p (j : Int)) 49 p (j : Int)) 47 p V, ?_, ?_, ?_, rfl, rfl, fun i hi => ?_, fun _ _ => rfl⟩
    · rw [if_pos (show (([] : List Nat).length : Int) = 0 from rfl), pr_putn hp, pr_b1]
      unfold sf_X3_waitFor_81
      rw [← hV, pr_putn hp, pr_b1, pr_putn hp, pr_b1]
    · refine ⟨?_, fun b hb => ?_, fun b hb => ?_, hlk1⟩
      · show am_up (S.2 47) p _ p = _
        rw [am_up_self, hV1]; simp
      · show am_up (S.2 48) p _ p = _
        rw [am_up_self]; simp at hb; rw [hb]
      · show am_up (S.2 49) p _ p = _
        rw [am_up_self]; simp at hb; rw [hb]
    · refine pr_out_sA (pr_out_sA (pr_out_sA (pr_out_sA (pr_out_sA (pr_out_refl S) ?_) ?_) ?_) ?_) ?_ <;> decide
    · exact ⟨am_up_ne _ _ hi, am_up_ne _ _ hi, am_up_ne _ _ hi⟩
  | some z =>
    have hz : z ∈ l := List.mem_of_getLast? hg
    have hz9 := hl9 z hz
    have hlp : 0 < l.length := List.length_pos_of_mem hz
    have c3 : S.2 49 p = (z : Int) := hC.2.2.1 z hg
    refine ⟨am_sA (am_sA (am_sA (am_sA (am_sA S 45 p 1) 51 j (p : Int)) 50 z (j : Int)) 49 p (j : Int)) 47 p V, ?_, ?_, ?_, rfl, rfl, fun i hi => ?_, fun x hx => ?_⟩
    · rw [if_neg (by omega), pr_atn hp, pr_b2]
      have e49 : am_w32 ((am_sA (am_sA S 45 p 1) 51 j (p : Int)).2 49 p) = (z : Int) := by
        show am_w32 (S.2 49 p) = (z : Int)
        rw [c3, pr_w (by omega) (by omega)]
      rw [e49, pr_putn hz9, pr_b1]
      unfold sf_X3_waitFor_81
      rw [← hV, pr_putn hp, pr_b1, pr_putn hp, pr_b1]
    · have g50 : (am_sA (am_sA (am_sA (am_sA (am_sA S 45 p 1) 51 j (p : Int)) 50 z (j : Int)) 49 p (j : Int)) 47 p V).2 50 = am_up (S.2 50) z (j : Int) := rfl
      have g47 : (am_sA (am_sA (am_sA (am_sA (am_sA S 45 p 1) 51 j (p : Int)) 50 z (j : Int)) 49 p (j : Int)) 47 p V).2 47 p = V := am_up_self _ _ _
      have g48 : (am_sA (am_sA (am_sA (am_sA (am_sA S 45 p 1) 51 j (p : Int)) 50 z (j : Int)) 49 p (j : Int)) 47 p V).2 48 p = S.2 48 p := rfl
      have g49 : (am_sA (am_sA (am_sA (am_sA (am_sA S 45 p 1) 51 j (p : Int)) 50 z (j : Int)) 49 p (j : Int)) 47 p V).2 49 p = (j : Int) := am_up_self _ _ _
      rw [g50, g47, g48, g49]
      have hC' : pr_CH (am_up (S.2 50) z (j : Int)) (S.2 47 p) (S.2 48 p) (S.2 49 p) l := ⟨hC.1, hC.2.1, hC.2.2.1, pr_lk_last hC.2.2.2 hnd hg⟩
      refine pr_CH_app hC' ⟨fun b hb => (by cases hb), True.intro⟩ (by simp) (fun b hb => ?_) (fun a x ha hx => ?_) ?_ ⟨fun _ => rfl, fun h => ?_⟩
      · simp at hb; rw [hb]
      · have : a = z := Option.some.inj (ha.symm.trans hg)
        subst this
        rw [am_up_self]; simp at hx; rw [hx]
      · rw [hC.1, hV1]; simp
      · rw [h] at hz; cases hz
    · refine pr_out_sA (pr_out_sA (pr_out_sA (pr_out_sA (pr_out_sA (pr_out_refl S) ?_) ?_) ?_) ?_) ?_ <;> decide
    · exact ⟨am_up_ne _ _ hi, rfl, am_up_ne _ _ hi⟩
    · show am_up (S.2 50) z (j : Int) x = S.2 50 x
      exact am_up_ne _ _ (fun e => hx (e ▸ hz))
/-- WAITED for, when it is settled -/
theorem pr_wait1 {S : am_S} {p j : Nat} {Q : List Nat} (hp : p < 100) (hj : j < 900) (hs : am_w32 (S.2 41 p) ≠ 0) (hQ : pr_CH (S.2 50) (S.1 76) (S.1 77) (S.1 78) Q) (hQ9 : ∀ x ∈ Q, x < 900) (hnd : Q.Nodup) (hjl : j ∉ Q) (hb : Q.length < 2000000) :
    ∃ S', sf_X3_waitFor (p : Int) (j : Int) S = some S' ∧ pr_CH (S'.2 50) (S'.1 76) (S'.1 77) (S'.1 78) (Q ++ [j]) ∧ pr_out [76, 77, 78] [45, 50, 51] S S' ∧ S'.2 45 = am_up (S.2 45) p 1 ∧ S'.2 51 = am_up (S.2 51) j (p : Int)
      ∧ ∀ x, x ∉ Q → S'.2 50 x = S.2 50 x := by
  obtain ⟨S', h1, h2, h3, h4⟩ := pr_lineUp (S := am_sA (am_sA S 45 p 1) 51 j (p : Int)) (Q := Q) (l := [j]) (a1 := (j : Int)) (a2 := (j : Int)) (a3 := 1) hQ ⟨fun b hb => (by cases hb), True.intro⟩ (fun b hb => by simp at hb; rw [hb]) (fun b hb => by simp at hb; rw [hb]) rfl hQ9 hnd (fun x hx hm => hjl (by rw [← List.mem_singleton.mp hm]; exact hx)) (by simp; omega)
  refine ⟨S', ?_, h2, ?_, ?_, ?_, fun x hx => h4 x hx⟩
  · unfold sf_X3_waitFor
    rw [pr_putn hp, pr_b1, pr_putn hj, pr_b1, pr_atn hp, pr_b2]
    have : ¬ am_w32 ((am_sA (am_sA S 45 p 1) 51 j (p : Int)).2 41 p) = 0 := hs
    rw [if_neg this, h1]; rfl
  · refine pr_out_trans (pr_out_sA (pr_out_sA (pr_out_refl S) ?_) ?_) (pr_out_mono h3 ?_ ?_) <;> decide
  · rw [h3.2 45 (by decide)]; rfl
  · rw [h3.2 51 (by decide)]; rfl
