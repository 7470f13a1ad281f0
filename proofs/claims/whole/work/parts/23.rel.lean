/-! the relation of class (Sc) and reference (Sr): PROMISES and JOBS -/
def pr_jb (S : am_S) (k : Nat) : Nat :=
  (if S.2 84 k = 1 then S.2 89 k * 9 + 2 else if S.2 84 k = 2 then S.2 87 k * 9 + 1 else if S.2 84 k = 3 then S.2 87 k * 9 + (4 + S.2 88 k) else if S.2 84 k = 4 then S.2 87 k * 9 + 3 else S.2 87 k * 9).toNat
def pr_cd (S : am_S) (k : Nat) : Nat :=
  (if S.2 84 k = 1 then S.2 89 k * 8 + 1 else if S.2 84 k = 2 then S.2 87 k * 8 else if S.2 84 k = 3 then S.2 87 k * 8 + (3 + S.2 88 k) else if S.2 84 k = 4 then S.2 87 k * 8 + 2 else S.2 87 k * 8).toNat
theorem pr_jb_congr {S S' : am_S} {k : Nat} (h84 : S'.2 84 k = S.2 84 k) (h87 : S'.2 87 k = S.2 87 k) (h88 : S'.2 88 k = S.2 88 k) (h89 : S'.2 89 k = S.2 89 k) : pr_jb S' k = pr_jb S k := by
  unfold pr_jb; rw [h84, h87, h88, h89]
theorem pr_cd_congr {S S' : am_S} {k : Nat} (h84 : S'.2 84 k = S.2 84 k) (h87 : S'.2 87 k = S.2 87 k) (h88 : S'.2 88 k = S.2 88 k) (h89 : S'.2 89 k = S.2 89 k) : pr_cd S' k = pr_cd S k := by
  unfold pr_cd; rw [h84, h87, h88, h89]
/-- what something that waits is for: PROMISE p -/
def pr_JK (Sc Sr : am_S) (m : Int) (k p : Nat) : Prop :=
  (Sr.2 84 k = 1 ∧ Sr.2 89 k = (p : Int) ∧ Sc.2 72 p = Sr.2 87 k ∧ Sc.2 73 p = Sr.2 88 k ∧ -1 ≤ Sr.2 87 k ∧ Sr.2 87 k < 10 ∧ -1 ≤ Sr.2 88 k ∧ Sr.2 88 k < 10)
  ∨ (Sr.2 84 k = 2 ∧ Sr.2 87 k = (p : Int) ∧ Sr.2 81 p = 0 ∧ Sr.2 78 p = Sr.2 88 k ∧ 1 ≤ Sr.2 88 k)
  ∨ (Sr.2 84 k = 3 ∧ Sr.2 87 k = (p : Int) ∧ 0 ≤ Sr.2 88 k ∧ Sr.2 88 k < 5)
  ∨ (Sr.2 84 k = 4 ∧ Sr.2 87 k = (p : Int) ∧ Sc.2 71 p = 1)
  ∨ (Sr.2 84 k = 5 ∧ Sr.2 87 k = (p : Int) ∧ Sr.2 81 p = 1 ∧ Sr.2 75 p = 0 ∧ Sr.2 85 k = -1 ∧ Sr.2 90 k = 0 ∧ Sc.2 46 p = pr_V (Sr.2 91 k) (Sr.2 92 k) ∧ pr_VV m (Sr.2 91 k) (Sr.2 92 k) ∧ Sr.2 91 k ≠ 0)
/-- what it waits for -/
def pr_JO (Sc Sr : am_S) (m : Int) (k : Nat) : Prop :=
  (∃ q : Nat, (q : Int) < m ∧ Sr.2 85 k = (q : Int) ∧ Sr.2 75 q = 0 ∧ Sr.2 84 k ≠ 5 ∧ Sc.2 51 (pr_jb Sr k) = (q : Int))
  ∨ (Sr.2 85 k = -1 ∧ (Sr.2 84 k ≠ 5 → ∃ q : Nat, (q : Int) < m ∧ Sc.2 51 (pr_jb Sr k) = (q : Int) ∧ Sr.2 75 q ≠ 0 ∧ Sr.2 90 k = Sr.2 75 q ∧ Sr.2 91 k = Sr.2 76 q ∧ Sr.2 92 k = Sr.2 77 q))
def pr_PD (B : Int) (Sc Sr : am_S) (m : Int) (p : Nat) : Prop :=
  Sc.2 41 p = Sr.2 75 p ∧ (Sr.2 75 p = 0 ∨ Sr.2 75 p = 1 ∨ Sr.2 75 p = 2)
  ∧ (Sr.2 75 p ≠ 0 → Sc.2 42 p = pr_V (Sr.2 76 p) (Sr.2 77 p) ∧ pr_VV m (Sr.2 76 p) (Sr.2 77 p) ∧ (Sr.2 75 p = 1 → Sr.2 76 p = 0) ∧ Sr.2 81 p = 1)
  ∧ Sc.2 43 p = Sr.2 78 p ∧ 0 ≤ Sr.2 78 p ∧ Sr.2 78 p ≤ B ∧ Sc.2 44 p = Sr.2 81 p ∧ (Sr.2 81 p = 0 ∨ Sr.2 81 p = 1)
  ∧ Sc.2 45 p = Sr.2 82 p ∧ (Sr.2 82 p = 0 ∨ Sr.2 82 p = 1)
def pr_RB (B : Int) (Sc Sr : am_S) (KS : Int → List Nat) : Prop :=
  Sc.1 75 = Sr.1 4745 ∧ (0 ≤ Sr.1 4745 ∧ Sr.1 4745 ≤ 100) ∧ pr_TB Sr KS
  ∧ (∀ p : Nat, (p : Int) < Sr.1 4745 → pr_PD B Sc Sr (Sr.1 4745) p)
  ∧ pr_CH (Sc.2 50) (Sc.1 76) (Sc.1 77) (Sc.1 78) ((KS (-1)).map (pr_jb Sr))
  ∧ (∀ p : Nat, (p : Int) < Sr.1 4745 → pr_CH (Sc.2 50) (Sc.2 47 p) (Sc.2 48 p) (Sc.2 49 p) ((KS (p : Int)).map (pr_jb Sr)))
  ∧ (∀ k, pr_live Sr k → (∃ p : Nat, (p : Int) < Sr.1 4745 ∧ pr_JK Sc Sr (Sr.1 4745) k p) ∧ pr_JO Sc Sr (Sr.1 4745) k)
  ∧ (∀ k k', pr_live Sr k → pr_live Sr k' → pr_cd Sr k = pr_cd Sr k' → k = k')
  ∧ (0 ≤ Sr.1 4755 ∧ Sr.1 4755 + (pr_W Sr : Int) ≤ B ∧ B < 2000000000)
  ∧ (∀ p : Nat, Sr.1 4745 ≤ (p : Int) → p < 100 → Sc.2 71 p = 0)
theorem pr_jb_cd {Sc Sr Sc2 Sr2 : am_S} {m m2 : Int} {k k2 p p2 : Nat} (h : pr_JK Sc Sr m k p) (h2 : pr_JK Sc2 Sr2 m2 k2 p2) (he : pr_jb Sr k = pr_jb Sr2 k2) : pr_cd Sr k = pr_cd Sr2 k2 := by
  unfold pr_jb at he
  unfold pr_cd
  rcases h with ⟨a1, a2, -⟩ | ⟨a1, a2, -⟩ | ⟨a1, a2, a3, a4⟩ | ⟨a1, a2, -⟩ | ⟨a1, a2, -⟩ <;>
  rcases h2 with ⟨b1, b2, -⟩ | ⟨b1, b2, -⟩ | ⟨b1, b2, b3, b4⟩ | ⟨b1, b2, -⟩ | ⟨b1, b2, -⟩ <;>
  rw [a1, b1] at he <;> rw [a1, b1] <;> simp at he <;> simp <;> omega
theorem pr_jb_lt {Sc Sr : am_S} {m : Int} {k p : Nat} (h : pr_JK Sc Sr m k p) (hp : p < 100) : pr_jb Sr k < 900 ∧ pr_cd Sr k < 800 := by
  unfold pr_jb pr_cd
  rcases h with ⟨a1, a2, -⟩ | ⟨a1, a2, -⟩ | ⟨a1, a2, a3, a4⟩ | ⟨a1, a2, -⟩ | ⟨a1, a2, -⟩ <;> rw [a1] <;> simp <;> omega
theorem pr_RB_jbinj {B : Int} {Sc Sr : am_S} {KS : Int → List Nat} (R : pr_RB B Sc Sr KS) {k k' : Nat} (h : pr_live Sr k) (h' : pr_live Sr k') (he : pr_jb Sr k = pr_jb Sr k') : k = k' := by
  obtain ⟨-, -, -, -, -, -, r7, r8, -, -⟩ := R
  obtain ⟨⟨p, -, j1⟩, -⟩ := r7 k h
  obtain ⟨⟨p', -, j2⟩, -⟩ := r7 k' h'
  exact r8 k k' h h' (pr_jb_cd j1 j2 he)
theorem pr_RB_live {B : Int} {Sc Sr : am_S} {KS : Int → List Nat} (R : pr_RB B Sc Sr KS) {q : Int} {k : Nat} (h : k ∈ KS q) : pr_live Sr k ∧ Sr.2 85 k = q := by
  have := (R.2.2.1.1 q k).mp h
  exact ⟨⟨this.1, this.2.1⟩, this.2.2⟩
theorem pr_RB_list {B : Int} {Sc Sr : am_S} {KS : Int → List Nat} (R : pr_RB B Sc Sr KS) (q : Int) : ((KS q).map (pr_jb Sr)).Nodup ∧ (∀ j ∈ (KS q).map (pr_jb Sr), j < 900) ∧ ((KS q).map (pr_jb Sr)).length ≤ 800 := by
  refine ⟨?_, fun j hj => ?_, ?_⟩
  · have hn := pr_TB_nodup R.2.2.1 q
    unfold List.Nodup at hn ⊢
    rw [List.pairwise_map]
    exact hn.imp_of_mem (fun {a b} ha hb h e => h (pr_RB_jbinj R (pr_RB_live R ha).1 (pr_RB_live R hb).1 e))
  · obtain ⟨k, hk, e⟩ := List.mem_map.mp hj
    have hl := pr_RB_live R hk
    obtain ⟨-, r2, -, -, -, -, r7, -, -, -⟩ := R
    obtain ⟨⟨p, hp, j1⟩, -⟩ := r7 k hl.1
    rw [← e]
    exact (pr_jb_lt j1 (by omega)).1
  · rw [List.length_map]; exact pr_TB_len R.2.2.1 q
theorem pr_RB_disj {B : Int} {Sc Sr : am_S} {KS : Int → List Nat} (R : pr_RB B Sc Sr KS) {q q' : Int} (h : q ≠ q') : ∀ j ∈ (KS q).map (pr_jb Sr), j ∉ (KS q').map (pr_jb Sr) := by
  intro j hj hj'
  obtain ⟨k, hk, e⟩ := List.mem_map.mp hj
  obtain ⟨k', hk', e'⟩ := List.mem_map.mp hj'
  have h1 := pr_RB_live R hk
  have h2 := pr_RB_live R hk'
  have := pr_RB_jbinj R h1.1 h2.1 (e.trans e'.symm)
  subst this
  exact h (h1.2.symm.trans h2.2)
theorem pr_RB_free {B : Int} {Sc Sr : am_S} {KS : Int → List Nat} (R : pr_RB B Sc Sr KS) {c0 : Nat} (hc : c0 < 800) (hn : ∀ k, pr_live Sr k → pr_cd Sr k ≠ c0) : ∃ k, k < 800 ∧ Sr.2 84 k = 0 := by
  rcases Classical.em (∃ k, k < 800 ∧ Sr.2 84 k = 0) with h | h
  · exact h
  · have hl : ∀ k, k < 800 → pr_live Sr k := fun k hk => ⟨hk, fun e => h ⟨k, hk, e⟩⟩
    obtain ⟨-, r2, -, -, -, -, r7, r8, -, -⟩ := R
    obtain ⟨i, j, h1, h2, h3⟩ := pr_pigeon 800 (fun i => if i < 800 then pr_cd Sr i else c0) (fun i hi => by
      show (if i < 800 then pr_cd Sr i else c0) < 800
      by_cases hi8 : i < 800
      · rw [if_pos hi8]
        obtain ⟨⟨p, hp, j1⟩, -⟩ := r7 i (hl i hi8)
        exact (pr_jb_lt j1 (by omega)).2
      · rw [if_neg hi8]; exact hc)
    have hi8 : i < 800 := by omega
    simp only [hi8, if_true] at h3
    by_cases hj8 : j < 800
    · rw [if_pos hj8] at h3
      have := r8 i j (hl i hi8) (hl j hj8) h3
      omega
    · rw [if_neg hj8] at h3
      exact absurd h3 (hn i (hl i hi8))
theorem pr_PD_mono {B B2 : Int} {Sc Sr : am_S} {m : Int} {p : Nat} (h : pr_PD B Sc Sr m p) (hb : B ≤ B2) : pr_PD B2 Sc Sr m p := by
  obtain ⟨h1, h2, h3, h4, h5, h6, h7⟩ := h
  exact ⟨h1, h2, h3, h4, h5, by omega, h7⟩
theorem pr_RB_mono {B B2 : Int} {Sc Sr : am_S} {KS : Int → List Nat} (R : pr_RB B Sc Sr KS) (hb : B ≤ B2) (h2 : B2 < 2000000000) : pr_RB B2 Sc Sr KS := by
  obtain ⟨r1, r2, r3, r4, r5, r6, r7, r8, r9, r10⟩ := R
  exact ⟨r1, r2, r3, fun p hp => pr_PD_mono (r4 p hp) hb, r5, r6, r7, r8, ⟨r9.1, by omega, h2⟩, r10⟩
theorem pr_W_congr {S S' : am_S} (h84 : S'.2 84 = S.2 84) (h85 : S'.2 85 = S.2 85) : pr_W S' = pr_W S := by
  unfold pr_W; rw [h84, h85]
/-- cells of a PROMISE change, the table and the chains don't -/
theorem pr_RB_of {B : Int} {Sc Sr Sc' Sr' : am_S} {KS : Int → List Nat} (R : pr_RB B Sc Sr KS)
    (c75 : Sc'.1 75 = Sc.1 75) (c76 : Sc'.1 76 = Sc.1 76) (c77 : Sc'.1 77 = Sc.1 77) (c78 : Sc'.1 78 = Sc.1 78)
    (d47 : Sc'.2 47 = Sc.2 47) (d48 : Sc'.2 48 = Sc.2 48) (d49 : Sc'.2 49 = Sc.2 49) (d50 : Sc'.2 50 = Sc.2 50)
    (f1 : Sr'.1 4745 = Sr.1 4745) (f2 : Sr'.1 4755 = Sr.1 4755)
    (e84 : Sr'.2 84 = Sr.2 84) (e85 : Sr'.2 85 = Sr.2 85) (e86 : Sr'.2 86 = Sr.2 86) (e87 : Sr'.2 87 = Sr.2 87) (e88 : Sr'.2 88 = Sr.2 88) (e89 : Sr'.2 89 = Sr.2 89)
    (hPD : ∀ p : Nat, (p : Int) < Sr.1 4745 → pr_PD B Sc Sr (Sr.1 4745) p → pr_PD B Sc' Sr' (Sr.1 4745) p)
    (hJ : ∀ k, pr_live Sr k → (∃ p : Nat, (p : Int) < Sr.1 4745 ∧ pr_JK Sc Sr (Sr.1 4745) k p) → pr_JO Sc Sr (Sr.1 4745) k → (∃ p : Nat, (p : Int) < Sr.1 4745 ∧ pr_JK Sc' Sr' (Sr.1 4745) k p) ∧ pr_JO Sc' Sr' (Sr.1 4745) k)
    (h10 : ∀ p : Nat, Sr.1 4745 ≤ (p : Int) → p < 100 → Sc'.2 71 p = Sc.2 71 p) : pr_RB B Sc' Sr' KS := by
  obtain ⟨r1, r2, r3, r4, r5, r6, r7, r8, r9, r10⟩ := R
  have hjb : pr_jb Sr' = pr_jb Sr := funext fun k => pr_jb_congr (by rw [e84]) (by rw [e87]) (by rw [e88]) (by rw [e89])
  have hcd : pr_cd Sr' = pr_cd Sr := funext fun k => pr_cd_congr (by rw [e84]) (by rw [e87]) (by rw [e88]) (by rw [e89])
  have hlv : ∀ k, pr_live Sr' k ↔ pr_live Sr k := fun k => by unfold pr_live; rw [e84]
  refine ⟨by rw [c75, f1]; exact r1, by rw [f1]; exact r2, pr_TB_same r3 e84 e85 e86 (by rw [f2]; exact Int.le_refl _), ?_, ?_, ?_, ?_, ?_, ?_, ?_⟩
  · rw [f1]; exact fun p hp => hPD p hp (r4 p hp)
  · rw [c76, c77, c78, d50, hjb]; exact r5
  · rw [f1, d47, d48, d49, d50, hjb]; exact r6
  · rw [f1]
    intro k hk
    have hk' := (hlv k).mp hk
    exact hJ k hk' (r7 k hk').1 (r7 k hk').2
  · rw [hcd]
    exact fun k k' hk hk' => r8 k k' ((hlv k).mp hk) ((hlv k').mp hk')
  · rw [f2, pr_W_congr e84 e85]; exact r9
  · rw [f1]
    intro p hp hp2
    rw [h10 p hp hp2]; exact r10 p hp hp2
