/-! something more that waits: a JOB, or a REACTION -/
theorem pr_app_at (KS : Int → List Nat) (q : Int) (k : Nat) : pr_app KS q k q = KS q ++ [k] := if_pos rfl
theorem pr_app_ne (KS : Int → List Nat) {q q' : Int} (k : Nat) (h : q' ≠ q) : pr_app KS q k q' = KS q' := if_neg h
theorem pr_addQ {B : Int} {Sc Sr : am_S} {KS : Int → List Nat} (R : pr_RB B Sc Sr KS) {k : Nat} (hk : k < 800) (h0 : Sr.2 84 k = 0) {Sc' : am_S} {w q a b c wi s n : Int} (hw : w ≠ 0) {j p : Nat} (hb : B + 1 < 2000000000)
    (hout : pr_out [76, 77, 78] [46, 50, 51] Sc Sc') (hj : pr_jb (pr_car (pr_ent Sr k w q a b c) k wi s n) k = j)
    (hCH : pr_CH (Sc'.2 50) (Sc'.1 76) (Sc'.1 77) (Sc'.1 78) ((KS (-1)).map (pr_jb Sr) ++ [j])) (h50 : ∀ x, x ∉ (KS (-1)).map (pr_jb Sr) → Sc'.2 50 x = Sc.2 50 x)
    (h46 : ∀ k' (p' : Nat), pr_live Sr k' → Sr.2 84 k' = 5 → Sr.2 87 k' = (p' : Int) → Sc'.2 46 p' = Sc.2 46 p') (h51 : ∀ x, x ≠ j → Sc'.2 51 x = Sc.2 51 x)
    (hp : (p : Int) < Sr.1 4745) (hJK : pr_JK Sc' (pr_car (pr_ent Sr k w q a b c) k wi s n) (Sr.1 4745) k p) (hJO : pr_JO Sc' (pr_car (pr_ent Sr k w q a b c) k wi s n) (Sr.1 4745) k)
    (hcdn : ∀ k', pr_live Sr k' → pr_cd Sr k' ≠ pr_cd (pr_car (pr_ent Sr k w q a b c) k wi s n) k) :
    pr_RB (B + 1) Sc' (pr_car (pr_ent Sr k w q a b c) k wi s n) (pr_app KS (-1) k) := by
  have R0 := R
  obtain ⟨r1, r2, r3, r4, r5, r6, r7, r8, r9, r10⟩ := R
  have hW0 : (0 : Int) ≤ (pr_W Sr : Int) := by omega
  obtain ⟨c1, hc1, hc2⟩ : ∃ c1, c1 = am_w32 (Sr.1 4755 + 1) ∧ c1 = Sr.1 4755 + 1 := ⟨_, rfl, pr_w (by omega) (by omega)⟩
  obtain ⟨S', hS'⟩ : ∃ S', S' = pr_car (pr_ent Sr k w q a b c) k wi s n := ⟨_, rfl⟩
  rw [← hS'] at hj hJK hJO hcdn ⊢
  have e84 : S'.2 84 = am_up (Sr.2 84) k w := by rw [hS']; rfl
  have e85 : S'.2 85 = am_up (am_up (Sr.2 85) k q) k (-1) := by rw [hS']; rfl
  have e86 : S'.2 86 = am_up (Sr.2 86) k c1 := by rw [hS', hc1]; rfl
  have e87 : S'.2 87 = am_up (Sr.2 87) k a := by rw [hS']; rfl
  have e88 : S'.2 88 = am_up (Sr.2 88) k b := by rw [hS']; rfl
  have e89 : S'.2 89 = am_up (Sr.2 89) k c := by rw [hS']; rfl
  have e90 : S'.2 90 = am_up (Sr.2 90) k wi := by rw [hS']; rfl
  have e91 : S'.2 91 = am_up (Sr.2 91) k s := by rw [hS']; rfl
  have e92 : S'.2 92 = am_up (Sr.2 92) k n := by rw [hS']; rfl
  have e75 : S'.2 75 = Sr.2 75 := by rw [hS']; rfl
  have e76 : S'.2 76 = Sr.2 76 := by rw [hS']; rfl
  have e77 : S'.2 77 = Sr.2 77 := by rw [hS']; rfl
  have e78 : S'.2 78 = Sr.2 78 := by rw [hS']; rfl
  have e81 : S'.2 81 = Sr.2 81 := by rw [hS']; rfl
  have e82 : S'.2 82 = Sr.2 82 := by rw [hS']; rfl
  have e83 : S'.2 83 = Sr.2 83 := by rw [hS']; rfl
  have em : S'.1 4745 = Sr.1 4745 := by rw [hS']; rfl
  have ec : S'.1 4755 = c1 := by rw [hS', hc1]; rfl
  have hne : ∀ k', pr_live Sr k' → k' ≠ k := fun k' h e => by subst e; exact h.2 h0
  have T' : pr_TB S' (pr_app KS (-1) k) := pr_TB_add r3 hk h0 (fun i hi => by rw [e84, am_up_ne _ _ hi]) (by rw [e84, am_up_self]; exact hw) (fun i hi => by rw [e85, am_up_ne _ _ hi, am_up_ne _ _ hi]) (by rw [e85, am_up_self]) (fun i hi => by rw [e86, am_up_ne _ _ hi]) (by rw [e86, am_up_self, ec]) (by rw [ec]; omega)
  have hjbk : ∀ k', k' ≠ k → pr_jb S' k' = pr_jb Sr k' := fun k' h => pr_jb_congr (by rw [e84, am_up_ne _ _ h]) (by rw [e87, am_up_ne _ _ h]) (by rw [e88, am_up_ne _ _ h]) (by rw [e89, am_up_ne _ _ h])
  have hcdk : ∀ k', k' ≠ k → pr_cd S' k' = pr_cd Sr k' := fun k' h => pr_cd_congr (by rw [e84, am_up_ne _ _ h]) (by rw [e87, am_up_ne _ _ h]) (by rw [e88, am_up_ne _ _ h]) (by rw [e89, am_up_ne _ _ h])
  have hjn : ∀ k', pr_live Sr k' → pr_jb Sr k' ≠ j := fun k' h e => by
    obtain ⟨⟨p', hp', j'⟩, -⟩ := r7 k' h
    exact hcdn k' h (pr_jb_cd j' hJK (e.trans hj.symm))
  have hmap : ∀ q', (KS q').map (pr_jb S') = (KS q').map (pr_jb Sr) := fun q' => List.map_congr_left (fun x hx => hjbk x (hne x (pr_RB_live R0 hx).1))
  refine ⟨?_, by rw [em]; exact r2, T', ?_, ?_, ?_, ?_, ?_, ?_, ?_⟩
  · rw [hout.1 75 (by decide), em]; exact r1
  · rw [em]
    intro q' hq'
    have h := pr_PD_mono (r4 q' hq') (show B ≤ B + 1 by omega)
    unfold pr_PD at h ⊢
    rw [hout.2 41 (by decide), hout.2 42 (by decide), hout.2 43 (by decide), hout.2 44 (by decide), hout.2 45 (by decide), e75, e76, e77, e78, e81, e82]
    exact h
  · rw [pr_app_at, List.map_append, hmap]
    show pr_CH _ _ _ _ (_ ++ [pr_jb S' k])
    rw [hj]; exact hCH
  · rw [em]
    intro q' hq'
    have hq1 : (q' : Int) ≠ -1 := by omega
    rw [pr_app_ne _ _ hq1, hmap, hout.2 47 (by decide), hout.2 48 (by decide), hout.2 49 (by decide)]
    exact pr_CH_congr (fun x hx => h50 x (fun hm => pr_RB_disj R0 hq1 x hx hm)) (r6 q' hq')
  · rw [em]
    intro k' hk'
    by_cases e : k' = k
    · subst e; exact ⟨⟨p, hp, hJK⟩, hJO⟩
    · have hl : pr_live Sr k' := ⟨hk'.1, by have := hk'.2; rw [e84, am_up_ne _ _ e] at this; exact this⟩
      obtain ⟨⟨p', hp', j'⟩, hO⟩ := r7 k' hl
      have x84 : S'.2 84 k' = Sr.2 84 k' := by rw [e84, am_up_ne _ _ e]
      have x85 : S'.2 85 k' = Sr.2 85 k' := by rw [e85, am_up_ne _ _ e, am_up_ne _ _ e]
      have x87 : S'.2 87 k' = Sr.2 87 k' := by rw [e87, am_up_ne _ _ e]
      have x88 : S'.2 88 k' = Sr.2 88 k' := by rw [e88, am_up_ne _ _ e]
      have x89 : S'.2 89 k' = Sr.2 89 k' := by rw [e89, am_up_ne _ _ e]
      have x90 : S'.2 90 k' = Sr.2 90 k' := by rw [e90, am_up_ne _ _ e]
      have x91 : S'.2 91 k' = Sr.2 91 k' := by rw [e91, am_up_ne _ _ e]
      have x92 : S'.2 92 k' = Sr.2 92 k' := by rw [e92, am_up_ne _ _ e]
      refine ⟨⟨p', hp', pr_JK_pd j' (Int.le_refl _) x84 x87 x88 x89 (fun _ h => ⟨by rw [x85]; exact h, x90, x91, x92⟩) (fun _ => by rw [hout.2 72 (by decide), hout.2 73 (by decide)]; exact ⟨rfl, rfl⟩) (fun h => ?_) (fun _ => by rw [e81]) (fun _ => by rw [e78]) (fun _ => by rw [hout.2 71 (by decide)]) (fun _ => by rw [e75])⟩, ?_⟩
      · refine h46 k' p' hl h ?_
        rcases j' with ⟨a1, a2, -⟩ | ⟨a1, a2, -⟩ | ⟨a1, a2, -⟩ | ⟨a1, a2, -⟩ | ⟨a1, a2, -⟩ <;> first | exact a2 | omega
      · unfold pr_JO at hO ⊢
        rw [hjbk k' e, x84, x85, x90, x91, x92, e75, e76, e77, h51 _ (hjn k' hl)]
        exact hO
  · intro k1 k2 h1 h2 he
    by_cases e1 : k1 = k <;> by_cases e2 : k2 = k
    · rw [e1, e2]
    · subst e1
      have hl : pr_live Sr k2 := ⟨h2.1, by have := h2.2; rw [e84, am_up_ne _ _ e2] at this; exact this⟩
      exact absurd (by rw [← hcdk k2 e2]; exact he.symm) (hcdn k2 hl)
    · subst e2
      have hl : pr_live Sr k1 := ⟨h1.1, by have := h1.2; rw [e84, am_up_ne _ _ e1] at this; exact this⟩
      exact absurd (by rw [← hcdk k1 e1]; exact he) (hcdn k1 hl)
    · have hl1 : pr_live Sr k1 := ⟨h1.1, by have := h1.2; rw [e84, am_up_ne _ _ e1] at this; exact this⟩
      have hl2 : pr_live Sr k2 := ⟨h2.1, by have := h2.2; rw [e84, am_up_ne _ _ e2] at this; exact this⟩
      rw [hcdk k1 e1, hcdk k2 e2] at he
      exact r8 k1 k2 hl1 hl2 he
  · have hch := pr_cnt_change (P := fun i => decide (Sr.2 84 i ≠ 0) && decide (0 ≤ Sr.2 85 i)) (Q := fun i => decide (S'.2 84 i ≠ 0) && decide (0 ≤ S'.2 85 i)) (k := k) 800 hk (fun i hi => by
      show (decide (Sr.2 84 i ≠ 0) && decide (0 ≤ Sr.2 85 i)) = (decide (S'.2 84 i ≠ 0) && decide (0 ≤ S'.2 85 i))
      rw [e84, e85, am_up_ne _ _ hi, am_up_ne _ _ hi, am_up_ne _ _ hi])
    have hQ : (decide (S'.2 84 k ≠ 0) && decide (0 ≤ S'.2 85 k)) = false := by rw [e85, am_up_self]; simp
    have hP : (decide (Sr.2 84 k ≠ 0) && decide (0 ≤ Sr.2 85 k)) = false := by rw [h0]; simp
    have hW : pr_W S' = pr_W Sr := by
      simp only [hQ, hP] at hch
      unfold pr_W
      simpa using hch.symm
    rw [ec, hW]; omega
  · rw [em, hout.2 71 (by decide)]; exact r10
theorem pr_addP {B : Int} {Sc Sr : am_S} {KS : Int → List Nat} (R : pr_RB B Sc Sr KS) {k : Nat} (hk : k < 800) (h0 : Sr.2 84 k = 0) {Sc' : am_S} {w a b c : Int} (hw : w ≠ 0) {j p q : Nat} (hb : B + 2 < 2000000000) (hq : (q : Int) < Sr.1 4745)
    (hout : pr_out [] [47, 48, 49, 50, 51] Sc Sc') (hj : pr_jb (pr_ent Sr k w (q : Int) a b c) k = j)
    (hCH : pr_CH (Sc'.2 50) (Sc'.2 47 q) (Sc'.2 48 q) (Sc'.2 49 q) ((KS (q : Int)).map (pr_jb Sr) ++ [j])) (h50 : ∀ x, x ∉ (KS (q : Int)).map (pr_jb Sr) → Sc'.2 50 x = Sc.2 50 x)
    (h47 : ∀ i, i ≠ q → Sc'.2 47 i = Sc.2 47 i ∧ Sc'.2 48 i = Sc.2 48 i ∧ Sc'.2 49 i = Sc.2 49 i) (h51 : ∀ x, x ≠ j → Sc'.2 51 x = Sc.2 51 x)
    (hp : (p : Int) < Sr.1 4745) (hJK : pr_JK Sc' (pr_ent Sr k w (q : Int) a b c) (Sr.1 4745) k p) (hJO : pr_JO Sc' (pr_ent Sr k w (q : Int) a b c) (Sr.1 4745) k)
    (hcdn : ∀ k', pr_live Sr k' → pr_cd Sr k' ≠ pr_cd (pr_ent Sr k w (q : Int) a b c) k) :
    pr_RB (B + 2) Sc' (pr_ent Sr k w (q : Int) a b c) (pr_app KS (q : Int) k) := by
  have R0 := R
  obtain ⟨r1, r2, r3, r4, r5, r6, r7, r8, r9, r10⟩ := R
  obtain ⟨c1, hc1, hc2⟩ : ∃ c1, c1 = am_w32 (Sr.1 4755 + 1) ∧ c1 = Sr.1 4755 + 1 := ⟨_, rfl, pr_w (by omega) (by omega)⟩
  obtain ⟨S', hS'⟩ : ∃ S', S' = pr_ent Sr k w (q : Int) a b c := ⟨_, rfl⟩
  rw [← hS'] at hj hJK hJO hcdn ⊢
  have e84 : S'.2 84 = am_up (Sr.2 84) k w := by rw [hS']; rfl
  have e85 : S'.2 85 = am_up (Sr.2 85) k (q : Int) := by rw [hS']; rfl
  have e86 : S'.2 86 = am_up (Sr.2 86) k c1 := by rw [hS', hc1]; rfl
  have e87 : S'.2 87 = am_up (Sr.2 87) k a := by rw [hS']; rfl
  have e88 : S'.2 88 = am_up (Sr.2 88) k b := by rw [hS']; rfl
  have e89 : S'.2 89 = am_up (Sr.2 89) k c := by rw [hS']; rfl
  have e90 : S'.2 90 = Sr.2 90 := by rw [hS']; rfl
  have e91 : S'.2 91 = Sr.2 91 := by rw [hS']; rfl
  have e92 : S'.2 92 = Sr.2 92 := by rw [hS']; rfl
  have e75 : S'.2 75 = Sr.2 75 := by rw [hS']; rfl
  have e76 : S'.2 76 = Sr.2 76 := by rw [hS']; rfl
  have e77 : S'.2 77 = Sr.2 77 := by rw [hS']; rfl
  have e78 : S'.2 78 = Sr.2 78 := by rw [hS']; rfl
  have e81 : S'.2 81 = Sr.2 81 := by rw [hS']; rfl
  have e82 : S'.2 82 = Sr.2 82 := by rw [hS']; rfl
  have e83 : S'.2 83 = Sr.2 83 := by rw [hS']; rfl
  have em : S'.1 4745 = Sr.1 4745 := by rw [hS']; rfl
  have ec : S'.1 4755 = c1 := by rw [hS', hc1]; rfl
  have hne : ∀ k', pr_live Sr k' → k' ≠ k := fun k' h e => by subst e; exact h.2 h0
  have T' : pr_TB S' (pr_app KS (q : Int) k) := pr_TB_add r3 hk h0 (fun i hi => by rw [e84, am_up_ne _ _ hi]) (by rw [e84, am_up_self]; exact hw) (fun i hi => by rw [e85, am_up_ne _ _ hi]) (by rw [e85, am_up_self]) (fun i hi => by rw [e86, am_up_ne _ _ hi]) (by rw [e86, am_up_self, ec]) (by rw [ec]; omega)
  have hjbk : ∀ k', k' ≠ k → pr_jb S' k' = pr_jb Sr k' := fun k' h => pr_jb_congr (by rw [e84, am_up_ne _ _ h]) (by rw [e87, am_up_ne _ _ h]) (by rw [e88, am_up_ne _ _ h]) (by rw [e89, am_up_ne _ _ h])
  have hcdk : ∀ k', k' ≠ k → pr_cd S' k' = pr_cd Sr k' := fun k' h => pr_cd_congr (by rw [e84, am_up_ne _ _ h]) (by rw [e87, am_up_ne _ _ h]) (by rw [e88, am_up_ne _ _ h]) (by rw [e89, am_up_ne _ _ h])
  have hjn : ∀ k', pr_live Sr k' → pr_jb Sr k' ≠ j := fun k' h e => by
    obtain ⟨⟨p', hp', j'⟩, -⟩ := r7 k' h
    exact hcdn k' h (pr_jb_cd j' hJK (e.trans hj.symm))
  have hmap : ∀ q', (KS q').map (pr_jb S') = (KS q').map (pr_jb Sr) := fun q' => List.map_congr_left (fun x hx => hjbk x (hne x (pr_RB_live R0 hx).1))
  have hqm : (-1 : Int) ≠ (q : Int) := by omega
  refine ⟨?_, by rw [em]; exact r2, T', ?_, ?_, ?_, ?_, ?_, ?_, ?_⟩
  · rw [hout.1 75 (by decide), em]; exact r1
  · rw [em]
    intro q' hq'
    have h := pr_PD_mono (r4 q' hq') (show B ≤ B + 2 by omega)
    unfold pr_PD at h ⊢
    rw [hout.2 41 (by decide), hout.2 42 (by decide), hout.2 43 (by decide), hout.2 44 (by decide), hout.2 45 (by decide), e75, e76, e77, e78, e81, e82]
    exact h
  · rw [pr_app_ne _ _ hqm, hmap, hout.1 76 (by decide), hout.1 77 (by decide), hout.1 78 (by decide)]
    exact pr_CH_congr (fun x hx => h50 x (fun hm => pr_RB_disj R0 hqm x hx hm)) r5
  · rw [em]
    intro q' hq'
    by_cases e : q' = q
    · subst e
      rw [pr_app_at, List.map_append, hmap]
      show pr_CH _ _ _ _ (_ ++ [pr_jb S' k])
      rw [hj]; exact hCH
    · have hq1 : (q' : Int) ≠ (q : Int) := by omega
      obtain ⟨y1, y2, y3⟩ := h47 q' e
      rw [pr_app_ne _ _ hq1, hmap, y1, y2, y3]
      exact pr_CH_congr (fun x hx => h50 x (fun hm => pr_RB_disj R0 hq1 x hx hm)) (r6 q' hq')
  · rw [em]
    intro k' hk'
    by_cases e : k' = k
    · subst e; exact ⟨⟨p, hp, hJK⟩, hJO⟩
    · have hl : pr_live Sr k' := ⟨hk'.1, by have := hk'.2; rw [e84, am_up_ne _ _ e] at this; exact this⟩
      obtain ⟨⟨p', hp', j'⟩, hO⟩ := r7 k' hl
      have x84 : S'.2 84 k' = Sr.2 84 k' := by rw [e84, am_up_ne _ _ e]
      have x85 : S'.2 85 k' = Sr.2 85 k' := by rw [e85, am_up_ne _ _ e]
      have x87 : S'.2 87 k' = Sr.2 87 k' := by rw [e87, am_up_ne _ _ e]
      have x88 : S'.2 88 k' = Sr.2 88 k' := by rw [e88, am_up_ne _ _ e]
      have x89 : S'.2 89 k' = Sr.2 89 k' := by rw [e89, am_up_ne _ _ e]
      refine ⟨⟨p', hp', pr_JK_pd j' (Int.le_refl _) x84 x87 x88 x89 (fun _ h => ⟨by rw [x85]; exact h, by rw [e90], by rw [e91], by rw [e92]⟩) (fun _ => by rw [hout.2 72 (by decide), hout.2 73 (by decide)]; exact ⟨rfl, rfl⟩) (fun _ => by rw [hout.2 46 (by decide)]) (fun _ => by rw [e81]) (fun _ => by rw [e78]) (fun _ => by rw [hout.2 71 (by decide)]) (fun _ => by rw [e75])⟩, ?_⟩
      unfold pr_JO at hO ⊢
      rw [hjbk k' e, x84, x85, e90, e91, e92, e75, e76, e77, h51 _ (hjn k' hl)]
      exact hO
  · intro k1 k2 h1 h2 he
    by_cases e1 : k1 = k <;> by_cases e2 : k2 = k
    · rw [e1, e2]
    · subst e1
      have hl : pr_live Sr k2 := ⟨h2.1, by have := h2.2; rw [e84, am_up_ne _ _ e2] at this; exact this⟩
      exact absurd (by rw [← hcdk k2 e2]; exact he.symm) (hcdn k2 hl)
    · subst e2
      have hl : pr_live Sr k1 := ⟨h1.1, by have := h1.2; rw [e84, am_up_ne _ _ e1] at this; exact this⟩
      exact absurd (by rw [← hcdk k1 e1]; exact he) (hcdn k1 hl)
    · have hl1 : pr_live Sr k1 := ⟨h1.1, by have := h1.2; rw [e84, am_up_ne _ _ e1] at this; exact this⟩
      have hl2 : pr_live Sr k2 := ⟨h2.1, by have := h2.2; rw [e84, am_up_ne _ _ e2] at this; exact this⟩
      rw [hcdk k1 e1, hcdk k2 e2] at he
      exact r8 k1 k2 hl1 hl2 he
  · have hch := pr_cnt_change (P := fun i => decide (Sr.2 84 i ≠ 0) && decide (0 ≤ Sr.2 85 i)) (Q := fun i => decide (S'.2 84 i ≠ 0) && decide (0 ≤ S'.2 85 i)) (k := k) 800 hk (fun i hi => by
      show (decide (Sr.2 84 i ≠ 0) && decide (0 ≤ Sr.2 85 i)) = (decide (S'.2 84 i ≠ 0) && decide (0 ≤ S'.2 85 i))
      rw [e84, e85, am_up_ne _ _ hi, am_up_ne _ _ hi])
    have hP : (decide (Sr.2 84 k ≠ 0) && decide (0 ≤ Sr.2 85 k)) = false := by rw [h0]; simp
    have hW : pr_W S' ≤ pr_W Sr + 1 := by
      simp only [hP] at hch
      unfold pr_W
      simp at hch ⊢
      split at hch <;> omega
    rw [ec]; omega
  · rw [em, hout.2 71 (by decide)]; exact r10
/-- the first JOB is taken -/
theorem pr_take {B : Int} {Sc Sr : am_S} {KS : Int → List Nat} (R : pr_RB B Sc Sr KS) {k : Nat} {l : List Nat} (hl : KS (-1) = k :: l) :
    ∃ Sc', sf_X3_takeJob Sc = some ((pr_jb Sr k : Int), Sc') ∧ pr_RB B Sc' (am_sA Sr 84 k 0) (fun q => if q = -1 then l else KS q) ∧ pr_out [76, 77] [] Sc Sc' := by
  have R0 := R
  obtain ⟨r1, r2, r3, r4, r5, r6, r7, r8, r9, r10⟩ := R
  have LQ := pr_RB_list R0 (-1)
  rw [hl] at LQ r5
  have h8 : l.length + 1 ≤ 800 := by have := LQ.2.2; simpa using this
  have hj9 : pr_jb Sr k < 900 := LQ.2.1 _ (by simp)
  have hkp := pr_RB_live R0 (q := -1) (k := k) (by rw [hl]; exact List.mem_cons_self)
  have c76 : Sc.1 76 = (l.length : Int) + 1 := by rw [r5.1]; simp
  have c77 : Sc.1 77 = (pr_jb Sr k : Int) := r5.2.1 _ rfl
  obtain ⟨V, hV⟩ : ∃ V, V = am_w32 (Sc.2 50 (pr_jb Sr k)) := ⟨_, rfl⟩
  obtain ⟨C, hC, hC2⟩ : ∃ C, C = am_w32 (Sc.1 76 - 1) ∧ C = (l.length : Int) := ⟨_, rfl, by rw [c76, pr_w (by omega) (by omega)]; omega⟩
  have hnd := pr_TB_nodup r3 (-1)
  rw [hl] at hnd
  refine ⟨am_sI (am_sI Sc 77 V) 76 C, ?_, ⟨r1, r2, ?_, ?_, ?_, ?_, ?_, ?_, ?_, r10⟩, ?_⟩
  · unfold sf_X3_takeJob
    rw [c77, pr_atn hj9, pr_b2, ← hV]
    have e : (am_sI Sc 77 V).1 76 = Sc.1 76 := rfl
    rw [pr_let, pr_let, e, ← hC]
  · exact pr_TB_del r3 hl (fun i hi => am_up_ne _ _ hi) (am_up_self _ _ _) rfl rfl rfl
  · exact r4
  · show pr_CH (Sc.2 50) C V (Sc.1 78) (l.map (pr_jb (am_sA Sr 84 k 0)))
    have hmap : l.map (pr_jb (am_sA Sr 84 k 0)) = l.map (pr_jb Sr) := List.map_congr_left (fun x hx => pr_jb_congr (am_up_ne _ _ (fun e => by subst e; exact (List.nodup_cons.mp hnd).1 hx)) rfl rfl rfl)
    rw [hmap]
    refine ⟨by rw [hC2, List.length_map], fun b hb => ?_, fun b hb => ?_, r5.2.2.2.2⟩
    · have h1 := r5.2.2.2.1 b hb
      have hb9 : b < 900 := LQ.2.1 b (by rw [List.map_cons]; exact List.mem_cons_of_mem _ (List.mem_of_mem_head? hb))
      rw [hV, h1, pr_w (by omega) (by omega)]
    · refine r5.2.2.1 b ?_
      rw [List.map_cons, List.getLast?_cons, hb]; rfl
  · intro p hp
    have hq1 : (p : Int) ≠ -1 := by omega
    show pr_CH (Sc.2 50) _ _ _ (List.map (pr_jb (am_sA Sr 84 k 0)) (if (p : Int) = -1 then l else KS (p : Int)))
    rw [if_neg hq1]
    have hmap : (KS (p : Int)).map (pr_jb (am_sA Sr 84 k 0)) = (KS (p : Int)).map (pr_jb Sr) := List.map_congr_left (fun x hx => pr_jb_congr (am_up_ne _ _ (fun e => by
      subst e
      have := (pr_RB_live R0 hx).2
      rw [hkp.2] at this
      omega)) rfl rfl rfl)
    rw [hmap]; exact r6 p hp
  · intro k' hk'
    have hne : k' ≠ k := fun e => by subst e; exact hk'.2 (am_up_self _ _ _)
    have x84 : (am_sA Sr 84 k 0).2 84 k' = Sr.2 84 k' := am_up_ne _ _ hne
    have hl' : pr_live Sr k' := ⟨hk'.1, by rw [← x84]; exact hk'.2⟩
    obtain ⟨⟨p, hp, j⟩, hO⟩ := r7 k' hl'
    refine ⟨⟨p, hp, pr_JK_pd j (Int.le_refl _) x84 rfl rfl rfl (fun _ h => ⟨h, rfl, rfl, rfl⟩) (fun _ => ⟨rfl, rfl⟩) (fun _ => rfl) (fun _ => rfl) (fun _ => rfl) (fun _ => rfl) (fun _ => rfl)⟩, ?_⟩
    have hjb : pr_jb (am_sA Sr 84 k 0) k' = pr_jb Sr k' := pr_jb_congr x84 rfl rfl rfl
    unfold pr_JO at hO ⊢
    rw [hjb, x84]
    exact hO
  · intro k1 k2 h1 h2 he
    have n1 : k1 ≠ k := fun e => by subst e; exact h1.2 (am_up_self _ _ _)
    have n2 : k2 ≠ k := fun e => by subst e; exact h2.2 (am_up_self _ _ _)
    have x1 : (am_sA Sr 84 k 0).2 84 k1 = Sr.2 84 k1 := am_up_ne _ _ n1
    have x2 : (am_sA Sr 84 k 0).2 84 k2 = Sr.2 84 k2 := am_up_ne _ _ n2
    rw [pr_cd_congr x1 rfl rfl rfl, pr_cd_congr x2 rfl rfl rfl] at he
    exact r8 k1 k2 ⟨h1.1, by rw [← x1]; exact h1.2⟩ ⟨h2.1, by rw [← x2]; exact h2.2⟩ he
  · have hch := pr_cnt_change (P := fun i => decide (Sr.2 84 i ≠ 0) && decide (0 ≤ Sr.2 85 i)) (Q := fun i => decide ((am_sA Sr 84 k 0).2 84 i ≠ 0) && decide (0 ≤ (am_sA Sr 84 k 0).2 85 i)) (k := k) 800 hkp.1.1 (fun i hi => by
      show (decide (Sr.2 84 i ≠ 0) && decide (0 ≤ Sr.2 85 i)) = (decide ((am_sA Sr 84 k 0).2 84 i ≠ 0) && decide (0 ≤ Sr.2 85 i))
      rw [show (am_sA Sr 84 k 0).2 84 i = Sr.2 84 i from am_up_ne _ _ hi])
    have hQ : (decide ((am_sA Sr 84 k 0).2 84 k ≠ 0) && decide (0 ≤ (am_sA Sr 84 k 0).2 85 k)) = false := by rw [show (am_sA Sr 84 k 0).2 84 k = 0 from am_up_self _ _ _]; simp
    have hP : (decide (Sr.2 84 k ≠ 0) && decide (0 ≤ Sr.2 85 k)) = false := by rw [hkp.2]; simp
    have hW : pr_W (am_sA Sr 84 k 0) = pr_W Sr := by
      simp only [hQ, hP] at hch
      unfold pr_W
      simpa using hch.symm
    rw [hW]; exact r9
  · refine pr_out_sI (pr_out_sI (pr_out_refl Sc) ?_) ?_ <;> decide
