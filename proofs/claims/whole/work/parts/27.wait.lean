/-! TO WAIT for a PROMISE -/
def pr_jv (w a b c : Int) : Nat := (if w = 1 then c * 9 + 2 else if w = 2 then a * 9 + 1 else if w = 3 then a * 9 + (4 + b) else if w = 4 then a * 9 + 3 else a * 9).toNat
def pr_cv (w a b c : Int) : Nat := (if w = 1 then c * 8 + 1 else if w = 2 then a * 8 else if w = 3 then a * 8 + (3 + b) else if w = 4 then a * 8 + 2 else a * 8).toNat
theorem pr_jb_v (S : am_S) (k : Nat) : pr_jb S k = pr_jv (S.2 84 k) (S.2 87 k) (S.2 88 k) (S.2 89 k) := rfl
theorem pr_cd_v (S : am_S) (k : Nat) : pr_cd S k = pr_cv (S.2 84 k) (S.2 87 k) (S.2 88 k) (S.2 89 k) := rfl
theorem pr_out_45 {LI LA : List Nat} {S S' : am_S} {q : Nat} {v : Int} (h : pr_out LI (45 :: LA) S S') (e : S'.2 45 = am_up (S.2 45) q v) : pr_out LI LA (am_sA S 45 q v) S' := by
  refine ⟨h.1, fun a ha => ?_⟩
  by_cases h45 : a = 45
  · subst h45; rw [e]; rfl
  · rw [pr_AA S q v h45]
    exact h.2 a (fun hm => by rcases List.mem_cons.mp hm with h | h; exact h45 h; exact ha h)
/-- what is new -/
def pr_JN (Sc Sr : am_S) (w a b c : Int) (p : Nat) : Prop :=
  (w = 1 ∧ c = (p : Int) ∧ Sc.2 72 p = a ∧ Sc.2 73 p = b ∧ -1 ≤ a ∧ a < 10 ∧ -1 ≤ b ∧ b < 10) ∨ (w = 2 ∧ a = (p : Int) ∧ Sr.2 81 p = 0 ∧ Sr.2 78 p = b ∧ 1 ≤ b)
  ∨ (w = 3 ∧ a = (p : Int) ∧ 0 ≤ b ∧ b < 5) ∨ (w = 4 ∧ a = (p : Int) ∧ Sc.2 71 p = 1)
theorem pr_JN_JK {Sc Sr Sc' Sr' : am_S} {w a b c m : Int} {k p : Nat} (h : pr_JN Sc Sr w a b c p) (h84 : Sr'.2 84 k = w) (h87 : Sr'.2 87 k = a) (h88 : Sr'.2 88 k = b) (h89 : Sr'.2 89 k = c) (h72 : Sc'.2 72 = Sc.2 72) (h73 : Sc'.2 73 = Sc.2 73) (h81 : Sr'.2 81 = Sr.2 81) (h78 : Sr'.2 78 = Sr.2 78) (h71 : Sc'.2 71 = Sc.2 71) : pr_JK Sc' Sr' m k p := by
  unfold pr_JK
  rw [h84, h87, h88, h89, h72, h73, h81, h78, h71]
  rcases h with h | h | h | h
  · exact Or.inl h
  · exact Or.inr (Or.inl h)
  · exact Or.inr (Or.inr (Or.inl h))
  · exact Or.inr (Or.inr (Or.inr (Or.inl h)))
theorem pr_waitFor {B : Int} {Sc Sr : am_S} {KS : Int → List Nat} (R : pr_RB B Sc Sr KS) (hB : B + 2 < 2000000000) {q p j : Nat} (hq : (q : Int) < Sr.1 4745) (hp : (p : Int) < Sr.1 4745) {w a b c : Int} (hN : pr_JN Sc Sr w a b c p) (hj : pr_jv w a b c = j)
    (hcdn : ∀ k', pr_live Sr k' → pr_cd Sr k' ≠ pr_cv w a b c) :
    ∃ Sc' Sr' KS', sf_X3_waitFor (q : Int) (j : Int) Sc = some Sc' ∧ sf_X10_waitFor (q : Int) w a b c Sr = some Sr' ∧ pr_RB (B + 2) Sc' Sr' KS' ∧ pr_out [76, 77, 78] [45, 47, 48, 49, 50, 51] Sc Sc' ∧ pr_out [4755] [82, 84, 85, 86, 87, 88, 89, 90, 91, 92] Sr Sr'
      ∧ pr_old Sr Sr' w (p : Int) ∧ Sr.1 4755 ≤ Sr'.1 4755 ∧ (∀ k, pr_live Sr' k → Sr'.2 88 k = b ∨ (pr_live Sr k ∧ Sr'.2 84 k = Sr.2 84 k ∧ Sr'.2 87 k = Sr.2 87 k ∧ Sr'.2 88 k = Sr.2 88 k)) := by
  have hq100 : q < 100 := by have := R.2.1; omega
  have hp100 : p < 100 := by have := R.2.1; omega
  have hw0 : w ≠ 0 ∧ w ≠ 5 := by rcases hN with h | h | h | h <;> (have := h.1; omega)
  have hv9 : j < 900 ∧ pr_cv w a b c < 800 := by
    rw [← hj]
    unfold pr_jv pr_cv
    rcases hN with ⟨a1, a2, -⟩ | ⟨a1, a2, -⟩ | ⟨a1, a2, a3, a4⟩ | ⟨a1, a2, -⟩ <;> rw [a1] <;> simp <;> omega
  have R1 := pr_mark R q
  obtain ⟨kk, hk8, hk0, hen⟩ := pr_enter (S := am_sA Sr 82 q 1) (w := w) (p := (q : Int)) (x := a) (y := b) (z := c) (pr_RB_free R1 (c0 := pr_cv w a b c) hv9.2 (fun k' hl => hcdn k' hl))
  obtain ⟨d1, d2, d3, d4⟩ := R.2.2.2.1 q hq
  have w41 : am_w32 (Sc.2 41 q) = Sr.2 75 q := by rw [d1]; rcases d2 with h | h | h <;> rw [h, pr_w (by omega) (by omega)]
  have hcl : am_w32 (Sr.1 4755 + 1) = Sr.1 4755 + 1 := by
    have h9 := R.2.2.2.2.2.2.2.2.1
    exact pr_w (by omega) (by omega)
  have hjn : ∀ q', j ∉ (KS q').map (pr_jb Sr) := by
    intro q' hm
    obtain ⟨k', hk', e⟩ := List.mem_map.mp hm
    have hl := pr_RB_live R hk'
    obtain ⟨⟨p', hp', j'⟩, -⟩ := R.2.2.2.2.2.2.1 k' hl.1
    have hJ1 : pr_JK Sc (pr_ent (am_sA Sr 82 q 1) kk w (q : Int) a b c) (Sr.1 4745) kk p := pr_JN_JK hN (am_up_self _ _ _) (am_up_self _ _ _) (am_up_self _ _ _) (am_up_self _ _ _) rfl rfl rfl rfl rfl
    have hjj : pr_jb (pr_ent (am_sA Sr 82 q 1) kk w (q : Int) a b c) kk = j := by
      rw [pr_jb_v, ← hj]
      show pr_jv (am_up (Sr.2 84) kk w kk) (am_up (Sr.2 87) kk a kk) (am_up (Sr.2 88) kk b kk) (am_up (Sr.2 89) kk c kk) = _
      rw [am_up_self, am_up_self, am_up_self, am_up_self]
    have hcc : pr_cd (pr_ent (am_sA Sr 82 q 1) kk w (q : Int) a b c) kk = pr_cv w a b c := by
      rw [pr_cd_v]
      show pr_cv (am_up (Sr.2 84) kk w kk) (am_up (Sr.2 87) kk a kk) (am_up (Sr.2 88) kk b kk) (am_up (Sr.2 89) kk c kk) = _
      rw [am_up_self, am_up_self, am_up_self, am_up_self]
    exact hcdn k' hl.1 ((pr_jb_cd j' hJ1 (e.trans hjj.symm)).trans hcc)
  have hold : ∀ S', S'.2 84 = am_up (Sr.2 84) kk w → S'.2 87 = am_up (Sr.2 87) kk a → S'.2 88 = am_up (Sr.2 88) kk b → S'.2 89 = am_up (Sr.2 89) kk c → pr_old Sr S' w (p : Int) := by
    intro S' x84 x87 x88 x89 k' hk'
    by_cases e : k' = kk
    · subst e
      refine Or.inl ⟨by rw [x84, am_up_self], ?_⟩
      rw [x87, x89, am_up_self, am_up_self]
      rcases hN with ⟨a1, a2, -⟩ | ⟨a1, a2, -⟩ | ⟨a1, a2, -⟩ | ⟨a1, a2, -⟩
      · rw [if_pos a1]; exact a2
      · rw [if_neg (by omega)]; exact a2
      · rw [if_neg (by omega)]; exact a2
      · rw [if_neg (by omega)]; exact a2
    · exact Or.inr ⟨⟨hk'.1, by have := hk'.2; rw [x84, am_up_ne _ _ e] at this; exact this⟩, by rw [x84, am_up_ne _ _ e], by rw [x87, am_up_ne _ _ e], by rw [x88, am_up_ne _ _ e], by rw [x89, am_up_ne _ _ e]⟩
  have hext : ∀ S' : am_S, S'.2 84 = am_up (Sr.2 84) kk w → S'.2 87 = am_up (Sr.2 87) kk a → S'.2 88 = am_up (Sr.2 88) kk b → ∀ k, pr_live S' k → S'.2 88 k = b ∨ (pr_live Sr k ∧ S'.2 84 k = Sr.2 84 k ∧ S'.2 87 k = Sr.2 87 k ∧ S'.2 88 k = Sr.2 88 k) := by
    intro S' x84 x87 x88 k' hk'
    by_cases e : k' = kk
    · subst e
      exact Or.inl (by rw [x88, am_up_self])
    · exact Or.inr ⟨⟨hk'.1, by have := hk'.2; rw [x84, am_up_ne _ _ e] at this; exact this⟩, by rw [x84, am_up_ne _ _ e], by rw [x87, am_up_ne _ _ e], by rw [x88, am_up_ne _ _ e]⟩
  by_cases hs : Sr.2 75 q = 0
  · have Lq := pr_RB_list R (q : Int)
    obtain ⟨Sc', g1, g2, g3, g4, g5, g6, g7⟩ := pr_wait0 hq100 hv9.1 (w41.trans hs) (R.2.2.2.2.2.1 q hq) Lq.2.1 Lq.1 (hjn _) (by have := Lq.2.2; omega)
    have x84 : (pr_ent (am_sA Sr 82 q 1) kk w (q : Int) a b c).2 84 = am_up (Sr.2 84) kk w := rfl
    have x85 : (pr_ent (am_sA Sr 82 q 1) kk w (q : Int) a b c).2 85 = am_up (Sr.2 85) kk (q : Int) := rfl
    have x87 : (pr_ent (am_sA Sr 82 q 1) kk w (q : Int) a b c).2 87 = am_up (Sr.2 87) kk a := rfl
    have x88 : (pr_ent (am_sA Sr 82 q 1) kk w (q : Int) a b c).2 88 = am_up (Sr.2 88) kk b := rfl
    have x89 : (pr_ent (am_sA Sr 82 q 1) kk w (q : Int) a b c).2 89 = am_up (Sr.2 89) kk c := rfl
    have x75 : (pr_ent (am_sA Sr 82 q 1) kk w (q : Int) a b c).2 75 = Sr.2 75 := rfl
    have hjk : pr_jb (pr_ent (am_sA Sr 82 q 1) kk w (q : Int) a b c) kk = j := by
      rw [pr_jb_v, x84, x87, x88, x89, am_up_self, am_up_self, am_up_self, am_up_self]; exact hj
    have hck : pr_cd (pr_ent (am_sA Sr 82 q 1) kk w (q : Int) a b c) kk = pr_cv w a b c := by
      rw [pr_cd_v, x84, x87, x88, x89, am_up_self, am_up_self, am_up_self, am_up_self]
    have RR := pr_addP R1 hk8 hk0 (Sc' := Sc') (w := w) (a := a) (b := b) (c := c) hw0.1 (j := j) (p := p) (q := q) hB hq (pr_out_45 g3 g4) hjk g2 (fun x hx => g7 x hx) g6
      (fun x hx => by rw [g5, am_up_ne _ _ hx]; rfl) hp
      (pr_JN_JK hN (by rw [x84, am_up_self]) (by rw [x87, am_up_self]) (by rw [x88, am_up_self]) (by rw [x89, am_up_self]) (g3.2 72 (by decide)) (g3.2 73 (by decide)) rfl rfl (g3.2 71 (by decide)))
      (Or.inl ⟨q, hq, by rw [x85, am_up_self], by rw [x75]; exact hs, by rw [x84, am_up_self]; exact hw0.2, by rw [hjk, g5, am_up_self]⟩)
      (fun k' hl => by rw [hck]; exact hcdn k' hl)
    refine ⟨Sc', _, _, g1, ?_, RR, ?_, ?_, hold _ x84 x87 x88 x89, ?_, hext _ x84 x87 x88⟩
    · unfold sf_X10_waitFor
      simp only [pr_gdn hq100, pr_let, Int.toNat_natCast]
      rw [hen, pr_b2, if_pos (by rw [x75]; exact hs)]
    · refine pr_out_mono g3 ?_ ?_ <;> decide
    · unfold pr_ent
      refine pr_out_sA (pr_out_sA (pr_out_sA (pr_out_sA (pr_out_sI (pr_out_sA (pr_out_sA (pr_out_sA (pr_out_refl Sr) ?_) ?_) ?_) ?_) ?_) ?_) ?_) ?_ <;> decide
    · have : (pr_ent (am_sA Sr 82 q 1) kk w (q : Int) a b c).1 4755 = am_w32 (Sr.1 4755 + 1) := rfl
      rw [this, hcl]; omega
  · have LQ := pr_RB_list R (-1)
    obtain ⟨Sc', g1, g2, g3, g4, g5, g7⟩ := pr_wait1 hq100 hv9.1 (fun h => hs (w41.symm.trans h)) R.2.2.2.2.1 LQ.2.1 LQ.1 (hjn _) (by have := LQ.2.2; omega)
    obtain ⟨wi, hwi⟩ : ∃ wi, wi = Sr.2 75 q := ⟨_, rfl⟩
    obtain ⟨sv, hsv⟩ : ∃ sv, sv = Sr.2 76 q := ⟨_, rfl⟩
    obtain ⟨nv, hnv⟩ : ∃ nv, nv = Sr.2 77 q := ⟨_, rfl⟩
    have x84 : (pr_car (pr_ent (am_sA Sr 82 q 1) kk w (q : Int) a b c) kk wi sv nv).2 84 = am_up (Sr.2 84) kk w := rfl
    have x85 : (pr_car (pr_ent (am_sA Sr 82 q 1) kk w (q : Int) a b c) kk wi sv nv).2 85 = am_up (am_up (Sr.2 85) kk (q : Int)) kk (-1) := rfl
    have x87 : (pr_car (pr_ent (am_sA Sr 82 q 1) kk w (q : Int) a b c) kk wi sv nv).2 87 = am_up (Sr.2 87) kk a := rfl
    have x88 : (pr_car (pr_ent (am_sA Sr 82 q 1) kk w (q : Int) a b c) kk wi sv nv).2 88 = am_up (Sr.2 88) kk b := rfl
    have x89 : (pr_car (pr_ent (am_sA Sr 82 q 1) kk w (q : Int) a b c) kk wi sv nv).2 89 = am_up (Sr.2 89) kk c := rfl
    have x90 : (pr_car (pr_ent (am_sA Sr 82 q 1) kk w (q : Int) a b c) kk wi sv nv).2 90 = am_up (Sr.2 90) kk wi := rfl
    have x91 : (pr_car (pr_ent (am_sA Sr 82 q 1) kk w (q : Int) a b c) kk wi sv nv).2 91 = am_up (Sr.2 91) kk sv := rfl
    have x92 : (pr_car (pr_ent (am_sA Sr 82 q 1) kk w (q : Int) a b c) kk wi sv nv).2 92 = am_up (Sr.2 92) kk nv := rfl
    have x75 : (pr_car (pr_ent (am_sA Sr 82 q 1) kk w (q : Int) a b c) kk wi sv nv).2 75 = Sr.2 75 := rfl
    have x76 : (pr_car (pr_ent (am_sA Sr 82 q 1) kk w (q : Int) a b c) kk wi sv nv).2 76 = Sr.2 76 := rfl
    have x77 : (pr_car (pr_ent (am_sA Sr 82 q 1) kk w (q : Int) a b c) kk wi sv nv).2 77 = Sr.2 77 := rfl
    have hjk : pr_jb (pr_car (pr_ent (am_sA Sr 82 q 1) kk w (q : Int) a b c) kk wi sv nv) kk = j := by
      rw [pr_jb_v, x84, x87, x88, x89, am_up_self, am_up_self, am_up_self, am_up_self]; exact hj
    have hck : pr_cd (pr_car (pr_ent (am_sA Sr 82 q 1) kk w (q : Int) a b c) kk wi sv nv) kk = pr_cv w a b c := by
      rw [pr_cd_v, x84, x87, x88, x89, am_up_self, am_up_self, am_up_self, am_up_self]
    have RR := pr_addQ R1 hk8 hk0 (Sc' := Sc') (w := w) (q := (q : Int)) (a := a) (b := b) (c := c) (wi := wi) (s := sv) (n := nv) hw0.1 (j := j) (p := p) (by omega)
      (pr_out_45 (pr_out_mono (MI := [76, 77, 78]) (MA := [45, 46, 50, 51]) g3 (by decide) (by decide)) g4) hjk g2 (fun x hx => g7 x hx)
      (fun k' p' _ _ _ => by rw [g3.2 46 (by decide)]; rfl)
      (fun x hx => by rw [g5, am_up_ne _ _ hx]; rfl) hp
      (pr_JN_JK hN (by rw [x84, am_up_self]) (by rw [x87, am_up_self]) (by rw [x88, am_up_self]) (by rw [x89, am_up_self]) (g3.2 72 (by decide)) (g3.2 73 (by decide)) rfl rfl (g3.2 71 (by decide)))
      (Or.inr ⟨by rw [x85, am_up_self], fun _ => ⟨q, hq, by rw [hjk, g5, am_up_self], by rw [x75]; exact hs, by rw [x90, x75, am_up_self]; exact hwi, by rw [x91, x76, am_up_self]; exact hsv, by rw [x92, x77, am_up_self]; exact hnv⟩⟩)
      (fun k' hl => by rw [hck]; exact hcdn k' hl)
    refine ⟨Sc', _, _, g1, ?_, pr_RB_mono RR (by omega) hB, ?_, ?_, hold _ x84 x87 x88 x89, ?_, hext _ x84 x87 x88⟩
    · unfold sf_X10_waitFor
      simp only [pr_gdn hq100, pr_let, Int.toNat_natCast]
      have y75 : (pr_ent (am_sA Sr 82 q 1) kk w (q : Int) a b c).2 75 = Sr.2 75 := rfl
      have y76 : (pr_ent (am_sA Sr 82 q 1) kk w (q : Int) a b c).2 76 = Sr.2 76 := rfl
      have y77 : (pr_ent (am_sA Sr 82 q 1) kk w (q : Int) a b c).2 77 = Sr.2 77 := rfl
      rw [hen, pr_b2, y75, y76, y77, if_neg hs, pr_carry hk8, pr_b1, hwi, hsv, hnv]
    · refine pr_out_mono g3 ?_ ?_ <;> decide
    · unfold pr_car pr_ent
      refine pr_out_sA (pr_out_sA (pr_out_sA (pr_out_sA (pr_out_sA (pr_out_sA (pr_out_sA (pr_out_sA (pr_out_sI (pr_out_sA (pr_out_sA (pr_out_sA (pr_out_refl Sr) ?_) ?_) ?_) ?_) ?_) ?_) ?_) ?_) ?_) ?_) ?_) ?_ <;> decide
    · have : (pr_car (pr_ent (am_sA Sr 82 q 1) kk w (q : Int) a b c) kk wi sv nv).1 4755 = am_w32 (Sr.1 4755 + 1) := rfl
      rw [this, hcl]; omega
