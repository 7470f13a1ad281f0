/-! what runs: put, place, begin, end, throw -/
theorem pr_RX_head {Sc Sr Sc' Sr' : am_S} {a : Nat} {st : List Nat} (X : pr_RX Sc Sr (a :: st)) (hm100 : Sr.1 4745 ≤ 100) (hF : pr_FR Sc' Sr' a st.length st)
    (hc : ∀ b, b ≠ a → Sc'.2 67 b = Sc.2 67 b ∧ Sc'.2 68 b = Sc.2 68 b ∧ Sc'.2 69 b = Sc.2 69 b ∧ Sc'.2 70 b = Sc.2 70 b)
    (hr : ∀ d, d ≠ st.length → Sr'.2 116 d = Sr.2 116 d ∧ Sr'.2 117 d = Sr.2 117 d ∧ Sr'.2 118 d = Sr.2 118 d ∧ Sr'.2 119 d = Sr.2 119 d ∧ Sr'.2 120 d = Sr.2 120 d)
    (c459 : Sc'.1 459 = Sc.1 459) (f4788 : Sr'.1 4788 = Sr.1 4788) (f4745 : Sr'.1 4745 = Sr.1 4745) (e83 : Sr'.2 83 = Sr.2 83) (e79 : Sr'.2 79 = Sr.2 79) (e80 : Sr'.2 80 = Sr.2 80) (e71 : Sc'.2 71 = Sc.2 71) : pr_RX Sc' Sr' (a :: st) := by
  obtain ⟨⟨hFR, hna, ha, hst⟩, h2, h3, h4, h5⟩ := X
  refine ⟨⟨hF, hna, ha, pr_st_keep (by rw [f4745]; exact Int.le_refl _) hst (fun b hb => hc b (fun e => hna (e ▸ hb))) (fun d hd => hr d (by omega)) (fun b _ _ _ h => by rw [e83]; exact h)⟩, by rw [c459]; exact h2, by rw [f4788]; exact h3, ?_, ?_⟩
  · intro r hr1 hr2
    rw [f4745] at hr1
    rw [e83] at hr2
    have hne : r ≠ a := fun e => by
      subst e
      have := hFR.2.2.2.2.2.2.2.2.1 (by omega)
      omega
    obtain ⟨c1, c2, -⟩ := hc r hne
    rw [c1, c2, e79, e80]; exact h4 r hr1 hr2
  · intro p hp
    rw [f4745] at hp
    rw [e71, e83]; exact h5 p hp
theorem pr_RX_pos {Sc Sr : am_S} {a : Nat} {st : List Nat} (X : pr_RX Sc Sr (a :: st)) : Sr.1 4788 = (st.length : Int) ∧ st.length < 101 ∧ a < 101 ∧ Sc.1 459 = (a : Int) := by
  obtain ⟨h1, h2, h3, -⟩ := X
  have := pr_st_len h1
  have h4 := h1.2.2.1
  simp only [List.length_cons] at this h3
  refine ⟨by omega, by omega, h4, h2⟩
theorem pr_putR {Sr : am_S} {d : Nat} (h : Sr.1 4788 = (d : Int)) (hd : d < 110) (s n : Int) : sf_X10_put s n Sr = some (am_sA (am_sA Sr 118 d s) 119 d n) := by
  unfold sf_X10_put
  rw [h, pr_gdn hd, pr_let]
  have : (am_sA Sr 118 (Int.toNat (d : Int)) s).1 4788 = (d : Int) := h
  rw [this, pr_gdn hd, pr_let, Int.toNat_natCast]
/-- another X -/
theorem pr_setX {Sc Sr : am_S} {a : Nat} {st : List Nat} (X : pr_RX Sc Sr (a :: st)) (hm100 : Sr.1 4745 ≤ 100) {s n : Int} (hv : pr_VV (Sr.1 4745) s n) : pr_RX (am_sA Sc 69 a (pr_V s n)) (am_sA (am_sA Sr 118 st.length s) 119 st.length n) (a :: st) := by
  obtain ⟨h1, h2, h3, h4, h5, h6, h7, h8, h9, h10⟩ := X.1.1
  refine pr_RX_head X hm100 ⟨h1, h2, h3, h4, h5, ?_, ?_, h8, h9, h10⟩ (fun b hb => ⟨rfl, rfl, am_up_ne _ _ hb, rfl⟩) (fun d hd => ⟨rfl, rfl, am_up_ne _ _ hd, am_up_ne _ _ hd, rfl⟩) rfl rfl rfl rfl rfl rfl rfl
  · show am_up (Sc.2 69) a (pr_V s n) a = pr_V (am_up (Sr.2 118) st.length s st.length) (am_up (Sr.2 119) st.length n st.length)
    rw [am_up_self, am_up_self, am_up_self]
  · show pr_VV _ (am_up (Sr.2 118) st.length s st.length) (am_up (Sr.2 119) st.length n st.length)
    rw [am_up_self, am_up_self]; exact hv
/-- another place -/
theorem pr_setP {Sc Sr : am_S} {a : Nat} {st : List Nat} (X : pr_RX Sc Sr (a :: st)) (hm100 : Sr.1 4745 ≤ 100) {t : Int} (ht : 0 ≤ t ∧ t ≤ 10) : pr_RX (am_sA Sc 68 a t) (am_sA Sr 117 st.length t) (a :: st) := by
  obtain ⟨h1, h2, h3, h4, h5, h6, h7, h8, h9, h10⟩ := X.1.1
  refine pr_RX_head X hm100 ⟨h1, h2, h3, ?_, ?_, h6, h7, h8, h9, h10⟩ (fun b hb => ⟨rfl, am_up_ne _ _ hb, rfl, rfl⟩) (fun d hd => ⟨rfl, am_up_ne _ _ hd, rfl, rfl, rfl⟩) rfl rfl rfl rfl rfl rfl rfl
  · show am_up (Sr.2 117) st.length t st.length = am_up (Sc.2 68) a t a
    rw [am_up_self, am_up_self]
  · show 0 ≤ am_up (Sc.2 68) a t a ∧ am_up (Sc.2 68) a t a ≤ 10
    rw [am_up_self]; exact ht
theorem pr_push {Sc Sr Sc' : am_S} {a : Nat} {st : List Nat} (X : pr_RX Sc Sr st) (hm100 : Sr.1 4745 ≤ 100) {f t s n : Int}
    (hc : ∀ b, b ≠ a → Sc'.2 67 b = Sc.2 67 b ∧ Sc'.2 68 b = Sc.2 68 b ∧ Sc'.2 69 b = Sc.2 69 b ∧ Sc'.2 70 b = Sc.2 70 b)
    (v67 : Sc'.2 67 a = f) (hf : 0 ≤ f ∧ f < 10) (v68 : Sc'.2 68 a = t) (ht : 0 ≤ t ∧ t ≤ 10) (v69 : Sc'.2 69 a = pr_V s n) (hv : pr_VV (Sr.1 4745) s n) (v70 : Sc'.2 70 a = pr_top st) (c459 : Sc'.1 459 = (a : Int)) (e71 : Sc'.2 71 = Sc.2 71)
    (ha : a < 101) (hna : a ∉ st) (h1 : a ≠ 100 → (a : Int) < Sr.1 4745 ∧ Sr.2 83 a = 0) (h2 : a = 100 → st = []) :
    ∃ Sr', sf_X10_begin f t s n (if a = 100 then -1 else (a : Int)) Sr = some Sr' ∧ pr_RX Sc' Sr' (a :: st) ∧ pr_out [4788] [116, 117, 118, 119, 120] Sr Sr' := by
  obtain ⟨hst, x2, x3, x4, x5⟩ := X
  have hd : st.length < 110 := by have := pr_st_len hst; omega
  have ew : ∀ _ : Nat, am_w32 (Sr.1 4788 + 1) = (st.length : Int) := fun _ => by rw [x3, pr_w (by omega) (by omega)]; omega
  obtain ⟨r, hr⟩ : ∃ r : Int, r = (if a = 100 then -1 else (a : Int)) := ⟨_, rfl⟩
  rw [← hr]
  obtain ⟨Sr', hS⟩ : ∃ Sr', Sr' = am_sA (am_sA (am_sA (am_sA (am_sA (am_sI Sr 4788 (st.length : Int)) 116 st.length f) 117 st.length t) 118 st.length s) 119 st.length n) 120 st.length r := ⟨_, rfl⟩
  refine ⟨Sr', ?_, ⟨⟨?_, hna, ha, ?_⟩, c459, ?_, ?_, ?_⟩, ?_⟩
  · unfold sf_X10_begin
    rw [ew 0, pr_let]
    simp only [pr_A1, pr_In, pr_gdn hd, pr_let, Int.toNat_natCast]
    rw [hS]
  · rw [hS]
    refine ⟨?_, ?_, by rw [v67]; exact hf, ?_, by rw [v68]; exact ht, ?_, ?_, v70, h1, h2⟩
    · show am_up (Sr.2 120) st.length r st.length = _
      rw [am_up_self]; exact hr
    · show am_up (Sr.2 116) st.length f st.length = _
      rw [am_up_self]; exact v67.symm
    · show am_up (Sr.2 117) st.length t st.length = _
      rw [am_up_self]; exact v68.symm
    · show _ = pr_V (am_up (Sr.2 118) st.length s st.length) (am_up (Sr.2 119) st.length n st.length)
      rw [am_up_self, am_up_self]; exact v69
    · show pr_VV _ (am_up (Sr.2 118) st.length s st.length) (am_up (Sr.2 119) st.length n st.length)
      rw [am_up_self, am_up_self]; exact hv
  · rw [hS]
    refine pr_st_keep (Sc := Sc) (Sr := Sr) ?_ hst (fun b hb => hc b (fun e => hna (e ▸ hb))) (fun d hd => ?_) (fun _ _ _ _ h => h)
    · exact Int.le_refl _
    have hne : d ≠ st.length := by omega
    exact ⟨am_up_ne _ _ hne, am_up_ne _ _ hne, am_up_ne _ _ hne, am_up_ne _ _ hne, am_up_ne _ _ hne⟩
  · rw [hS]
    show (st.length : Int) = ((a :: st).length : Int) - 1
    simp
  · rw [hS]
    intro r2 hr1 hr2
    have hne : r2 ≠ a := fun e => by
      subst e
      have hr1' : (r2 : Int) < Sr.1 4745 := hr1
      have hr2' : Sr.2 83 r2 = 1 := hr2
      have := (h1 (by omega)).2
      omega
    obtain ⟨c1, c2, -⟩ := hc r2 hne
    rw [c1, c2]; exact x4 r2 hr1 hr2
  · rw [hS]
    intro p hp
    rw [e71]; exact x5 p hp
  · rw [hS]
    refine pr_out_sA (pr_out_sA (pr_out_sA (pr_out_sA (pr_out_sA (pr_out_sI (pr_out_refl Sr) ?_) ?_) ?_) ?_) ?_) ?_ <;> decide
/-- Y bears what the runner writes -/
theorem pr_Y_run {B : Int} {Sc Sr Sc' Sr' : am_S} (Z : pr_Y B Sc Sr) (hc : pr_out [459, 460, 461] [67, 68, 69, 70] Sc Sc') (hr : pr_out [4788, 4789, 4790, 4791, 4792] [79, 80, 83, 116, 117, 118, 119, 120] Sr Sr') : pr_Y B Sc' Sr' :=
  pr_Y_cells Z (fun a ha => hc.2 a (by simp; omega)) (hc.2 71 (by decide)) (fun n h1 h2 h3 => hc.1 n (by simp; omega)) (hc.2 64 (by decide)) (hc.2 65 (by decide)) (hc.2 66 (by decide)) (fun a h1 h2 h3 h4 => hr.2 a (by simp; omega)) (fun n hn => hr.1 n (by simp; omega))
/-- a FUNCTION is entered -/
theorem pr_enterC {Sc : am_S} {a : Nat} (ha : a < 101) (f x : Int) : sf_X5_enter (a : Int) f x Sc = some (am_sI (am_sA (am_sA (am_sA (am_sA Sc 67 a f) 68 a 0) 69 a x) 70 a (Sc.1 459)) 459 (a : Int)) := by
  unfold sf_X5_enter
  rw [pr_putn ha, pr_b1, pr_putn ha, pr_b1, pr_putn ha, pr_b1, pr_putn ha, pr_b1, pr_let]; rfl
theorem pr_begin {B : Int} {Sc Sr : am_S} {a : Nat} {st : List Nat} (Z : pr_Y B Sc Sr) (X : pr_RX Sc Sr st) {f s n : Int} (hf : 0 ≤ f ∧ f < 10) (hv : pr_VV (Sr.1 4745) s n)
    (ha : a < 101) (hna : a ∉ st) (h1 : a ≠ 100 → (a : Int) < Sr.1 4745 ∧ Sr.2 83 a = 0) (h2 : a = 100 → st = []) :
    ∃ Sc' Sr', sf_X5_enter (a : Int) f (pr_V s n) Sc = some Sc' ∧ sf_X10_begin f 0 s n (if a = 100 then -1 else (a : Int)) Sr = some Sr' ∧ pr_Y B Sc' Sr' ∧ pr_RX Sc' Sr' (a :: st) ∧ pr_out [459] [67, 68, 69, 70] Sc Sc' ∧ pr_out [4788] [116, 117, 118, 119, 120] Sr Sr' ∧ Sc'.2 68 a = 0 ∧ (∀ b, b ≠ a → Sc'.2 68 b = Sc.2 68 b) := by
  have hout : pr_out [459] [67, 68, 69, 70] Sc (am_sI (am_sA (am_sA (am_sA (am_sA Sc 67 a f) 68 a 0) 69 a (pr_V s n)) 70 a (Sc.1 459)) 459 (a : Int)) := by
    refine pr_out_sI (pr_out_sA (pr_out_sA (pr_out_sA (pr_out_sA (pr_out_refl Sc) ?_) ?_) ?_) ?_) ?_ <;> decide
  obtain ⟨Sr', g1, g2, g3⟩ := pr_push (Sc' := am_sI (am_sA (am_sA (am_sA (am_sA Sc 67 a f) 68 a 0) 69 a (pr_V s n)) 70 a (Sc.1 459)) 459 (a : Int)) (a := a) (f := f) (t := 0) X (pr_Y_m Z).2.2.1
    (fun b hb => ⟨am_up_ne _ _ hb, am_up_ne _ _ hb, am_up_ne _ _ hb, am_up_ne _ _ hb⟩) (am_up_self _ _ _) hf (am_up_self _ _ _) (by omega) (am_up_self _ _ _) hv ((am_up_self _ _ _).trans X.2.1) rfl rfl ha hna h1 h2
  exact ⟨_, Sr', pr_enterC ha f (pr_V s n), g1, pr_Y_run Z (pr_out_mono hout (by decide) (by decide)) (pr_out_mono g3 (by decide) (by decide)), g2, hout, g3, am_up_self _ _ _, fun b hb => am_up_ne _ _ hb⟩
/-- how a run of FUNCTIONS ends; dn: the PROMISE for which one is DONE, -1 for nobody, below: none is DONE -/
def pr_fin (B dn : Int) (Sc' Sr' : am_S) : Prop :=
  (0 ≤ dn → ∃ Sr2, sf_X10_endBy dn (Sr'.1 4792) (Sr'.1 4790) (Sr'.1 4791) 0 Sr' = some Sr2 ∧ pr_Y B Sc' Sr2 ∧ pr_RX Sc' Sr2 []) ∧ (dn < 0 → pr_Y B Sc' Sr' ∧ pr_RX Sc' Sr' [])
def pr_dn (dn : Int) (Sc Sr : am_S) (st : List Nat) : Prop := (100 ∈ st → Sc.1 460 = dn ∧ -1 ≤ dn ∧ dn < Sr.1 4745) ∧ (100 ∉ st → dn < -1)
theorem pr_settle_none {Sc : am_S} (h : 0 ≤ Sc.1 75) (how v : Int) : sf_X3_settleBy (-1) how v 0 Sc = some Sc := by
  unfold sf_X3_settleBy
  rw [pr_has rfl, if_neg (by omega), pr_b2, if_pos rfl]
/-- a FUNCTION ends: how 1 with what it GIVES, 2 THROWS -/
theorem pr_end {B dn : Int} {Sc0 Sc Sr : am_S} {a : Nat} {st : List Nat} (Z : pr_Y B Sc Sr) (hB : B + 1 < 2000000000) (X : pr_RX Sc0 Sr (a :: st)) (hd : pr_dn dn Sc Sr (a :: st)) {how s n : Int} (hw : how = 1 ∨ how = 2)
    (hq : ∀ b, b ≠ a → Sc.2 67 b = Sc0.2 67 b ∧ Sc.2 68 b = Sc0.2 68 b ∧ Sc.2 69 b = Sc0.2 69 b ∧ Sc.2 70 b = Sc0.2 70 b) (h70 : Sc.2 70 = Sc0.2 70) (h71 : Sc.2 71 = Sc0.2 71) (f6 : Sc.2 69 a = pr_V s n) (f7 : pr_VV (Sr.1 4745) s n) :
    ∃ Sc' Sr', sf_X5_end (a : Int) how Sc = some Sc' ∧ sf_X10_finish (how - 1) s n Sr = some Sr' ∧ Sc'.1 461 = Sc.1 461 ∧ Sr'.1 4789 = Sr.1 4789 ∧ Sc'.2 68 = Sc.2 68
      ∧ ((a ≠ 100 ∧ pr_Y (B + 1) Sc' Sr' ∧ pr_RX Sc' Sr' st ∧ pr_dn dn Sc' Sr' st) ∨ (a = 100 ∧ st = [] ∧ Sc'.1 459 = -1 ∧ Sr'.1 4788 = -1 ∧ pr_fin (B + 1) dn Sc' Sr')) := by
  obtain ⟨p1, p2, p3, p4⟩ := pr_RX_pos X
  obtain ⟨⟨hFR, hna, ha, hst0⟩, x2, x3, x40, x50⟩ := X
  obtain ⟨f1, f2, f3, f4, f5, -, -, f80, f9, f10⟩ := hFR
  obtain ⟨m1, m2, m3, m4, m5⟩ := pr_Y_m Z
  have hst : pr_st Sc Sr st := pr_st_keep (Sc := Sc0) (Sr := Sr) (Sr' := Sr) (Int.le_refl _) hst0 (fun b hb => hq b (fun e => hna (e ▸ hb))) (fun _ _ => ⟨rfl, rfl, rfl, rfl, rfl⟩) (fun _ _ _ _ h => h)
  have f8 : Sc.2 70 a = pr_top st := by rw [h70]; exact f80
  have x4 : pr_SP Sc Sr := fun r hr1 hr2 => by
    have hne : r ≠ a := fun e => by
      subst e
      have := (f9 (by omega)).2
      omega
    obtain ⟨c1, c2, -⟩ := hq r hne
    rw [c1, c2]; exact x40 r hr1 hr2
  have x5 : pr_FL Sc Sr := fun p hp => by rw [h71]; exact x50 p hp
  have hd110 : st.length < 110 := by omega
  have ew : ∀ _ : Nat, am_w32 (Sr.1 4788 - 1) = (st.length : Int) - 1 := fun _ => by rw [p1, pr_w (by omega) (by omega)]
  have htop : ∀ _ : Nat, am_w32 (Sc.2 70 a) = pr_top st := fun _ => by
    rw [f8]
    cases st with
    | nil => exact pr_w (by decide) (by decide)
    | cons b l =>
      have := (pr_st_nodup hst).2 b List.mem_cons_self
      exact pr_w (by show -2147483648 ≤ (b : Int); omega) (by show (b : Int) < 2147483648; omega)
  -- the reference, popped
  have hout1 : pr_out [4788, 4789, 4790, 4791, 4792] [79, 80, 83, 116, 117, 118, 119, 120] Sr (am_sI Sr 4788 ((st.length : Int) - 1)) := pr_out_sI (pr_out_refl Sr) (by decide)
  have Z1 : pr_Y B Sc (am_sI Sr 4788 ((st.length : Int) - 1)) := pr_Y_run Z (pr_out_refl Sc) hout1
  by_cases h100 : a = 100
  · -- one that is DONE
    subst h100
    have hst0 : st = [] := f10 rfl
    subst hst0
    obtain ⟨d1, d2, d3⟩ := hd.1 List.mem_cons_self
    obtain ⟨Sr', hS⟩ : ∃ Sr', Sr' = am_sI (am_sI (am_sI (am_sI Sr 4788 (-1)) 4792 (how - 1)) 4790 s) 4791 n := ⟨_, rfl⟩
    have hout2 : pr_out [4788, 4789, 4790, 4791, 4792] [79, 80, 83, 116, 117, 118, 119, 120] Sr Sr' := by
      rw [hS]
      refine pr_out_sI (pr_out_sI (pr_out_sI (pr_out_sI (pr_out_refl Sr) ?_) ?_) ?_) ?_ <;> decide
    have Z2 : pr_Y B Sc Sr' := pr_Y_run Z (pr_out_refl Sc) hout2
    have hm' : Sr'.1 4745 = Sr.1 4745 := hout2.1 _ (by decide)
    have hfin : sf_X10_finish (how - 1) s n Sr = some Sr' := by
      unfold sf_X10_finish
      have e0 : (([] : List Nat).length : Int) - 1 = -1 := rfl
      rw [p1, ← p1, ew 0, p1, pr_gdn hd110, pr_let, Int.toNat_natCast, if_pos (by rw [f1, if_pos rfl]; decide), pr_gz (by omega), pr_let, pr_let, pr_let, hS, e0]
    -- the class: settle for dn, then nobody runs
    have hpop : ∀ Sc2 : am_S, Sc2.2 70 = Sc.2 70 → am_w32 (Sc2.2 70 100) = -1 := fun Sc2 h => by rw [h]; exact htop 0
    have hEnd : ∀ Sc2, sf_X3_settleBy dn how (pr_V s n) 0 Sc = some Sc2 → Sc2.2 70 = Sc.2 70 → sf_X5_end ((100 : Nat) : Int) how Sc = some (am_sI Sc2 459 (-1)) := by
      intro Sc2 h1 h2
      unfold sf_X5_end
      have e : ((100 : Nat) : Int) = 100 := rfl
      rw [if_pos e, pr_van (by omega), pr_b2, d1, f6, h1, pr_b1, pr_atn (by omega), pr_b2, hpop Sc2 h2, pr_let]
    have hfl : pr_FL Sc Sr' := fun p hp => by
      rw [hout2.1 4745 (by decide)] at hp
      have e83 : Sr'.2 83 = Sr.2 83 := by rw [hS]; rfl
      rw [e83]; exact x5 p hp
    have hsp : pr_SP Sc Sr' := fun r hr1 hr2 => by
      have e83 : Sr'.2 83 = Sr.2 83 := by rw [hS]; rfl
      have e79 : Sr'.2 79 = Sr.2 79 := by rw [hS]; rfl
      have e80 : Sr'.2 80 = Sr.2 80 := by rw [hS]; rfl
      rw [hm'] at hr1
      rw [e83] at hr2
      rw [e79, e80]; exact x4 r hr1 hr2
    have X2 : pr_RX (am_sI Sc 459 (-1)) Sr' [] := ⟨True.intro, rfl, by rw [hS]; rfl, hsp, hfl⟩
    have Zi : pr_Y B (am_sI Sc 459 (-1)) Sr' := pr_Y_run Z2 (pr_out_sI (pr_out_refl Sc) (by decide)) (pr_out_refl _)
    by_cases hdn : 0 ≤ dn
    · obtain ⟨d, hdd⟩ : ∃ d : Nat, dn = (d : Int) := ⟨dn.toNat, by omega⟩
      obtain ⟨Sc2, Sr2, g1, g2, -, -, g5, g6, g7, g8, g9, g10, -⟩ := pr_Ysettle Z2 hB (p := d) (how := how) (s := s) (n := n) (k := 0) (by rw [hm']; omega) hw (by rw [hm']; exact f7) (pr_free0 Z2)
      rw [← hdd] at g1 g2
      refine ⟨am_sI Sc2 459 (-1), Sr', hEnd Sc2 g1 (g6.1 70 (by omega) (by omega)), hfin, g6.2 461 (by omega), by rw [hS]; rfl, g6.1 68 (by omega) (by omega), Or.inr ⟨rfl, rfl, rfl, by rw [hS]; rfl, fun _ => ⟨Sr2, ?_, ?_, ?_⟩, fun h => by omega⟩⟩
      · have e1 : Sr'.1 4792 = how - 1 := by rw [hS]; rfl
        have e2 : Sr'.1 4790 = s := by rw [hS]; rfl
        have e3 : Sr'.1 4791 = n := by rw [hS]; rfl
        rw [e1, e2, e3]; exact g2
      · exact pr_Y_run g5 (pr_out_sI (pr_out_refl _) (by decide)) (pr_out_refl _)
      · have X3 := pr_RX_core (Sc' := am_sI Sc2 459 (-1)) (Sr' := Sr2) X2 ⟨fun a h1 h2 => g6.1 a h1 h2, fun n hn => by
          by_cases e : n = 459
          · rw [e]; rfl
          · rw [pr_Im _ _ e, pr_Im _ _ e]; exact g6.2 n hn⟩ g7 (by omega) (fun q _ => by rw [g10]) (fun r h1 h2 => by omega) g9
        exact X3
    · have hdn1 : dn = -1 := by omega
      have hset : sf_X3_settleBy dn how (pr_V s n) 0 Sc = some Sc := by rw [hdn1]; exact pr_settle_none (by omega) _ _
      exact ⟨am_sI Sc 459 (-1), Sr', hEnd Sc hset rfl, hfin, rfl, by rw [hS]; rfl, rfl, Or.inr ⟨rfl, rfl, rfl, by rw [hS]; rfl, fun h => by omega, fun _ => ⟨pr_Y_mono Zi (by omega) hB, X2⟩⟩⟩
  · -- one that was STARTED
    obtain ⟨g0, g00⟩ := f9 h100
    obtain ⟨Sc2, Sr2, g1, g2, -, -, g5, g6, g7, g8, g9, g10, -⟩ := pr_Ysettle Z1 hB (p := a) (how := how) (s := s) (n := n) (k := 0) g0 hw f7 (pr_free0 Z1)
    refine ⟨am_sI Sc2 459 (pr_top st), Sr2, ?_, ?_, g6.2 461 (by omega), ?_, g6.1 68 (by omega) (by omega), Or.inl ⟨h100, ?_, ?_, ?_⟩⟩
    · unfold sf_X5_end
      have e : ¬ (a : Int) = 100 := by omega
      have e70 : Sc2.2 70 = Sc.2 70 := g6.1 70 (by omega) (by omega)
      rw [if_neg e, pr_van ha, pr_b2, f6, g1, pr_b1, pr_atn ha, pr_b2, e70, htop 0, pr_let]
    · unfold sf_X10_finish
      rw [p1, ← p1, ew 0, p1, pr_gdn hd110, pr_let, Int.toNat_natCast, f1, if_neg h100, if_neg (by omega), g2, pr_b1]
    · rw [g7.2 4789 (by omega) (by omega)]; rfl
    · exact pr_Y_run g5 (pr_out_sI (pr_out_refl _) (by decide)) (pr_out_refl _)
    · have X1 : pr_RX (am_sI Sc 459 (pr_top st)) (am_sI Sr 4788 ((st.length : Int) - 1)) st := ⟨pr_st_keep (Sc := Sc) (Sr := Sr) (Sc' := am_sI Sc 459 (pr_top st)) (Sr' := am_sI Sr 4788 ((st.length : Int) - 1)) (Int.le_refl (Sr.1 4745)) hst (fun _ _ => ⟨rfl, rfl, rfl, rfl⟩) (fun _ _ => ⟨rfl, rfl, rfl, rfl, rfl⟩) (fun _ _ _ _ h => h), rfl, rfl, x4, x5⟩
      exact pr_RX_core (Sc' := am_sI Sc2 459 (pr_top st)) (Sr' := Sr2) X1 ⟨fun a h1 h2 => g6.1 a h1 h2, fun n hn => by
        by_cases e : n = 459
        · rw [e]; rfl
        · rw [pr_Im _ _ e, pr_Im _ _ e]; exact g6.2 n hn⟩ g7 (by omega) (fun q _ => by rw [g10]) (fun r h1 h2 => by
          have h2' : (r : Int) < Sr2.1 4745 := h2
          have h1' : Sr.1 4745 ≤ (r : Int) := h1
          have g8' : Sr2.1 4745 = Sr.1 4745 := g8
          omega) g9
    · have e460 : (am_sI Sc2 459 (pr_top st)).1 460 = Sc.1 460 := g6.2 460 (by omega)
      have em : Sr2.1 4745 = Sr.1 4745 := g8
      refine ⟨fun h => ?_, fun h => hd.2 (fun hm => ?_)⟩
      · rw [e460, em]; exact hd.1 (List.mem_cons_of_mem _ h)
      · rcases List.mem_cons.mp hm with e | e
        · exact h100 e.symm
        · exact h e
/-- a STEP THROWS: the class looks for the END, the reference flings -/
theorem pr_throw {B : Int} {Sc Sr : am_S} {a at' : Nat} {st : List Nat} (Z : pr_Y B Sc Sr) (X : pr_RX Sc Sr (a :: st)) (hp : Sc.2 68 a = (at' : Int) + 1) {s n : Int} (hv : pr_VV (Sr.1 4745) s n) :
    ∃ R : Int, (R = -1 ∨ (at' : Int) + 2 ≤ R ∧ R ≤ 10) ∧ sf_X5_leaveTry (a : Int) (at' : Int) (am_sA Sc 69 a (pr_V s n)) = some (if R = -1 then (0, am_sA Sc 69 a (pr_V s n)) else (1, am_sA (am_sA Sc 69 a (pr_V s n)) 68 a R))
      ∧ sf_X10_fling s n Sr = (if R = -1 then am_b1 (sf_X10_finish 1 s n (am_sA (am_sA Sr 118 st.length s) 119 st.length n)) (fun S3 => some S3) else some (am_sA (am_sA (am_sA Sr 118 st.length s) 119 st.length n) 117 st.length R))
      ∧ pr_Y B (am_sA Sc 69 a (pr_V s n)) (am_sA (am_sA Sr 118 st.length s) 119 st.length n) ∧ pr_RX (am_sA Sc 69 a (pr_V s n)) (am_sA (am_sA Sr 118 st.length s) 119 st.length n) (a :: st)
      ∧ (R ≠ -1 → pr_Y B (am_sA (am_sA Sc 69 a (pr_V s n)) 68 a R) (am_sA (am_sA (am_sA Sr 118 st.length s) 119 st.length n) 117 st.length R) ∧ pr_RX (am_sA (am_sA Sc 69 a (pr_V s n)) 68 a R) (am_sA (am_sA (am_sA Sr 118 st.length s) 119 st.length n) 117 st.length R) (a :: st)) := by
  obtain ⟨p1, p2, p3, p4⟩ := pr_RX_pos X
  obtain ⟨m1, m2, m3, m4, m5⟩ := pr_Y_m Z
  have hX1 := pr_setX X m3 hv
  obtain ⟨f1, f2, f3, f4, f5, -⟩ := X.1.1
  obtain ⟨f, hf⟩ : ∃ f : Nat, Sc.2 67 a = (f : Int) := ⟨(Sc.2 67 a).toNat, by omega⟩
  have hf10 : f < 10 := by omega
  have hat : at' ≤ 10 := by omega
  have hd110 : st.length < 110 := by omega
  have hoC : pr_out [459, 460, 461] [67, 68, 69, 70] Sc (am_sA Sc 69 a (pr_V s n)) := pr_out_sA (pr_out_refl _) (by decide)
  have hoR : pr_out [4788, 4789, 4790, 4791, 4792] [79, 80, 83, 116, 117, 118, 119, 120] Sr (am_sA (am_sA Sr 118 st.length s) 119 st.length n) := pr_out_sA (pr_out_sA (pr_out_refl _) (by decide)) (by decide)
  have hY1 := pr_Y_run Z hoC hoR
  have F : pr_RF (am_sA Sc 69 a (pr_V s n)) Sr := by
    intro x hx
    exact Z.2.1.2.1 x hx
  have hN := (Z.2.1.2.1 f hf10).2
  have hfl := pr_find_le Sr f at' hN.2.1
  have hbt := pr_behindTry F hf10 hat
  obtain ⟨N, hNN⟩ : ∃ N : Nat, Sr.2 98 f = (N : Int) := ⟨(Sr.2 98 f).toNat, by omega⟩
  have hloop := pr_fling_loop (Sr := am_sA (am_sA Sr 118 st.length s) 119 st.length n) (f := f) (N := N) (at' := at') (d := st.length) (s := s) (n := n) hf10 hNN (by omega) hat p1 hd110 at' 1000 (Nat.le_refl _) (by omega)
  have hKK : pr_K (am_sA (am_sA Sr 118 st.length s) 119 st.length n) f = pr_K Sr f := rfl
  rw [hKK, pr_Q_find] at hloop
  refine ⟨pr_find (pr_K Sr f) at', hfl, ?_, ?_, hY1, hX1, fun hR => ⟨?_, ?_⟩⟩
  · unfold sf_X5_leaveTry
    have e67 : am_w32 ((am_sA Sc 69 a (pr_V s n)).2 67 a) = (f : Int) := by
      show am_w32 (Sc.2 67 a) = (f : Int)
      rw [hf, pr_w (by omega) (by omega)]
    rw [pr_atn p3, pr_b2, e67, hbt, pr_b2]
    by_cases hR : pr_find (pr_K Sr f) at' = -1
    · rw [if_pos hR, if_pos hR]
    · rw [if_neg hR, if_neg hR, pr_putn p3, pr_b1]
  · unfold sf_X10_fling
    have e16 : Sr.2 116 st.length = (f : Int) := f2.trans hf
    have e17 : Sr.2 117 st.length = (at' : Int) + 1 := f4.trans hp
    have ew1 : ∀ _ : Nat, am_w32 ((at' : Int) + 1 - 1) = (at' : Int) := fun _ => by rw [pr_w (by omega) (by omega)]; omega
    have ew2 : ∀ _ : Nat, am_w32 ((at' : Int) - 1) = (at' : Int) - 1 := fun _ => pr_w (by omega) (by omega)
    rw [p1, pr_gdn hd110, pr_gdn hd110, pr_putR p1 hd110, pr_b1, Int.toNat_natCast, e16, e17, ew1 0, ew2 0]
    exact hloop
  · exact pr_Y_run hY1 (pr_out_sA (pr_out_refl _) (by decide)) (pr_out_sA (pr_out_refl _) (by decide))
  · exact pr_setP hX1 m3 (by rcases hfl with h | h; exact absurd h hR; omega)
