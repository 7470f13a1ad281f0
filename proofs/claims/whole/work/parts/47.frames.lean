/-! what each function leaves alone; printed by gen47.py from the functions' text -/
def pr_kc (S S' : am_S) : Prop := (∀ a, 75 ≤ a → S'.2 a = S.2 a) ∧ (∀ n, 4745 ≤ n → S'.1 n = S.1 n)
def pr_kr (S S' : am_S) : Prop := (∀ a, a ≤ 73 → S'.2 a = S.2 a) ∧ (∀ n, n ≤ 461 → S'.1 n = S.1 n)
def pr_F1 (R : am_S → Prop) (o : Option am_S) : Prop := ∀ S', o = some S' → R S'
def pr_F2 (R : am_S → Prop) (o : Option (Int × am_S)) : Prop := ∀ x S', o = some (x, S') → R S'
theorem pr_kc_sA {S0 S : am_S} {a j : Nat} {x : Int} (h : pr_kc S0 S) (ha : a < 75) : pr_kc S0 (am_sA S a j x) := by
  refine ⟨fun b hb => ?_, fun n hn => h.2 n hn⟩
  have : am_up S.2 a (am_up (S.2 a) j x) b = S.2 b := am_up_ne _ _ (by omega)
  exact this.trans (h.1 b hb)
theorem pr_kc_sI {S0 S : am_S} {n : Nat} {x : Int} (h : pr_kc S0 S) (hn : n < 4745) : pr_kc S0 (am_sI S n x) := by
  refine ⟨fun b hb => h.1 b hb, fun k hk => ?_⟩
  have : am_up S.1 n x k = S.1 k := am_up_ne _ _ (by omega)
  exact this.trans (h.2 k hk)
theorem pr_kr_sA {S0 S : am_S} {a j : Nat} {x : Int} (h : pr_kr S0 S) (ha : 73 < a) : pr_kr S0 (am_sA S a j x) := by
  refine ⟨fun b hb => ?_, fun n hn => h.2 n hn⟩
  have : am_up S.2 a (am_up (S.2 a) j x) b = S.2 b := am_up_ne _ _ (by omega)
  exact this.trans (h.1 b hb)
theorem pr_kr_sI {S0 S : am_S} {n : Nat} {x : Int} (h : pr_kr S0 S) (hn : 461 < n) : pr_kr S0 (am_sI S n x) := by
  refine ⟨fun b hb => h.1 b hb, fun k hk => ?_⟩
  have : am_up S.1 n x k = S.1 k := am_up_ne _ _ (by omega)
  exact this.trans (h.2 k hk)
theorem pr_Fn1 {R : am_S → Prop} : pr_F1 R none := fun _ h => by cases h
theorem pr_Fn2 {R : am_S → Prop} : pr_F2 R none := fun _ _ h => by cases h
theorem pr_Fs1 {R : am_S → Prop} {S : am_S} (h : R S) : pr_F1 R (some S) := fun _ e => by cases e; exact h
theorem pr_Fs2 {R : am_S → Prop} {x : Int} {S : am_S} (h : R S) : pr_F2 R (some (x, S)) := fun _ _ e => by cases e; exact h
theorem pr_Fl1 {R : am_S → Prop} {S : am_S} {f : am_S → Option am_S} (h : R S) (k : ∀ S', R S' → pr_F1 R (f S')) : pr_F1 R (am_let S f) := k S h
theorem pr_Fl2 {R : am_S → Prop} {S : am_S} {f : am_S → Option (Int × am_S)} (h : R S) (k : ∀ S', R S' → pr_F2 R (f S')) : pr_F2 R (am_let S f) := k S h
theorem pr_Fi1 {R : am_S → Prop} {c : Prop} [Decidable c] {a b : Option am_S} (ha : pr_F1 R a) (hb : pr_F1 R b) : pr_F1 R (if c then a else b) := by
  by_cases h : c
  · rw [if_pos h]; exact ha
  · rw [if_neg h]; exact hb
theorem pr_Fg1 {R : am_S → Prop} {i : Int} {n : Nat} {f : Option am_S} (h : pr_F1 R f) : pr_F1 R (am_gd i n f) := pr_Fi1 h pr_Fn1
theorem pr_Fz1 {R : am_S → Prop} {i : Int} {f : Option am_S} (h : pr_F1 R f) : pr_F1 R (am_gz i f) := pr_Fi1 h pr_Fn1
theorem pr_F31 {R : am_S → Prop} {i : Int} {f : Option am_S} (h : pr_F1 R f) : pr_F1 R (am_g32 i f) := pr_Fi1 h pr_Fn1
theorem pr_Fo1 {R : am_S → Prop} {x y : Int} {f : Option am_S} (h : pr_F1 R f) : pr_F1 R (am_glo x y f) := pr_Fi1 h pr_Fn1
theorem pr_Fb11 {R : am_S → Prop} {o : Option am_S} {f : am_S → Option am_S} (h : pr_F1 R o) (k : ∀ S', R S' → pr_F1 R (f S')) : pr_F1 R (am_b1 o f) := by
  cases o with
  | none => exact pr_Fn1
  | some S => exact k S (h S rfl)
theorem pr_Fb21 {R : am_S → Prop} {o : Option (Int × am_S)} {f : Int → am_S → Option am_S} (h : pr_F2 R o) (k : ∀ x S', R S' → pr_F1 R (f x S')) : pr_F1 R (am_b2 o f) := by
  cases o with
  | none => exact pr_Fn1
  | some q => exact k q.1 q.2 (h q.1 q.2 rfl)
theorem pr_Fi2 {R : am_S → Prop} {c : Prop} [Decidable c] {a b : Option (Int × am_S)} (ha : pr_F2 R a) (hb : pr_F2 R b) : pr_F2 R (if c then a else b) := by
  by_cases h : c
  · rw [if_pos h]; exact ha
  · rw [if_neg h]; exact hb
theorem pr_Fg2 {R : am_S → Prop} {i : Int} {n : Nat} {f : Option (Int × am_S)} (h : pr_F2 R f) : pr_F2 R (am_gd i n f) := pr_Fi2 h pr_Fn2
theorem pr_Fz2 {R : am_S → Prop} {i : Int} {f : Option (Int × am_S)} (h : pr_F2 R f) : pr_F2 R (am_gz i f) := pr_Fi2 h pr_Fn2
theorem pr_F32 {R : am_S → Prop} {i : Int} {f : Option (Int × am_S)} (h : pr_F2 R f) : pr_F2 R (am_g32 i f) := pr_Fi2 h pr_Fn2
theorem pr_Fo2 {R : am_S → Prop} {x y : Int} {f : Option (Int × am_S)} (h : pr_F2 R f) : pr_F2 R (am_glo x y f) := pr_Fi2 h pr_Fn2
theorem pr_Fb12 {R : am_S → Prop} {o : Option am_S} {f : am_S → Option (Int × am_S)} (h : pr_F1 R o) (k : ∀ S', R S' → pr_F2 R (f S')) : pr_F2 R (am_b1 o f) := by
  cases o with
  | none => exact pr_Fn2
  | some S => exact k S (h S rfl)
theorem pr_Fb22 {R : am_S → Prop} {o : Option (Int × am_S)} {f : Int → am_S → Option (Int × am_S)} (h : pr_F2 R o) (k : ∀ x S', R S' → pr_F2 R (f x S')) : pr_F2 R (am_b2 o f) := by
  cases o with
  | none => exact pr_Fn2
  | some q => exact k q.1 q.2 (h q.1 q.2 rfl)
theorem pr_kf_X9_isWithin (a1 : Int) (a2 : Int) (S0 S : am_S) (hS : pr_kc S0 S) : pr_F2 (pr_kc S0) (sf_X9_isWithin a1 a2 S) := by
  unfold sf_X9_isWithin
  exact (pr_Fi2 (pr_Fs2 hS) (pr_Fi2 (pr_Fs2 hS) (pr_Fs2 hS)))
theorem pr_kf_X8_exists (a1 : Int) (a2 : Int) (a3 : Int) (S0 S : am_S) (hS : pr_kc S0 S) : pr_F2 (pr_kc S0) (sf_X8_exists a1 a2 a3 S) := by
  unfold sf_X8_exists
  exact (pr_Fi2 (pr_Fs2 hS) (pr_Fi2 (pr_Fb22 (pr_kf_X9_isWithin _ _ S0 S hS) (fun x3 S2 hS2 => (pr_Fz2 (pr_Fs2 hS2)))) (pr_Fi2 (pr_Fb22 (pr_kf_X9_isWithin _ _ S0 S hS) (fun x6 S5 hS5 => (pr_Fz2 (pr_Fs2 hS5)))) (pr_Fs2 hS))))
theorem pr_kf_X9_isFunction (a1 : Int) (S0 S : am_S) (hS : pr_kc S0 S) : pr_F2 (pr_kc S0) (sf_X9_isFunction a1 S) := by
  unfold sf_X9_isFunction
  exact (pr_Fb22 (pr_kf_X9_isWithin _ _ S0 S hS) (fun x2 S1 hS1 => (pr_Fz2 (pr_Fs2 hS1))))
theorem pr_kf_X0_mayBeStep (a1 : Int) (a2 : Int) (a3 : Int) (S0 S : am_S) (hS : pr_kc S0 S) : pr_F2 (pr_kc S0) (sf_X0_mayBeStep a1 a2 a3 S) := by
  unfold sf_X0_mayBeStep
  exact (pr_Fi2 (pr_Fb22 (pr_kf_X8_exists _ _ _ S0 S hS) (fun x6 S5 hS5 => (pr_Fz2 (pr_Fs2 hS5)))) (pr_Fi2 (pr_Fb22 (pr_kf_X9_isFunction _ S0 S hS) (fun x9 S8 hS8 => (pr_Fz2 (pr_Fs2 hS8)))) (pr_Fi2 (pr_Fb22 (pr_kf_X9_isWithin _ _ S0 S hS) (fun x12 S11 hS11 => (pr_Fz2 (pr_Fs2 hS11)))) (pr_Fi2 (pr_Fb22 (pr_kf_X9_isWithin _ _ S0 S hS) (fun x15 S14 hS14 => (pr_Fz2 (pr_Fs2 hS14)))) (pr_Fi2 (pr_Fb22 (pr_kf_X9_isFunction _ S0 S hS) (fun x18 S17 hS17 => (pr_Fz2 (pr_Fs2 hS17)))) (pr_Fi2 (pr_Fb22 (pr_kf_X9_isFunction _ S0 S hS) (fun x21 S20 hS20 => (pr_Fz2 (pr_Fs2 hS20)))) (pr_Fi2 (pr_Fb22 (pr_kf_X9_isWithin _ _ S0 S hS) (fun x24 S23 hS23 => (pr_Fz2 (pr_Fs2 hS23)))) (pr_Fi2 (pr_Fb22 (pr_kf_X9_isWithin _ _ S0 S hS) (fun x27 S26 hS26 => (pr_Fz2 (pr_Fs2 hS26)))) (pr_Fb22 (pr_kf_X9_isWithin _ _ S0 S hS) (fun x3 S2 hS2 => (pr_Fz2 (pr_Fs2 hS2))))))))))))
theorem pr_kf_X4_at (a n : Nat) (ha : a < 75) (a1 : Int) (S0 S : am_S) (hS : pr_kc S0 S) : pr_F2 (pr_kc S0) (sf_X4_at a n a1 S) := by
  unfold sf_X4_at
  exact (pr_Fi2 (pr_Fs2 hS) (pr_Fi2 (pr_Fs2 hS) (pr_Fg2 (pr_Fs2 hS))))
theorem pr_kf_X0_isFull (a1 : Int) (S0 S : am_S) (hS : pr_kc S0 S) : pr_F2 (pr_kc S0) (sf_X0_isFull a1 S) := by
  unfold sf_X0_isFull
  exact (pr_Fb22 (pr_kf_X4_at 55 10 (by decide) _ S0 S hS) (fun x2 S1 hS1 => (pr_Fi2 (pr_Fs2 hS1) (pr_Fs2 hS1))))
theorem pr_kf_X4_put (a n : Nat) (ha : a < 75) (a1 : Int) (a2 : Int) (S0 S : am_S) (hS : pr_kc S0 S) : pr_F1 (pr_kc S0) (sf_X4_put a n a1 a2 S) := by
  unfold sf_X4_put
  exact (pr_Fi1 (pr_Fs1 hS) (pr_Fi1 (pr_Fs1 hS) (pr_Fg1 (pr_Fl1 (pr_kc_sA hS ha) (fun S1 hS1 => (pr_Fs1 hS1))))))
theorem pr_kf_X0_add (a1 : Int) (a2 : Int) (a3 : Int) (S0 S : am_S) (hS : pr_kc S0 S) : pr_F2 (pr_kc S0) (sf_X0_add a1 a2 a3 S) := by
  unfold sf_X0_add
  exact (pr_Fb22 (pr_kf_X4_at 55 10 (by decide) _ S0 S hS) (fun x2 S1 hS1 => (pr_Fb12 (pr_kf_X4_put 56 100 (by decide) _ _ S0 S1 hS1) (fun S4 hS4 => (pr_Fb12 (pr_kf_X4_put 57 100 (by decide) _ _ S0 S4 hS4) (fun S6 hS6 => (pr_Fb12 (pr_kf_X4_put 55 10 (by decide) _ _ S0 S6 hS6) (fun S8 hS8 => (pr_Fs2 hS8)))))))))
theorem pr_kf_X0_removeAll (a1 : Int) (S0 S : am_S) (hS : pr_kc S0 S) : pr_F2 (pr_kc S0) (sf_X0_removeAll a1 S) := by
  unfold sf_X0_removeAll
  exact (pr_Fb22 (pr_kf_X4_at 55 10 (by decide) _ S0 S hS) (fun x2 S1 hS1 => (pr_Fb12 (pr_kf_X4_put 55 10 (by decide) _ _ S0 S1 hS1) (fun S4 hS4 => (pr_Fs2 hS4)))))
theorem pr_kf_X0_sizeOf (a1 : Int) (S0 S : am_S) (hS : pr_kc S0 S) : pr_F2 (pr_kc S0) (sf_X0_sizeOf a1 S) := by
  unfold sf_X0_sizeOf
  exact (pr_Fb22 (pr_kf_X4_at 55 10 (by decide) _ S0 S hS) (fun x2 S1 hS1 => (pr_Fs2 hS1)))
theorem pr_kf_X0_kindOf (a1 : Int) (a2 : Int) (S0 S : am_S) (hS : pr_kc S0 S) : pr_F2 (pr_kc S0) (sf_X0_kindOf a1 a2 S) := by
  unfold sf_X0_kindOf
  exact (pr_Fb22 (pr_kf_X4_at 56 100 (by decide) _ S0 S hS) (fun x2 S1 hS1 => (pr_Fs2 hS1)))
theorem pr_kf_X4_valueAt (a n : Nat) (ha : a < 75) (a1 : Int) (S0 S : am_S) (hS : pr_kc S0 S) : pr_F2 (pr_kc S0) (sf_X4_valueAt a n a1 S) := by
  unfold sf_X4_valueAt
  exact (pr_Fi2 (pr_Fs2 hS) (pr_Fi2 (pr_Fs2 hS) (pr_Fg2 (pr_Fs2 hS))))
theorem pr_kf_X0_valueOf (a1 : Int) (a2 : Int) (S0 S : am_S) (hS : pr_kc S0 S) : pr_F2 (pr_kc S0) (sf_X0_valueOf a1 a2 S) := by
  unfold sf_X0_valueOf
  exact (pr_Fb22 (pr_kf_X4_valueAt 57 100 (by decide) _ S0 S hS) (fun x2 S1 hS1 => (pr_Fs2 hS1)))
theorem pr_kf_X0_behindTry_8 : ∀ (fu : Nat) (b1 : Int) (b2 : Int) (b3 : Int) (b4 : Int) (b5 : Int) (S0 S : am_S), pr_kc S0 S → pr_F2 (pr_kc S0) (sf_X0_behindTry_8 fu b1 b2 b3 b4 b5 S) := by
  intro fu
  induction fu with
  | zero => intro b1 b2 b3 b4 b5 S0 S hS; exact pr_Fn2
  | succ fu ih =>
    intro b1 b2 b3 b4 b5 S0 S hS
    simp only [sf_X0_behindTry_8]
    exact (pr_Fb22 (pr_kf_X4_at 55 10 (by decide) _ S0 S hS) (fun x2 S1 hS1 => (pr_Fi2 (pr_Fs2 hS1) (pr_Fb22 (pr_kf_X0_kindOf _ _ S0 S1 hS1) (fun x5 S4 hS4 => (pr_Fi2 (pr_Fi2 (pr_Fi2 (ih _ _ _ _ _ S0 S4 hS4) (pr_Fi2 (pr_Fi2 (pr_Fi2 (pr_Fi2 (ih _ _ _ _ _ S0 S4 hS4) (pr_Fi2 (ih _ _ _ _ _ S0 S4 hS4) (pr_Fs2 hS4))) (ih _ _ _ _ _ S0 S4 hS4)) (ih _ _ _ _ _ S0 S4 hS4)) (pr_Fi2 (pr_Fi2 (ih _ _ _ _ _ S0 S4 hS4) (pr_Fi2 (ih _ _ _ _ _ S0 S4 hS4) (pr_Fs2 hS4))) (ih _ _ _ _ _ S0 S4 hS4)))) (ih _ _ _ _ _ S0 S4 hS4)) (pr_Fi2 (ih _ _ _ _ _ S0 S4 hS4) (pr_Fi2 (pr_Fi2 (pr_Fi2 (pr_Fi2 (ih _ _ _ _ _ S0 S4 hS4) (pr_Fi2 (ih _ _ _ _ _ S0 S4 hS4) (pr_Fs2 hS4))) (ih _ _ _ _ _ S0 S4 hS4)) (ih _ _ _ _ _ S0 S4 hS4)) (pr_Fi2 (pr_Fi2 (ih _ _ _ _ _ S0 S4 hS4) (pr_Fi2 (ih _ _ _ _ _ S0 S4 hS4) (pr_Fs2 hS4))) (ih _ _ _ _ _ S0 S4 hS4))))))))))
theorem pr_kf_X0_behindTry (a1 : Int) (a2 : Int) (S0 S : am_S) (hS : pr_kc S0 S) : pr_F2 (pr_kc S0) (sf_X0_behindTry a1 a2 S) := by
  unfold sf_X0_behindTry
  exact (pr_kf_X0_behindTry_8 1000 _ _ _ _ _ S0 S hS)
theorem pr_kf_X1_clear (S0 S : am_S) (hS : pr_kc S0 S) : pr_F1 (pr_kc S0) (sf_X1_clear S) := by
  unfold sf_X1_clear
  exact (pr_Fl1 (pr_kc_sI hS (by decide)) (fun S1 hS1 => (pr_Fs1 hS1)))
theorem pr_kf_X1_items (S0 S : am_S) (hS : pr_kc S0 S) : pr_F2 (pr_kc S0) (sf_X1_items S) := by
  unfold sf_X1_items
  exact (pr_Fs2 hS)
theorem pr_kf_X1_isFull (S0 S : am_S) (hS : pr_kc S0 S) : pr_F2 (pr_kc S0) (sf_X1_isFull S) := by
  unfold sf_X1_isFull
  exact (pr_Fi2 (pr_Fs2 hS) (pr_Fs2 hS))
theorem pr_kf_X1_addItem (a1 : Int) (S0 S : am_S) (hS : pr_kc S0 S) : pr_F2 (pr_kc S0) (sf_X1_addItem a1 S) := by
  unfold sf_X1_addItem
  exact (pr_Fb12 (pr_kf_X4_put 63 5 (by decide) _ _ S0 S hS) (fun S1 hS1 => (pr_Fl2 (pr_kc_sI hS1 (by decide)) (fun S3 hS3 => (pr_Fs2 hS3)))))
theorem pr_kf_X3_made (S0 S : am_S) (hS : pr_kc S0 S) : pr_F2 (pr_kc S0) (sf_X3_made S) := by
  unfold sf_X3_made
  exact (pr_Fs2 hS)
theorem pr_kf_X8_sortOf (a1 : Int) (S0 S : am_S) (hS : pr_kc S0 S) : pr_F2 (pr_kc S0) (sf_X8_sortOf a1 S) := by
  unfold sf_X8_sortOf
  exact (pr_Fs2 hS)
theorem pr_kf_X1_hasRoom_12 : ∀ (fu : Nat) (b1 : Int) (b2 : Int) (S0 S : am_S), pr_kc S0 S → pr_F2 (pr_kc S0) (sf_X1_hasRoom_12 fu b1 b2 S) := by
  intro fu
  induction fu with
  | zero => intro b1 b2 S0 S hS; exact pr_Fn2
  | succ fu ih =>
    intro b1 b2 S0 S hS
    simp only [sf_X1_hasRoom_12]
    exact (pr_Fi2 (pr_Fi2 (pr_Fs2 hS) (pr_Fs2 hS)) (pr_Fb22 (pr_kf_X4_valueAt 63 5 (by decide) _ S0 S hS) (fun x5 S4 hS4 => (pr_Fb22 (pr_kf_X8_sortOf _ S0 S4 hS4) (fun x8 S7 hS7 => (pr_Fi2 (ih _ _ S0 S7 hS7) (ih _ _ S0 S7 hS7)))))))
theorem pr_kf_X1_hasRoom (S0 S : am_S) (hS : pr_kc S0 S) : pr_F2 (pr_kc S0) (sf_X1_hasRoom S) := by
  unfold sf_X1_hasRoom
  exact (pr_Fb22 (pr_kf_X3_made  S0 S hS) (fun x2 S1 hS1 => (pr_kf_X1_hasRoom_12 1000 _ _ S0 S1 hS1)))
theorem pr_kf_X3_has (a1 : Int) (S0 S : am_S) (hS : pr_kc S0 S) : pr_F2 (pr_kc S0) (sf_X3_has a1 S) := by
  unfold sf_X3_has
  exact (pr_Fb22 (pr_kf_X9_isWithin _ _ S0 S hS) (fun x2 S1 hS1 => (pr_Fz2 (pr_Fs2 hS1))))
theorem pr_kf_X3_isKeyUsed (a1 : Int) (S0 S : am_S) (hS : pr_kc S0 S) : pr_F2 (pr_kc S0) (sf_X3_isKeyUsed a1 S) := by
  unfold sf_X3_isKeyUsed
  exact (pr_Fb22 (pr_kf_X4_at 44 100 (by decide) _ S0 S hS) (fun x2 S1 hS1 => (pr_Fi2 (pr_Fs2 hS1) (pr_Fs2 hS1))))
theorem pr_kf_X3_lineUp (a1 : Int) (a2 : Int) (a3 : Int) (S0 S : am_S) (hS : pr_kc S0 S) : pr_F1 (pr_kc S0) (sf_X3_lineUp a1 a2 a3 S) := by
  unfold sf_X3_lineUp
  exact (pr_Fi1 (pr_Fs1 hS) (pr_Fi1 (pr_Fl1 (pr_kc_sI hS (by decide)) (fun S5 hS5 => (pr_Fl1 (pr_kc_sI hS5 (by decide)) (fun S6 hS6 => (pr_Fl1 (pr_kc_sI hS6 (by decide)) (fun S7 hS7 => (pr_Fs1 hS7))))))) (pr_Fb11 (pr_kf_X4_put 50 900 (by decide) _ _ S0 S hS) (fun S1 hS1 => (pr_Fl1 (pr_kc_sI hS1 (by decide)) (fun S3 hS3 => (pr_Fl1 (pr_kc_sI hS3 (by decide)) (fun S4 hS4 => (pr_Fs1 hS4)))))))))
theorem pr_kf_X8_of (a1 : Int) (a2 : Int) (S0 S : am_S) (hS : pr_kc S0 S) : pr_F2 (pr_kc S0) (sf_X8_of a1 a2 S) := by
  unfold sf_X8_of
  exact (pr_F32 (pr_Fo2 (pr_Fs2 hS)))
theorem pr_kf_X9_jobOf (a1 : Int) (a2 : Int) (S0 S : am_S) (hS : pr_kc S0 S) : pr_F2 (pr_kc S0) (sf_X9_jobOf a1 a2 S) := by
  unfold sf_X9_jobOf
  exact (pr_Fs2 hS)
theorem pr_kf_X3_settleBy_141 (b1 : Int) (t0 : Int) (t1 : Int) (S0 S : am_S) (hS : pr_kc S0 S) : pr_F1 (pr_kc S0) (sf_X3_settleBy_141 b1 t0 t1 S) := by
  unfold sf_X3_settleBy_141
  exact (pr_Fb11 (pr_kf_X4_put 42 100 (by decide) _ _ S0 S hS) (fun S33 hS33 => (pr_Fb21 (pr_kf_X4_at 48 100 (by decide) _ S0 S33 hS33) (fun x36 S35 hS35 => (pr_Fb21 (pr_kf_X4_at 49 100 (by decide) _ S0 S35 hS35) (fun x39 S38 hS38 => (pr_Fb21 (pr_kf_X4_at 47 100 (by decide) _ S0 S38 hS38) (fun x42 S41 hS41 => (pr_Fb11 (pr_kf_X3_lineUp _ _ _ S0 S41 hS41) (fun S44 hS44 => (pr_Fb11 (pr_kf_X4_put 47 100 (by decide) _ _ S0 S44 hS44) (fun S46 hS46 => (pr_Fs1 hS46)))))))))))))
theorem pr_kf_X3_settleBy_111 (b1 : Int) (b3 : Int) (b6 : Int) (b7 : Int) (S0 S : am_S) (hS : pr_kc S0 S) : pr_F1 (pr_kc S0) (sf_X3_settleBy_111 b1 b3 b6 b7 S) := by
  unfold sf_X3_settleBy_111
  exact (pr_Fb11 (pr_kf_X4_put 41 100 (by decide) _ _ S0 S hS) (fun S28 hS28 => (pr_Fi1 (pr_kf_X3_settleBy_141 _ _ _ S0 S28 hS28) (pr_Fb21 (pr_kf_X8_of _ _ S0 S28 hS28) (fun x31 S30 hS30 => (pr_kf_X3_settleBy_141 _ _ _ S0 S30 hS30))))))
theorem pr_kf_X3_settleBy_71 (b1 : Int) (b3 : Int) (b6 : Int) (t0 : Int) (S0 S : am_S) (hS : pr_kc S0 S) : pr_F1 (pr_kc S0) (sf_X3_settleBy_71 b1 b3 b6 t0 S) := by
  unfold sf_X3_settleBy_71
  exact (pr_Fi1 (pr_Fb21 (pr_kf_X8_sortOf _ S0 S hS) (fun x16 S15 hS15 => (pr_Fi1 (pr_kf_X3_settleBy_111 _ _ _ _ S0 S15 hS15) (pr_Fb11 (pr_kf_X4_put 46 100 (by decide) _ _ S0 S15 hS15) (fun S18 hS18 => (pr_Fb21 (pr_kf_X9_jobOf _ _ S0 S18 hS18) (fun x21 S20 hS20 => (pr_Fb21 (pr_kf_X9_jobOf _ _ S0 S20 hS20) (fun x24 S23 hS23 => (pr_Fb11 (pr_kf_X3_lineUp _ _ _ S0 S23 hS23) (fun S26 hS26 => (pr_Fs1 hS26)))))))))))) (pr_kf_X3_settleBy_111 _ _ _ _ S0 S hS))
theorem pr_kf_X3_settleBy (a1 : Int) (a2 : Int) (a3 : Int) (a4 : Int) (S0 S : am_S) (hS : pr_kc S0 S) : pr_F1 (pr_kc S0) (sf_X3_settleBy a1 a2 a3 a4 S) := by
  unfold sf_X3_settleBy
  exact (pr_Fb21 (pr_kf_X3_has _ S0 S hS) (fun x2 S1 hS1 => (pr_Fi1 (pr_Fs1 hS1) (pr_Fb21 (pr_kf_X4_at 43 100 (by decide) _ S0 S1 hS1) (fun x5 S4 hS4 => (pr_Fi1 (pr_Fb21 (pr_kf_X3_isKeyUsed _ S0 S4 hS4) (fun x8 S7 hS7 => (pr_Fi1 (pr_Fb11 (pr_kf_X4_put 44 100 (by decide) _ _ S0 S7 hS7) (fun S10 hS10 => (pr_Fi1 (pr_Fb21 (pr_kf_X8_of _ _ S0 S10 hS10) (fun x13 S12 hS12 => (pr_Fi1 (pr_kf_X3_settleBy_71 _ _ _ _ S0 S12 hS12) (pr_kf_X3_settleBy_71 _ _ _ _ S0 S12 hS12)))) (pr_kf_X3_settleBy_71 _ _ _ _ S0 S10 hS10)))) (pr_Fs1 hS7)))) (pr_Fs1 hS4)))))))
theorem pr_kf_X1_settleIfComplete (a1 : Int) (S0 S : am_S) (hS : pr_kc S0 S) : pr_F1 (pr_kc S0) (sf_X1_settleIfComplete a1 S) := by
  unfold sf_X1_settleIfComplete
  exact (pr_Fb21 (pr_kf_X4_at 65 100 (by decide) _ S0 S hS) (fun x2 S1 hS1 => (pr_Fi1 (pr_Fs1 hS1) (pr_Fb21 (pr_kf_X4_at 64 100 (by decide) _ S0 S1 hS1) (fun x5 S4 hS4 => (pr_Fi1 (pr_Fs1 hS4) (pr_Fb21 (pr_kf_X4_at 64 100 (by decide) _ S0 S4 hS4) (fun x8 S7 hS7 => (pr_Fi1 (pr_Fb21 (pr_kf_X8_of _ _ S0 S7 hS7) (fun x19 S18 hS18 => (pr_Fb11 (pr_kf_X3_settleBy _ _ _ _ S0 S18 hS18) (fun S21 hS21 => (pr_Fs1 hS21))))) (pr_Fb21 (pr_kf_X4_at 66 100 (by decide) _ S0 S7 hS7) (fun x11 S10 hS10 => (pr_Fb21 (pr_kf_X8_of _ _ S0 S10 hS10) (fun x14 S13 hS13 => (pr_Fb11 (pr_kf_X3_settleBy _ _ _ _ S0 S13 hS13) (fun S16 hS16 => (pr_Fs1 hS16))))))))))))))))
theorem pr_kf_X3_make (S0 S : am_S) (hS : pr_kc S0 S) : pr_F2 (pr_kc S0) (sf_X3_make S) := by
  unfold sf_X3_make
  exact (pr_Fb12 (pr_kf_X4_put 41 100 (by decide) _ _ S0 S hS) (fun S1 hS1 => (pr_Fb12 (pr_kf_X4_put 42 100 (by decide) _ _ S0 S1 hS1) (fun S3 hS3 => (pr_Fb12 (pr_kf_X4_put 43 100 (by decide) _ _ S0 S3 hS3) (fun S5 hS5 => (pr_Fb12 (pr_kf_X4_put 44 100 (by decide) _ _ S0 S5 hS5) (fun S7 hS7 => (pr_Fb12 (pr_kf_X4_put 45 100 (by decide) _ _ S0 S7 hS7) (fun S9 hS9 => (pr_Fb12 (pr_kf_X4_put 47 100 (by decide) _ _ S0 S9 hS9) (fun S11 hS11 => (pr_Fl2 (pr_kc_sI hS11 (by decide)) (fun S13 hS13 => (pr_Fs2 hS13)))))))))))))))
theorem pr_kf_X8_numberOf (a1 : Int) (S0 S : am_S) (hS : pr_kc S0 S) : pr_F2 (pr_kc S0) (sf_X8_numberOf a1 S) := by
  unfold sf_X8_numberOf
  exact (pr_Fs2 hS)
theorem pr_kf_X3_promiseFor (a1 : Int) (S0 S : am_S) (hS : pr_kc S0 S) : pr_F2 (pr_kc S0) (sf_X3_promiseFor a1 S) := by
  unfold sf_X3_promiseFor
  exact (pr_Fb22 (pr_kf_X8_sortOf _ S0 S hS) (fun x2 S1 hS1 => (pr_Fi2 (pr_Fb22 (pr_kf_X8_numberOf _ S0 S1 hS1) (fun x10 S9 hS9 => (pr_Fs2 hS9))) (pr_Fb22 (pr_kf_X3_make  S0 S1 hS1) (fun x5 S4 hS4 => (pr_Fb12 (pr_kf_X3_settleBy _ _ _ _ S0 S4 hS4) (fun S7 hS7 => (pr_Fs2 hS7))))))))
theorem pr_kf_X3_waitFor_81 (b1 : Int) (b2 : Int) (b3 : Int) (S0 S : am_S) (hS : pr_kc S0 S) : pr_F1 (pr_kc S0) (sf_X3_waitFor_81 b1 b2 b3 S) := by
  unfold sf_X3_waitFor_81
  exact (pr_Fb11 (pr_kf_X4_put 49 100 (by decide) _ _ S0 S hS) (fun S20 hS20 => (pr_Fb11 (pr_kf_X4_put 47 100 (by decide) _ _ S0 S20 hS20) (fun S22 hS22 => (pr_Fs1 hS22)))))
theorem pr_kf_X3_waitFor (a1 : Int) (a2 : Int) (S0 S : am_S) (hS : pr_kc S0 S) : pr_F1 (pr_kc S0) (sf_X3_waitFor a1 a2 S) := by
  unfold sf_X3_waitFor
  exact (pr_Fb11 (pr_kf_X4_put 45 100 (by decide) _ _ S0 S hS) (fun S1 hS1 => (pr_Fb11 (pr_kf_X4_put 51 900 (by decide) _ _ S0 S1 hS1) (fun S3 hS3 => (pr_Fb21 (pr_kf_X4_at 41 100 (by decide) _ S0 S3 hS3) (fun x6 S5 hS5 => (pr_Fi1 (pr_Fb21 (pr_kf_X4_at 47 100 (by decide) _ S0 S5 hS5) (fun x9 S8 hS8 => (pr_Fi1 (pr_Fb11 (pr_kf_X4_put 48 100 (by decide) _ _ S0 S8 hS8) (fun S16 hS16 => (pr_kf_X3_waitFor_81 _ _ _ S0 S16 hS16))) (pr_Fb21 (pr_kf_X4_at 49 100 (by decide) _ S0 S8 hS8) (fun x12 S11 hS11 => (pr_Fb11 (pr_kf_X4_put 50 900 (by decide) _ _ S0 S11 hS11) (fun S14 hS14 => (pr_kf_X3_waitFor_81 _ _ _ S0 S14 hS14)))))))) (pr_Fb11 (pr_kf_X3_lineUp _ _ _ S0 S5 hS5) (fun S18 hS18 => (pr_Fs1 hS18))))))))))
theorem pr_kf_X1_form_42 : ∀ (fu : Nat) (b2 : Int) (b3 : Int) (S0 S : am_S), pr_kc S0 S → pr_F2 (pr_kc S0) (sf_X1_form_42 fu b2 b3 S) := by
  intro fu
  induction fu with
  | zero => intro b2 b3 S0 S hS; exact pr_Fn2
  | succ fu ih =>
    intro b2 b3 S0 S hS
    simp only [sf_X1_form_42]
    exact (pr_Fi2 (pr_Fl2 (pr_kc_sI hS (by decide)) (fun S10 hS10 => (pr_Fb12 (pr_kf_X1_settleIfComplete _ S0 S10 hS10) (fun S11 hS11 => (pr_Fs2 hS11))))) (pr_Fb22 (pr_kf_X4_valueAt 63 5 (by decide) _ S0 S hS) (fun x14 S13 hS13 => (pr_Fb22 (pr_kf_X3_promiseFor _ S0 S13 hS13) (fun x17 S16 hS16 => (pr_Fb22 (pr_kf_X9_jobOf _ _ S0 S16 hS16) (fun x20 S19 hS19 => (pr_Fb12 (pr_kf_X3_waitFor _ _ S0 S19 hS19) (fun S22 hS22 => (ih _ _ S0 S22 hS22))))))))))
theorem pr_kf_X1_form (a1 : Int) (S0 S : am_S) (hS : pr_kc S0 S) : pr_F2 (pr_kc S0) (sf_X1_form a1 S) := by
  unfold sf_X1_form
  exact (pr_Fb22 (pr_kf_X3_make  S0 S hS) (fun x2 S1 hS1 => (pr_Fb12 (pr_kf_X4_put 64 100 (by decide) _ _ S0 S1 hS1) (fun S4 hS4 => (pr_Fb12 (pr_kf_X4_put 65 100 (by decide) _ _ S0 S4 hS4) (fun S6 hS6 => (pr_Fb12 (pr_kf_X4_put 66 100 (by decide) _ _ S0 S6 hS6) (fun S8 hS8 => (pr_kf_X1_form_42 1000 _ _ S0 S8 hS8)))))))))
theorem pr_kf_X1_settlePlace_90 (b1 : Int) (b3 : Int) (b4 : Int) (b6 : Int) (S0 S : am_S) (hS : pr_kc S0 S) : pr_F1 (pr_kc S0) (sf_X1_settlePlace_90 b1 b3 b4 b6 S) := by
  unfold sf_X1_settlePlace_90
  exact (pr_Fi1 (pr_Fi1 (pr_Fb11 (pr_kf_X3_settleBy _ _ _ _ S0 S hS) (fun S21 hS21 => (pr_Fs1 hS21))) (pr_Fs1 hS)) (pr_Fs1 hS))
theorem pr_kf_X1_settlePlace_74 (b1 : Int) (b3 : Int) (b4 : Int) (b6 : Int) (S0 S : am_S) (hS : pr_kc S0 S) : pr_F1 (pr_kc S0) (sf_X1_settlePlace_74 b1 b3 b4 b6 S) := by
  unfold sf_X1_settlePlace_74
  exact (pr_Fi1 (pr_Fb11 (pr_kf_X3_settleBy _ _ _ _ S0 S hS) (fun S12 hS12 => (pr_Fs1 hS12))) (pr_Fi1 (pr_Fi1 (pr_Fb11 (pr_kf_X3_settleBy _ _ _ _ S0 S hS) (fun S14 hS14 => (pr_Fs1 hS14))) (pr_kf_X1_settlePlace_90 _ _ _ _ S0 S hS)) (pr_kf_X1_settlePlace_90 _ _ _ _ S0 S hS)))
theorem pr_kf_X1_settlePlace_48 (b1 : Int) (b2 : Int) (b3 : Int) (b4 : Int) (b6 : Int) (t0 : Int) (S0 S : am_S) (hS : pr_kc S0 S) : pr_F1 (pr_kc S0) (sf_X1_settlePlace_48 b1 b2 b3 b4 b6 t0 S) := by
  unfold sf_X1_settlePlace_48
  exact (pr_Fb21 (pr_kf_X4_at 66 100 (by decide) _ S0 S hS) (fun x17 S16 hS16 => (pr_Fb11 (pr_kf_X4_put 66 100 (by decide) _ _ S0 S16 hS16) (fun S19 hS19 => (pr_kf_X1_settlePlace_74 _ _ _ _ S0 S19 hS19)))))
theorem pr_kf_X1_settlePlace (a1 : Int) (a2 : Int) (a3 : Int) (a4 : Int) (S0 S : am_S) (hS : pr_kc S0 S) : pr_F1 (pr_kc S0) (sf_X1_settlePlace a1 a2 a3 a4 S) := by
  unfold sf_X1_settlePlace
  exact (pr_Fb21 (pr_kf_X4_at 64 100 (by decide) _ S0 S hS) (fun x2 S1 hS1 => (pr_Fb21 (pr_kf_X4_at 65 100 (by decide) _ S0 S1 hS1) (fun x5 S4 hS4 => (pr_Fb11 (pr_kf_X4_put 65 100 (by decide) _ _ S0 S4 hS4) (fun S7 hS7 => (pr_Fi1 (pr_Fi1 (pr_Fb21 (pr_kf_X8_numberOf _ S0 S7 hS7) (fun x10 S9 hS9 => (pr_kf_X1_settlePlace_48 _ _ _ _ _ _ S0 S9 hS9))) (pr_kf_X1_settlePlace_48 _ _ _ _ _ _ S0 S7 hS7)) (pr_kf_X1_settlePlace_74 _ _ _ _ S0 S7 hS7))))))))
theorem pr_kf_X2_clear (S0 S : am_S) (hS : pr_kc S0 S) : pr_F1 (pr_kc S0) (sf_X2_clear S) := by
  unfold sf_X2_clear
  exact (pr_Fl1 (pr_kc_sI hS (by decide)) (fun S1 hS1 => (pr_Fl1 (pr_kc_sI hS1 (by decide)) (fun S2 hS2 => (pr_Fs1 hS2)))))
theorem pr_kf_X2_beginTurn (S0 S : am_S) (hS : pr_kc S0 S) : pr_F1 (pr_kc S0) (sf_X2_beginTurn S) := by
  unfold sf_X2_beginTurn
  exact (pr_Fl1 (pr_kc_sI hS (by decide)) (fun S1 hS1 => (pr_Fs1 hS1)))
theorem pr_kf_X2_turns (S0 S : am_S) (hS : pr_kc S0 S) : pr_F2 (pr_kc S0) (sf_X2_turns S) := by
  unfold sf_X2_turns
  exact (pr_Fs2 hS)
theorem pr_kf_X2_total (S0 S : am_S) (hS : pr_kc S0 S) : pr_F2 (pr_kc S0) (sf_X2_total S) := by
  unfold sf_X2_total
  exact (pr_Fs2 hS)
theorem pr_kf_X2_kept (S0 S : am_S) (hS : pr_kc S0 S) : pr_F2 (pr_kc S0) (sf_X2_kept S) := by
  unfold sf_X2_kept
  exact (pr_Fs2 hS)
theorem pr_kf_X2_add (a1 : Int) (S0 S : am_S) (hS : pr_kc S0 S) : pr_F1 (pr_kc S0) (sf_X2_add a1 S) := by
  unfold sf_X2_add
  exact (pr_Fb11 (pr_kf_X4_put 61 60 (by decide) _ _ S0 S hS) (fun S1 hS1 => (pr_Fb11 (pr_kf_X4_put 62 60 (by decide) _ _ S0 S1 hS1) (fun S3 hS3 => (pr_Fl1 (pr_kc_sI hS3 (by decide)) (fun S5 hS5 => (pr_Fs1 hS5)))))))
theorem pr_kf_X2_valueOf (a1 : Int) (S0 S : am_S) (hS : pr_kc S0 S) : pr_F2 (pr_kc S0) (sf_X2_valueOf a1 S) := by
  unfold sf_X2_valueOf
  exact (pr_Fb22 (pr_kf_X4_valueAt 61 60 (by decide) _ S0 S hS) (fun x2 S1 hS1 => (pr_Fs2 hS1)))
theorem pr_kf_X2_turnOf (a1 : Int) (S0 S : am_S) (hS : pr_kc S0 S) : pr_F2 (pr_kc S0) (sf_X2_turnOf a1 S) := by
  unfold sf_X2_turnOf
  exact (pr_Fb22 (pr_kf_X4_at 62 60 (by decide) _ S0 S hS) (fun x2 S1 hS1 => (pr_Fs2 hS1)))
theorem pr_kf_X3_clear (S0 S : am_S) (hS : pr_kc S0 S) : pr_F1 (pr_kc S0) (sf_X3_clear S) := by
  unfold sf_X3_clear
  exact (pr_Fl1 (pr_kc_sI hS (by decide)) (fun S1 hS1 => (pr_Fl1 (pr_kc_sI hS1 (by decide)) (fun S2 hS2 => (pr_Fs1 hS2)))))
theorem pr_kf_X3_isFull (S0 S : am_S) (hS : pr_kc S0 S) : pr_F2 (pr_kc S0) (sf_X3_isFull S) := by
  unfold sf_X3_isFull
  exact (pr_Fi2 (pr_Fs2 hS) (pr_Fs2 hS))
theorem pr_kf_X3_statusOf (a1 : Int) (S0 S : am_S) (hS : pr_kc S0 S) : pr_F2 (pr_kc S0) (sf_X3_statusOf a1 S) := by
  unfold sf_X3_statusOf
  exact (pr_Fb22 (pr_kf_X4_at 41 100 (by decide) _ S0 S hS) (fun x2 S1 hS1 => (pr_Fs2 hS1)))
theorem pr_kf_X3_valueOf (a1 : Int) (S0 S : am_S) (hS : pr_kc S0 S) : pr_F2 (pr_kc S0) (sf_X3_valueOf a1 S) := by
  unfold sf_X3_valueOf
  exact (pr_Fb22 (pr_kf_X4_valueAt 42 100 (by decide) _ S0 S hS) (fun x2 S1 hS1 => (pr_Fs2 hS1)))
theorem pr_kf_X3_lastKeyOf (a1 : Int) (S0 S : am_S) (hS : pr_kc S0 S) : pr_F2 (pr_kc S0) (sf_X3_lastKeyOf a1 S) := by
  unfold sf_X3_lastKeyOf
  exact (pr_Fb22 (pr_kf_X4_at 43 100 (by decide) _ S0 S hS) (fun x2 S1 hS1 => (pr_Fs2 hS1)))
theorem pr_kf_X3_reactionsOf (a1 : Int) (S0 S : am_S) (hS : pr_kc S0 S) : pr_F2 (pr_kc S0) (sf_X3_reactionsOf a1 S) := by
  unfold sf_X3_reactionsOf
  exact (pr_Fb22 (pr_kf_X4_at 47 100 (by decide) _ S0 S hS) (fun x2 S1 hS1 => (pr_Fs2 hS1)))
theorem pr_kf_X3_isLoose (a1 : Int) (S0 S : am_S) (hS : pr_kc S0 S) : pr_F2 (pr_kc S0) (sf_X3_isLoose a1 S) := by
  unfold sf_X3_isLoose
  exact (pr_Fb22 (pr_kf_X4_at 41 100 (by decide) _ S0 S hS) (fun x2 S1 hS1 => (pr_Fi2 (pr_Fb22 (pr_kf_X4_at 45 100 (by decide) _ S0 S1 hS1) (fun x5 S4 hS4 => (pr_Fi2 (pr_Fs2 hS4) (pr_Fs2 hS4)))) (pr_Fs2 hS1))))
theorem pr_kf_X3_loose_4 : ∀ (fu : Nat) (b1 : Int) (b2 : Int) (S0 S : am_S), pr_kc S0 S → pr_F2 (pr_kc S0) (sf_X3_loose_4 fu b1 b2 S) := by
  intro fu
  induction fu with
  | zero => intro b1 b2 S0 S hS; exact pr_Fn2
  | succ fu ih =>
    intro b1 b2 S0 S hS
    simp only [sf_X3_loose_4]
    exact (pr_Fi2 (pr_Fs2 hS) (pr_Fb22 (pr_kf_X3_isLoose _ S0 S hS) (fun x2 S1 hS1 => (pr_Fi2 (ih _ _ S0 S1 hS1) (ih _ _ S0 S1 hS1)))))
theorem pr_kf_X3_loose (S0 S : am_S) (hS : pr_kc S0 S) : pr_F2 (pr_kc S0) (sf_X3_loose S) := by
  unfold sf_X3_loose
  exact (pr_kf_X3_loose_4 1000 _ _ S0 S hS)
theorem pr_kf_X3_addKey (a1 : Int) (S0 S : am_S) (hS : pr_kc S0 S) : pr_F2 (pr_kc S0) (sf_X3_addKey a1 S) := by
  unfold sf_X3_addKey
  exact (pr_Fb22 (pr_kf_X4_at 43 100 (by decide) _ S0 S hS) (fun x2 S1 hS1 => (pr_Fb12 (pr_kf_X4_put 43 100 (by decide) _ _ S0 S1 hS1) (fun S4 hS4 => (pr_Fb12 (pr_kf_X4_put 44 100 (by decide) _ _ S0 S4 hS4) (fun S6 hS6 => (pr_Fs2 hS6)))))))
theorem pr_kf_X3_toAdopt (a1 : Int) (S0 S : am_S) (hS : pr_kc S0 S) : pr_F2 (pr_kc S0) (sf_X3_toAdopt a1 S) := by
  unfold sf_X3_toAdopt
  exact (pr_Fb22 (pr_kf_X4_valueAt 46 100 (by decide) _ S0 S hS) (fun x2 S1 hS1 => (pr_Fs2 hS1)))
theorem pr_kf_X3_jobs (S0 S : am_S) (hS : pr_kc S0 S) : pr_F2 (pr_kc S0) (sf_X3_jobs S) := by
  unfold sf_X3_jobs
  exact (pr_Fs2 hS)
theorem pr_kf_X3_takeJob (S0 S : am_S) (hS : pr_kc S0 S) : pr_F2 (pr_kc S0) (sf_X3_takeJob S) := by
  unfold sf_X3_takeJob
  exact (pr_Fb22 (pr_kf_X4_at 50 900 (by decide) _ S0 S hS) (fun x2 S1 hS1 => (pr_Fl2 (pr_kc_sI hS1 (by decide)) (fun S4 hS4 => (pr_Fl2 (pr_kc_sI hS4 (by decide)) (fun S5 hS5 => (pr_Fs2 hS5)))))))
theorem pr_kf_X3_sourceOf (a1 : Int) (S0 S : am_S) (hS : pr_kc S0 S) : pr_F2 (pr_kc S0) (sf_X3_sourceOf a1 S) := by
  unfold sf_X3_sourceOf
  exact (pr_Fb22 (pr_kf_X4_at 51 900 (by decide) _ S0 S hS) (fun x2 S1 hS1 => (pr_Fs2 hS1)))
theorem pr_kf_X4_fill_2 (a n : Nat) (ha : a < 75) : ∀ (fu : Nat) (b1 : Int) (b3 : Int) (S0 S : am_S), pr_kc S0 S → pr_F1 (pr_kc S0) (sf_X4_fill_2 a n fu b1 b3 S) := by
  intro fu
  induction fu with
  | zero => intro b1 b3 S0 S hS; exact pr_Fn1
  | succ fu ih =>
    intro b1 b3 S0 S hS
    simp only [sf_X4_fill_2]
    exact (pr_Fi1 (pr_Fs1 hS) (pr_Fg1 (pr_Fl1 (pr_kc_sA hS ha) (fun S1 hS1 => (ih _ _ S0 S1 hS1)))))
theorem pr_kf_X4_fill (a n : Nat) (ha : a < 75) (a1 : Int) (S0 S : am_S) (hS : pr_kc S0 S) : pr_F1 (pr_kc S0) (sf_X4_fill a n a1 S) := by
  unfold sf_X4_fill
  exact (pr_kf_X4_fill_2 a n ha 1000 _ _ S0 S hS)
theorem pr_kf_X5_clear (S0 S : am_S) (hS : pr_kc S0 S) : pr_F1 (pr_kc S0) (sf_X5_clear S) := by
  unfold sf_X5_clear
  exact (pr_Fb11 (pr_kf_X4_fill 71 100 (by decide) _ S0 S hS) (fun S1 hS1 => (pr_Fs1 hS1)))
theorem pr_kf_X5_isStopped (a1 : Int) (S0 S : am_S) (hS : pr_kc S0 S) : pr_F2 (pr_kc S0) (sf_X5_isStopped a1 S) := by
  unfold sf_X5_isStopped
  exact (pr_Fb22 (pr_kf_X4_at 71 100 (by decide) _ S0 S hS) (fun x2 S1 hS1 => (pr_Fi2 (pr_Fs2 hS1) (pr_Fs2 hS1))))
theorem pr_kf_X5_addHandlers (a1 : Int) (a2 : Int) (a3 : Int) (S0 S : am_S) (hS : pr_kc S0 S) : pr_F2 (pr_kc S0) (sf_X5_addHandlers a1 a2 a3 S) := by
  unfold sf_X5_addHandlers
  exact (pr_Fb22 (pr_kf_X3_make  S0 S hS) (fun x2 S1 hS1 => (pr_Fb12 (pr_kf_X4_put 72 100 (by decide) _ _ S0 S1 hS1) (fun S4 hS4 => (pr_Fb12 (pr_kf_X4_put 73 100 (by decide) _ _ S0 S4 hS4) (fun S6 hS6 => (pr_Fb22 (pr_kf_X9_jobOf _ _ S0 S6 hS6) (fun x9 S8 hS8 => (pr_Fb12 (pr_kf_X3_waitFor _ _ S0 S8 hS8) (fun S11 hS11 => (pr_Fs2 hS11)))))))))))
theorem pr_kf_X5_enter (a1 : Int) (a2 : Int) (a3 : Int) (S0 S : am_S) (hS : pr_kc S0 S) : pr_F1 (pr_kc S0) (sf_X5_enter a1 a2 a3 S) := by
  unfold sf_X5_enter
  exact (pr_Fb11 (pr_kf_X4_put 67 101 (by decide) _ _ S0 S hS) (fun S1 hS1 => (pr_Fb11 (pr_kf_X4_put 68 101 (by decide) _ _ S0 S1 hS1) (fun S3 hS3 => (pr_Fb11 (pr_kf_X4_put 69 101 (by decide) _ _ S0 S3 hS3) (fun S5 hS5 => (pr_Fb11 (pr_kf_X4_put 70 101 (by decide) _ _ S0 S5 hS5) (fun S7 hS7 => (pr_Fl1 (pr_kc_sI hS7 (by decide)) (fun S9 hS9 => (pr_Fs1 hS9)))))))))))
theorem pr_kf_X5_perform (a1 : Int) (a2 : Int) (a3 : Int) (S0 S : am_S) (hS : pr_kc S0 S) : pr_F1 (pr_kc S0) (sf_X5_perform a1 a2 a3 S) := by
  unfold sf_X5_perform
  exact (pr_Fl1 (pr_kc_sI hS (by decide)) (fun S1 hS1 => (pr_Fb11 (pr_kf_X5_enter _ _ _ S0 S1 hS1) (fun S2 hS2 => (pr_Fs1 hS2)))))
theorem pr_kf_X5_handle_24 (b1 : Int) (b2 : Int) (b3 : Int) (t0 : Int) (S0 S : am_S) (hS : pr_kc S0 S) : pr_F1 (pr_kc S0) (sf_X5_handle_24 b1 b2 b3 t0 S) := by
  unfold sf_X5_handle_24
  exact (pr_Fi1 (pr_Fb11 (pr_kf_X3_settleBy _ _ _ _ S0 S hS) (fun S9 hS9 => (pr_Fs1 hS9))) (pr_Fb11 (pr_kf_X5_perform _ _ _ S0 S hS) (fun S7 hS7 => (pr_Fs1 hS7))))
theorem pr_kf_X5_handle (a1 : Int) (a2 : Int) (a3 : Int) (S0 S : am_S) (hS : pr_kc S0 S) : pr_F1 (pr_kc S0) (sf_X5_handle a1 a2 a3 S) := by
  unfold sf_X5_handle
  exact (pr_Fi1 (pr_Fb21 (pr_kf_X4_at 72 100 (by decide) _ S0 S hS) (fun x5 S4 hS4 => (pr_kf_X5_handle_24 _ _ _ _ S0 S4 hS4))) (pr_Fb21 (pr_kf_X4_at 73 100 (by decide) _ S0 S hS) (fun x2 S1 hS1 => (pr_kf_X5_handle_24 _ _ _ _ S0 S1 hS1))))
theorem pr_kf_X5_begin (a1 : Int) (a2 : Int) (S0 S : am_S) (hS : pr_kc S0 S) : pr_F2 (pr_kc S0) (sf_X5_begin a1 a2 S) := by
  unfold sf_X5_begin
  exact (pr_Fb22 (pr_kf_X3_make  S0 S hS) (fun x2 S1 hS1 => (pr_Fb12 (pr_kf_X5_enter _ _ _ S0 S1 hS1) (fun S4 hS4 => (pr_Fs2 hS4)))))
theorem pr_kf_X5_end (a1 : Int) (a2 : Int) (S0 S : am_S) (hS : pr_kc S0 S) : pr_F1 (pr_kc S0) (sf_X5_end a1 a2 S) := by
  unfold sf_X5_end
  exact (pr_Fi1 (pr_Fb21 (pr_kf_X4_valueAt 69 101 (by decide) _ S0 S hS) (fun x11 S10 hS10 => (pr_Fb11 (pr_kf_X3_settleBy _ _ _ _ S0 S10 hS10) (fun S13 hS13 => (pr_Fb21 (pr_kf_X4_at 70 101 (by decide) _ S0 S13 hS13) (fun x16 S15 hS15 => (pr_Fl1 (pr_kc_sI hS15 (by decide)) (fun S18 hS18 => (pr_Fs1 hS18))))))))) (pr_Fb21 (pr_kf_X4_valueAt 69 101 (by decide) _ S0 S hS) (fun x2 S1 hS1 => (pr_Fb11 (pr_kf_X3_settleBy _ _ _ _ S0 S1 hS1) (fun S4 hS4 => (pr_Fb21 (pr_kf_X4_at 70 101 (by decide) _ S0 S4 hS4) (fun x7 S6 hS6 => (pr_Fl1 (pr_kc_sI hS6 (by decide)) (fun S9 hS9 => (pr_Fs1 hS9))))))))))
theorem pr_kf_X5_leaveTry (a1 : Int) (a2 : Int) (S0 S : am_S) (hS : pr_kc S0 S) : pr_F2 (pr_kc S0) (sf_X5_leaveTry a1 a2 S) := by
  unfold sf_X5_leaveTry
  exact (pr_Fb22 (pr_kf_X4_at 67 101 (by decide) _ S0 S hS) (fun x2 S1 hS1 => (pr_Fb22 (pr_kf_X0_behindTry _ _ S0 S1 hS1) (fun x5 S4 hS4 => (pr_Fi2 (pr_Fs2 hS4) (pr_Fb12 (pr_kf_X4_put 68 101 (by decide) _ _ S0 S4 hS4) (fun S7 hS7 => (pr_Fs2 hS7))))))))
theorem pr_kf_X5_resume (a1 : Int) (a2 : Int) (a3 : Int) (S0 S : am_S) (hS : pr_kc S0 S) : pr_F1 (pr_kc S0) (sf_X5_resume a1 a2 a3 S) := by
  unfold sf_X5_resume
  exact (pr_Fb11 (pr_kf_X4_put 71 100 (by decide) _ _ S0 S hS) (fun S1 hS1 => (pr_Fb11 (pr_kf_X4_put 70 101 (by decide) _ _ S0 S1 hS1) (fun S3 hS3 => (pr_Fl1 (pr_kc_sI hS3 (by decide)) (fun S5 hS5 => (pr_Fb11 (pr_kf_X4_put 69 101 (by decide) _ _ S0 S5 hS5) (fun S6 hS6 => (pr_Fi1 (pr_Fb21 (pr_kf_X4_at 68 101 (by decide) _ S0 S6 hS6) (fun x9 S8 hS8 => (pr_Fb21 (pr_kf_X5_leaveTry _ _ S0 S8 hS8) (fun x12 S11 hS11 => (pr_Fi1 (pr_Fb11 (pr_kf_X5_end _ _ S0 S11 hS11) (fun S14 hS14 => (pr_Fs1 hS14))) (pr_Fs1 hS11)))))) (pr_Fs1 hS6))))))))))
theorem pr_kf_X6_isFull (S0 S : am_S) (hS : pr_kc S0 S) : pr_F2 (pr_kc S0) (sf_X6_isFull S) := by
  unfold sf_X6_isFull
  exact (pr_Fi2 (pr_Fs2 hS) (pr_Fs2 hS))
theorem pr_kf_X5_faultOf_33 (b1 : Int) (b2 : Int) (b3 : Int) (t0 : Int) (S0 S : am_S) (hS : pr_kc S0 S) : pr_F2 (pr_kc S0) (sf_X5_faultOf_33 b1 b2 b3 t0 S) := by
  unfold sf_X5_faultOf_33
  exact (pr_Fb22 (pr_kf_X8_numberOf _ S0 S hS) (fun x8 S7 hS7 => (pr_Fi2 (pr_Fb22 (pr_kf_X8_sortOf _ S0 S7 hS7) (fun x12 S11 hS11 => (pr_Fi2 (pr_Fb22 (pr_kf_X3_has _ S0 S11 hS11) (fun x15 S14 hS14 => (pr_Fi2 (pr_Fs2 hS14) (pr_Fs2 hS14)))) (pr_Fs2 hS11)))) (pr_Fi2 (pr_Fi2 (pr_Fs2 hS7) (pr_Fi2 (pr_Fb22 (pr_kf_X3_isFull  S0 S7 hS7) (fun x18 S17 hS17 => (pr_Fi2 (pr_Fs2 hS17) (pr_Fs2 hS17)))) (pr_Fs2 hS7))) (pr_Fi2 (pr_Fb22 (pr_kf_X3_isFull  S0 S7 hS7) (fun x21 S20 hS20 => (pr_Fi2 (pr_Fs2 hS20) (pr_Fs2 hS20)))) (pr_Fi2 (pr_Fb22 (pr_kf_X3_has _ S0 S7 hS7) (fun x24 S23 hS23 => (pr_Fi2 (pr_Fs2 hS23) (pr_Fs2 hS23)))) (pr_Fi2 (pr_Fb22 (pr_kf_X3_has _ S0 S7 hS7) (fun x27 S26 hS26 => (pr_Fi2 (pr_Fs2 hS26) (pr_Fs2 hS26)))) (pr_Fi2 (pr_Fi2 (pr_Fs2 hS7) (pr_Fb22 (pr_kf_X3_isFull  S0 S7 hS7) (fun x30 S29 hS29 => (pr_Fi2 (pr_Fs2 hS29) (pr_Fs2 hS29))))) (pr_Fi2 (pr_Fb22 (pr_kf_X6_isFull  S0 S7 hS7) (fun x33 S32 hS32 => (pr_Fi2 (pr_Fs2 hS32) (pr_Fs2 hS32)))) (pr_Fs2 hS7))))))))))
theorem pr_kf_X5_faultOf (a1 : Int) (a2 : Int) (a3 : Int) (S0 S : am_S) (hS : pr_kc S0 S) : pr_F2 (pr_kc S0) (sf_X5_faultOf a1 a2 a3 S) := by
  unfold sf_X5_faultOf
  exact (pr_Fi2 (pr_Fb22 (pr_kf_X4_valueAt 69 101 (by decide) _ S0 S hS) (fun x2 S1 hS1 => (pr_Fb22 (pr_kf_X8_sortOf _ S0 S1 hS1) (fun x5 S4 hS4 => (pr_Fi2 (pr_kf_X5_faultOf_33 _ _ _ _ S0 S4 hS4) (pr_kf_X5_faultOf_33 _ _ _ _ S0 S4 hS4)))))) (pr_Fs2 hS))
theorem pr_kf_X5_jumpIfAbove (a1 : Int) (a2 : Int) (S0 S : am_S) (hS : pr_kc S0 S) : pr_F1 (pr_kc S0) (sf_X5_jumpIfAbove a1 a2 S) := by
  unfold sf_X5_jumpIfAbove
  exact (pr_Fb21 (pr_kf_X4_valueAt 69 101 (by decide) _ S0 S hS) (fun x2 S1 hS1 => (pr_Fb21 (pr_kf_X8_numberOf _ S0 S1 hS1) (fun x5 S4 hS4 => (pr_Fb21 (pr_kf_X4_valueAt 69 101 (by decide) _ S0 S4 hS4) (fun x8 S7 hS7 => (pr_Fb21 (pr_kf_X8_sortOf _ S0 S7 hS7) (fun x11 S10 hS10 => (pr_Fi1 (pr_Fi1 (pr_Fs1 hS10) (pr_Fb21 (pr_kf_X8_of _ _ S0 S10 hS10) (fun x14 S13 hS13 => (pr_Fb11 (pr_kf_X4_put 69 101 (by decide) _ _ S0 S13 hS13) (fun S16 hS16 => (pr_Fb11 (pr_kf_X4_put 68 101 (by decide) _ _ S0 S16 hS16) (fun S18 hS18 => (pr_Fs1 hS18)))))))) (pr_Fs1 hS10))))))))))
theorem pr_kf_X5_jumpIfZero (a1 : Int) (a2 : Int) (S0 S : am_S) (hS : pr_kc S0 S) : pr_F1 (pr_kc S0) (sf_X5_jumpIfZero a1 a2 S) := by
  unfold sf_X5_jumpIfZero
  exact (pr_Fb21 (pr_kf_X4_valueAt 69 101 (by decide) _ S0 S hS) (fun x2 S1 hS1 => (pr_Fb21 (pr_kf_X8_of _ _ S0 S1 hS1) (fun x5 S4 hS4 => (pr_Fi1 (pr_Fb11 (pr_kf_X4_put 68 101 (by decide) _ _ S0 S4 hS4) (fun S7 hS7 => (pr_Fs1 hS7))) (pr_Fs1 hS4))))))
theorem pr_kf_X6_add (a1 : Int) (a2 : Int) (a3 : Int) (S0 S : am_S) (hS : pr_kc S0 S) : pr_F2 (pr_kc S0) (sf_X6_add a1 a2 a3 S) := by
  unfold sf_X6_add
  exact (pr_Fb12 (pr_kf_X4_put 58 32 (by decide) _ _ S0 S hS) (fun S1 hS1 => (pr_Fb12 (pr_kf_X4_put 59 32 (by decide) _ _ S0 S1 hS1) (fun S3 hS3 => (pr_Fb12 (pr_kf_X4_put 60 32 (by decide) _ _ S0 S3 hS3) (fun S5 hS5 => (pr_Fl2 (pr_kc_sI hS5 (by decide)) (fun S7 hS7 => (pr_Fs2 hS7)))))))))
theorem pr_kf_X5_doStep (a1 : Int) (a2 : Int) (S0 S : am_S) (hS : pr_kc S0 S) : pr_F2 (pr_kc S0) (sf_X5_doStep a1 a2 S) := by
  unfold sf_X5_doStep
  exact (pr_Fb22 (pr_kf_X4_at 67 101 (by decide) _ S0 S hS) (fun x2 S1 hS1 => (pr_Fb22 (pr_kf_X0_kindOf _ _ S0 S1 hS1) (fun x5 S4 hS4 => (pr_Fb22 (pr_kf_X4_at 67 101 (by decide) _ S0 S4 hS4) (fun x8 S7 hS7 => (pr_Fb22 (pr_kf_X0_valueOf _ _ S0 S7 hS7) (fun x11 S10 hS10 => (pr_Fb22 (pr_kf_X8_numberOf _ S0 S10 hS10) (fun x14 S13 hS13 => (pr_Fb22 (pr_kf_X4_valueAt 69 101 (by decide) _ S0 S13 hS13) (fun x17 S16 hS16 => (pr_Fl2 (pr_kc_sI hS16 (by decide)) (fun S19 hS19 => (pr_Fb22 (pr_kf_X5_faultOf _ _ _ S0 S19 hS19) (fun x21 S20 hS20 => (pr_Fi2 (pr_Fi2 (pr_Fb12 (pr_kf_X2_add _ S0 S20 hS20) (fun S24 hS24 => (pr_Fs2 hS24))) (pr_Fi2 (pr_Fb12 (pr_kf_X2_add _ S0 S20 hS20) (fun S26 hS26 => (pr_Fs2 hS26))) (pr_Fi2 (pr_Fb12 (pr_kf_X4_put 69 101 (by decide) _ _ S0 S20 hS20) (fun S28 hS28 => (pr_Fs2 hS28))) (pr_Fi2 (pr_Fs2 hS20) (pr_Fi2 (pr_Fs2 hS20) (pr_Fi2 (pr_Fs2 hS20) (pr_Fi2 (pr_Fb22 (pr_kf_X5_begin _ _ S0 S20 hS20) (fun x31 S30 hS30 => (pr_Fb22 (pr_kf_X8_of _ _ S0 S30 hS30) (fun x34 S33 hS33 => (pr_Fb12 (pr_kf_X4_put 69 101 (by decide) _ _ S0 S33 hS33) (fun S36 hS36 => (pr_Fs2 hS36))))))) (pr_Fi2 (pr_Fb12 (pr_kf_X3_settleBy _ _ _ _ S0 S20 hS20) (fun S38 hS38 => (pr_Fs2 hS38))) (pr_Fi2 (pr_Fb12 (pr_kf_X3_settleBy _ _ _ _ S0 S20 hS20) (fun S40 hS40 => (pr_Fs2 hS40))) (pr_Fi2 (pr_Fb22 (pr_kf_X8_numberOf _ S0 S20 hS20) (fun x43 S42 hS42 => (pr_Fb22 (pr_kf_X5_addHandlers _ _ _ S0 S42 hS42) (fun x46 S45 hS45 => (pr_Fb22 (pr_kf_X8_of _ _ S0 S45 hS45) (fun x49 S48 hS48 => (pr_Fb12 (pr_kf_X4_put 69 101 (by decide) _ _ S0 S48 hS48) (fun S51 hS51 => (pr_Fs2 hS51))))))))) (pr_Fi2 (pr_Fb22 (pr_kf_X6_add _ _ _ S0 S20 hS20) (fun x54 S53 hS53 => (pr_Fs2 hS53))) (pr_Fi2 (pr_Fb12 (pr_kf_X5_jumpIfZero _ _ S0 S20 hS20) (fun S56 hS56 => (pr_Fs2 hS56))) (pr_Fi2 (pr_Fb12 (pr_kf_X5_jumpIfAbove _ _ S0 S20 hS20) (fun S58 hS58 => (pr_Fs2 hS58))) (pr_Fs2 hS20)))))))))))))) (pr_Fb22 (pr_kf_X8_of _ _ S0 S20 hS20) (fun x61 S60 hS60 => (pr_Fb12 (pr_kf_X4_put 69 101 (by decide) _ _ S0 S60 hS60) (fun S63 hS63 => (pr_Fs2 hS63))))))))))))))))))))))
theorem pr_kf_X5_giveZero (a1 : Int) (S0 S : am_S) (hS : pr_kc S0 S) : pr_F2 (pr_kc S0) (sf_X5_giveZero a1 S) := by
  unfold sf_X5_giveZero
  exact (pr_Fb22 (pr_kf_X8_of _ _ S0 S hS) (fun x2 S1 hS1 => (pr_Fb12 (pr_kf_X4_put 69 101 (by decide) _ _ S0 S1 hS1) (fun S4 hS4 => (pr_Fs2 hS4)))))
theorem pr_kf_X5_stop (a1 : Int) (S0 S : am_S) (hS : pr_kc S0 S) : pr_F1 (pr_kc S0) (sf_X5_stop a1 S) := by
  unfold sf_X5_stop
  exact (pr_Fb11 (pr_kf_X4_put 71 100 (by decide) _ _ S0 S hS) (fun S1 hS1 => (pr_Fb21 (pr_kf_X4_at 70 101 (by decide) _ S0 S1 hS1) (fun x4 S3 hS3 => (pr_Fl1 (pr_kc_sI hS3 (by decide)) (fun S6 hS6 => (pr_Fb21 (pr_kf_X4_valueAt 69 101 (by decide) _ S0 S6 hS6) (fun x8 S7 hS7 => (pr_Fb21 (pr_kf_X3_promiseFor _ S0 S7 hS7) (fun x11 S10 hS10 => (pr_Fb21 (pr_kf_X9_jobOf _ _ S0 S10 hS10) (fun x14 S13 hS13 => (pr_Fb11 (pr_kf_X3_waitFor _ _ S0 S13 hS13) (fun S16 hS16 => (pr_Fs1 hS16)))))))))))))))
theorem pr_kf_X5_goOn_7 : ∀ (fu : Nat) (b1 : Int) (S0 S : am_S), pr_kc S0 S → pr_F1 (pr_kc S0) (sf_X5_goOn_7 fu b1 S) := by
  intro fu
  induction fu with
  | zero => intro b1 S0 S hS; exact pr_Fn1
  | succ fu ih =>
    intro b1 S0 S hS
    simp only [sf_X5_goOn_7]
    exact (pr_Fi1 (pr_Fs1 hS) (pr_Fi1 (pr_Fs1 hS) (pr_Fb21 (pr_kf_X4_at 68 101 (by decide) _ S0 S hS) (fun x3 S2 hS2 => (pr_Fb11 (pr_kf_X4_put 68 101 (by decide) _ _ S0 S2 hS2) (fun S5 hS5 => (pr_Fb21 (pr_kf_X4_at 67 101 (by decide) _ S0 S5 hS5) (fun x8 S7 hS7 => (pr_Fb21 (pr_kf_X0_sizeOf _ S0 S7 hS7) (fun x11 S10 hS10 => (pr_Fi1 (pr_Fb21 (pr_kf_X5_giveZero _ S0 S10 hS10) (fun x14 S13 hS13 => (pr_Fi1 (pr_Fb11 (pr_kf_X5_stop _ S0 S13 hS13) (fun S23 hS23 => (ih _ S0 S23 hS23))) (pr_Fi1 (pr_Fb11 (pr_kf_X5_end _ _ S0 S13 hS13) (fun S16 hS16 => (ih _ S0 S16 hS16))) (pr_Fi1 (pr_Fb21 (pr_kf_X5_leaveTry _ _ S0 S13 hS13) (fun x19 S18 hS18 => (pr_Fi1 (pr_Fb11 (pr_kf_X5_end _ _ S0 S18 hS18) (fun S21 hS21 => (ih _ S0 S21 hS21))) (ih _ S0 S18 hS18)))) (ih _ S0 S13 hS13)))))) (pr_Fb21 (pr_kf_X5_doStep _ _ S0 S10 hS10) (fun x26 S25 hS25 => (pr_Fi1 (pr_Fb11 (pr_kf_X5_stop _ S0 S25 hS25) (fun S35 hS35 => (ih _ S0 S35 hS35))) (pr_Fi1 (pr_Fb11 (pr_kf_X5_end _ _ S0 S25 hS25) (fun S28 hS28 => (ih _ S0 S28 hS28))) (pr_Fi1 (pr_Fb21 (pr_kf_X5_leaveTry _ _ S0 S25 hS25) (fun x31 S30 hS30 => (pr_Fi1 (pr_Fb11 (pr_kf_X5_end _ _ S0 S30 hS30) (fun S33 hS33 => (ih _ S0 S33 hS33))) (ih _ S0 S30 hS30)))) (ih _ S0 S25 hS25)))))))))))))))))
theorem pr_kf_X5_goOn (S0 S : am_S) (hS : pr_kc S0 S) : pr_F1 (pr_kc S0) (sf_X5_goOn S) := by
  unfold sf_X5_goOn
  exact (pr_Fl1 (pr_kc_sI hS (by decide)) (fun S1 hS1 => (pr_kf_X5_goOn_7 1000002 _ S0 S1 hS1)))
theorem pr_kf_X6_clear (S0 S : am_S) (hS : pr_kc S0 S) : pr_F1 (pr_kc S0) (sf_X6_clear S) := by
  unfold sf_X6_clear
  exact (pr_Fl1 (pr_kc_sI hS (by decide)) (fun S1 hS1 => (pr_Fl1 (pr_kc_sI hS1 (by decide)) (fun S2 hS2 => (pr_Fs1 hS2)))))
theorem pr_kf_X6_size (S0 S : am_S) (hS : pr_kc S0 S) : pr_F2 (pr_kc S0) (sf_X6_size S) := by
  unfold sf_X6_size
  exact (pr_Fs2 hS)
theorem pr_kf_X6_time (S0 S : am_S) (hS : pr_kc S0 S) : pr_F2 (pr_kc S0) (sf_X6_time S) := by
  unfold sf_X6_time
  exact (pr_Fs2 hS)
theorem pr_kf_X6_dueFirst_4 : ∀ (fu : Nat) (b1 : Int) (b2 : Int) (S0 S : am_S), pr_kc S0 S → pr_F2 (pr_kc S0) (sf_X6_dueFirst_4 fu b1 b2 S) := by
  intro fu
  induction fu with
  | zero => intro b1 b2 S0 S hS; exact pr_Fn2
  | succ fu ih =>
    intro b1 b2 S0 S hS
    simp only [sf_X6_dueFirst_4]
    exact (pr_Fi2 (pr_Fs2 hS) (pr_Fb22 (pr_kf_X4_at 60 32 (by decide) _ S0 S hS) (fun x2 S1 hS1 => (pr_Fb22 (pr_kf_X4_at 60 32 (by decide) _ S0 S1 hS1) (fun x5 S4 hS4 => (pr_Fi2 (ih _ _ S0 S4 hS4) (ih _ _ S0 S4 hS4)))))))
theorem pr_kf_X6_dueFirst (S0 S : am_S) (hS : pr_kc S0 S) : pr_F2 (pr_kc S0) (sf_X6_dueFirst S) := by
  unfold sf_X6_dueFirst
  exact (pr_kf_X6_dueFirst_4 1000 _ _ S0 S hS)
theorem pr_kf_X6_functionOf (a1 : Int) (S0 S : am_S) (hS : pr_kc S0 S) : pr_F2 (pr_kc S0) (sf_X6_functionOf a1 S) := by
  unfold sf_X6_functionOf
  exact (pr_Fb22 (pr_kf_X4_at 58 32 (by decide) _ S0 S hS) (fun x2 S1 hS1 => (pr_Fs2 hS1)))
theorem pr_kf_X6_valueOf (a1 : Int) (S0 S : am_S) (hS : pr_kc S0 S) : pr_F2 (pr_kc S0) (sf_X6_valueOf a1 S) := by
  unfold sf_X6_valueOf
  exact (pr_Fb22 (pr_kf_X4_valueAt 59 32 (by decide) _ S0 S hS) (fun x2 S1 hS1 => (pr_Fs2 hS1)))
theorem pr_kf_X6_finish_31 : ∀ (fu : Nat) (b2 : Int) (S0 S : am_S), pr_kc S0 S → pr_F1 (pr_kc S0) (sf_X6_finish_31 fu b2 S) := by
  intro fu
  induction fu with
  | zero => intro b2 S0 S hS; exact pr_Fn1
  | succ fu ih =>
    intro b2 S0 S hS
    simp only [sf_X6_finish_31]
    exact (pr_Fi1 (pr_Fs1 hS) (pr_Fb21 (pr_kf_X4_at 58 32 (by decide) _ S0 S hS) (fun x7 S6 hS6 => (pr_Fb11 (pr_kf_X4_put 58 32 (by decide) _ _ S0 S6 hS6) (fun S9 hS9 => (pr_Fb21 (pr_kf_X4_valueAt 59 32 (by decide) _ S0 S9 hS9) (fun x12 S11 hS11 => (pr_Fb11 (pr_kf_X4_put 59 32 (by decide) _ _ S0 S11 hS11) (fun S14 hS14 => (pr_Fb21 (pr_kf_X4_at 60 32 (by decide) _ S0 S14 hS14) (fun x17 S16 hS16 => (pr_Fb11 (pr_kf_X4_put 60 32 (by decide) _ _ S0 S16 hS16) (fun S19 hS19 => (ih _ S0 S19 hS19))))))))))))))
theorem pr_kf_X6_finish (a1 : Int) (S0 S : am_S) (hS : pr_kc S0 S) : pr_F1 (pr_kc S0) (sf_X6_finish a1 S) := by
  unfold sf_X6_finish
  exact (pr_Fb21 (pr_kf_X4_at 60 32 (by decide) _ S0 S hS) (fun x2 S1 hS1 => (pr_Fl1 (pr_kc_sI hS1 (by decide)) (fun S4 hS4 => (pr_Fl1 (pr_kc_sI hS4 (by decide)) (fun S5 hS5 => (pr_kf_X6_finish_31 1000 _ S0 S5 hS5)))))))
theorem pr_kf_X7_clear (S0 S : am_S) (hS : pr_kc S0 S) : pr_F1 (pr_kc S0) (sf_X7_clear S) := by
  unfold sf_X7_clear
  exact (pr_Fb11 (pr_kf_X4_fill 52 4 (by decide) _ S0 S hS) (fun S1 hS1 => (pr_Fs1 hS1)))
theorem pr_kf_X7_change (a1 : Int) (a2 : Int) (a3 : Int) (a4 : Int) (S0 S : am_S) (hS : pr_kc S0 S) : pr_F1 (pr_kc S0) (sf_X7_change a1 a2 a3 a4 S) := by
  unfold sf_X7_change
  exact (pr_Fb11 (pr_kf_X4_put 52 4 (by decide) _ _ S0 S hS) (fun S1 hS1 => (pr_Fb11 (pr_kf_X4_put 53 4 (by decide) _ _ S0 S1 hS1) (fun S3 hS3 => (pr_Fb11 (pr_kf_X4_put 54 4 (by decide) _ _ S0 S3 hS3) (fun S5 hS5 => (pr_Fs1 hS5)))))))
theorem pr_kf_X7_kindOf (a1 : Int) (S0 S : am_S) (hS : pr_kc S0 S) : pr_F2 (pr_kc S0) (sf_X7_kindOf a1 S) := by
  unfold sf_X7_kindOf
  exact (pr_Fb22 (pr_kf_X4_at 52 4 (by decide) _ S0 S hS) (fun x2 S1 hS1 => (pr_Fs2 hS1)))
theorem pr_kf_X7_uOf (a1 : Int) (S0 S : am_S) (hS : pr_kc S0 S) : pr_F2 (pr_kc S0) (sf_X7_uOf a1 S) := by
  unfold sf_X7_uOf
  exact (pr_Fb22 (pr_kf_X4_valueAt 53 4 (by decide) _ S0 S hS) (fun x2 S1 hS1 => (pr_Fs2 hS1)))
theorem pr_kf_X7_wOf (a1 : Int) (S0 S : am_S) (hS : pr_kc S0 S) : pr_F2 (pr_kc S0) (sf_X7_wOf a1 S) := by
  unfold sf_X7_wOf
  exact (pr_Fb22 (pr_kf_X4_valueAt 54 4 (by decide) _ S0 S hS) (fun x2 S1 hS1 => (pr_Fs2 hS1)))
theorem pr_kf_X9_promise (S0 S : am_S) (hS : pr_kc S0 S) : pr_F2 (pr_kc S0) (sf_X9_promise S) := by
  unfold sf_X9_promise
  exact (pr_Fb22 (pr_kf_X3_isFull  S0 S hS) (fun x2 S1 hS1 => (pr_Fi2 (pr_Fb22 (pr_kf_X3_make  S0 S1 hS1) (fun x5 S4 hS4 => (pr_Fs2 hS4))) (pr_Fs2 hS1))))
theorem pr_kf_X9_isValue (a1 : Int) (a2 : Int) (S0 S : am_S) (hS : pr_kc S0 S) : pr_F2 (pr_kc S0) (sf_X9_isValue a1 a2 S) := by
  unfold sf_X9_isValue
  exact (pr_Fb22 (pr_kf_X3_made  S0 S hS) (fun x2 S1 hS1 => (pr_Fb22 (pr_kf_X8_exists _ _ _ S0 S1 hS1) (fun x5 S4 hS4 => (pr_Fz2 (pr_Fs2 hS4))))))
theorem pr_kf_X9_settleFromOutside (a1 : Int) (a2 : Int) (a3 : Int) (a4 : Int) (S0 S : am_S) (hS : pr_kc S0 S) : pr_F2 (pr_kc S0) (sf_X9_settleFromOutside a1 a2 a3 a4 S) := by
  unfold sf_X9_settleFromOutside
  exact (pr_Fb22 (pr_kf_X3_has _ S0 S hS) (fun x2 S1 hS1 => (pr_Fi2 (pr_Fs2 hS1) (pr_Fb22 (pr_kf_X9_isValue _ _ S0 S1 hS1) (fun x5 S4 hS4 => (pr_Fi2 (pr_Fs2 hS4) (pr_Fb22 (pr_kf_X8_of _ _ S0 S4 hS4) (fun x8 S7 hS7 => (pr_Fb12 (pr_kf_X3_settleBy _ _ _ _ S0 S7 hS7) (fun S10 hS10 => (pr_Fs2 hS10)))))))))))
theorem pr_kf_X9_resolve (a1 : Int) (a2 : Int) (a3 : Int) (S0 S : am_S) (hS : pr_kc S0 S) : pr_F2 (pr_kc S0) (sf_X9_resolve a1 a2 a3 S) := by
  unfold sf_X9_resolve
  exact (pr_Fb22 (pr_kf_X9_settleFromOutside _ _ _ _ S0 S hS) (fun x2 S1 hS1 => (pr_Fz2 (pr_Fs2 hS1))))
theorem pr_kf_X9_reject (a1 : Int) (a2 : Int) (a3 : Int) (S0 S : am_S) (hS : pr_kc S0 S) : pr_F2 (pr_kc S0) (sf_X9_reject a1 a2 a3 S) := by
  unfold sf_X9_reject
  exact (pr_Fb22 (pr_kf_X9_settleFromOutside _ _ _ _ S0 S hS) (fun x2 S1 hS1 => (pr_Fz2 (pr_Fs2 hS1))))
theorem pr_kf_X9_isHandler (a1 : Int) (S0 S : am_S) (hS : pr_kc S0 S) : pr_F2 (pr_kc S0) (sf_X9_isHandler a1 S) := by
  unfold sf_X9_isHandler
  exact (pr_Fi2 (pr_Fs2 hS) (pr_Fb22 (pr_kf_X9_isFunction _ S0 S hS) (fun x2 S1 hS1 => (pr_Fi2 (pr_Fs2 hS1) (pr_Fs2 hS1)))))
theorem pr_kf_X9_then (a1 : Int) (a2 : Int) (a3 : Int) (S0 S : am_S) (hS : pr_kc S0 S) : pr_F2 (pr_kc S0) (sf_X9_then a1 a2 a3 S) := by
  unfold sf_X9_then
  exact (pr_Fb22 (pr_kf_X3_has _ S0 S hS) (fun x2 S1 hS1 => (pr_Fi2 (pr_Fs2 hS1) (pr_Fb22 (pr_kf_X9_isHandler _ S0 S1 hS1) (fun x5 S4 hS4 => (pr_Fi2 (pr_Fs2 hS4) (pr_Fb22 (pr_kf_X9_isHandler _ S0 S4 hS4) (fun x8 S7 hS7 => (pr_Fi2 (pr_Fs2 hS7) (pr_Fb22 (pr_kf_X3_isFull  S0 S7 hS7) (fun x11 S10 hS10 => (pr_Fi2 (pr_Fb22 (pr_kf_X5_addHandlers _ _ _ S0 S10 hS10) (fun x14 S13 hS13 => (pr_Fs2 hS13))) (pr_Fs2 hS10)))))))))))))
theorem pr_kf_X9_thenable (a1 : Int) (a2 : Int) (a3 : Int) (a4 : Int) (a5 : Int) (a6 : Int) (S0 S : am_S) (hS : pr_kc S0 S) : pr_F2 (pr_kc S0) (sf_X9_thenable a1 a2 a3 a4 a5 a6 S) := by
  unfold sf_X9_thenable
  exact (pr_Fb22 (pr_kf_X9_isWithin _ _ S0 S hS) (fun x2 S1 hS1 => (pr_Fi2 (pr_Fs2 hS1) (pr_Fb22 (pr_kf_X9_isWithin _ _ S0 S1 hS1) (fun x5 S4 hS4 => (pr_Fi2 (pr_Fs2 hS4) (pr_Fb22 (pr_kf_X9_isValue _ _ S0 S4 hS4) (fun x8 S7 hS7 => (pr_Fi2 (pr_Fs2 hS7) (pr_Fb22 (pr_kf_X9_isValue _ _ S0 S7 hS7) (fun x11 S10 hS10 => (pr_Fi2 (pr_Fs2 hS10) (pr_Fb22 (pr_kf_X8_of _ _ S0 S10 hS10) (fun x14 S13 hS13 => (pr_Fb22 (pr_kf_X8_of _ _ S0 S13 hS13) (fun x17 S16 hS16 => (pr_Fb12 (pr_kf_X7_change _ _ _ _ S0 S16 hS16) (fun S19 hS19 => (pr_Fs2 hS19)))))))))))))))))))
theorem pr_kf_X9_step (a1 : Int) (a2 : Int) (a3 : Int) (a4 : Int) (S0 S : am_S) (hS : pr_kc S0 S) : pr_F2 (pr_kc S0) (sf_X9_step a1 a2 a3 a4 S) := by
  unfold sf_X9_step
  exact (pr_Fb22 (pr_kf_X9_isFunction _ S0 S hS) (fun x2 S1 hS1 => (pr_Fi2 (pr_Fs2 hS1) (pr_Fb22 (pr_kf_X0_mayBeStep _ _ _ S0 S1 hS1) (fun x5 S4 hS4 => (pr_Fi2 (pr_Fs2 hS4) (pr_Fb22 (pr_kf_X0_isFull _ S0 S4 hS4) (fun x8 S7 hS7 => (pr_Fi2 (pr_Fi2 (pr_Fb22 (pr_kf_X8_of _ _ S0 S7 hS7) (fun x17 S16 hS16 => (pr_Fb22 (pr_kf_X0_add _ _ _ S0 S16 hS16) (fun x20 S19 hS19 => (pr_Fs2 hS19))))) (pr_Fb22 (pr_kf_X8_of _ _ S0 S7 hS7) (fun x11 S10 hS10 => (pr_Fb22 (pr_kf_X0_add _ _ _ S0 S10 hS10) (fun x14 S13 hS13 => (pr_Fs2 hS13)))))) (pr_Fs2 hS7))))))))))
theorem pr_kf_X9_empty (a1 : Int) (S0 S : am_S) (hS : pr_kc S0 S) : pr_F2 (pr_kc S0) (sf_X9_empty a1 S) := by
  unfold sf_X9_empty
  exact (pr_Fb22 (pr_kf_X9_isFunction _ S0 S hS) (fun x2 S1 hS1 => (pr_Fi2 (pr_Fs2 hS1) (pr_Fb22 (pr_kf_X0_removeAll _ S0 S1 hS1) (fun x5 S4 hS4 => (pr_Fs2 hS4))))))
theorem pr_kf_X9_start (a1 : Int) (a2 : Int) (a3 : Int) (S0 S : am_S) (hS : pr_kc S0 S) : pr_F2 (pr_kc S0) (sf_X9_start a1 a2 a3 S) := by
  unfold sf_X9_start
  exact (pr_Fb22 (pr_kf_X9_isFunction _ S0 S hS) (fun x2 S1 hS1 => (pr_Fi2 (pr_Fs2 hS1) (pr_Fb22 (pr_kf_X9_isValue _ _ S0 S1 hS1) (fun x5 S4 hS4 => (pr_Fi2 (pr_Fs2 hS4) (pr_Fb22 (pr_kf_X3_isFull  S0 S4 hS4) (fun x8 S7 hS7 => (pr_Fi2 (pr_Fb22 (pr_kf_X8_of _ _ S0 S7 hS7) (fun x11 S10 hS10 => (pr_Fb22 (pr_kf_X5_begin _ _ S0 S10 hS10) (fun x14 S13 hS13 => (pr_Fb12 (pr_kf_X5_goOn  S0 S13 hS13) (fun S16 hS16 => (pr_Fs2 hS16))))))) (pr_Fs2 hS7))))))))))
theorem pr_kf_X9_later (a1 : Int) (a2 : Int) (a3 : Int) (a4 : Int) (S0 S : am_S) (hS : pr_kc S0 S) : pr_F2 (pr_kc S0) (sf_X9_later a1 a2 a3 a4 S) := by
  unfold sf_X9_later
  exact (pr_Fb22 (pr_kf_X9_isFunction _ S0 S hS) (fun x2 S1 hS1 => (pr_Fi2 (pr_Fs2 hS1) (pr_Fb22 (pr_kf_X9_isValue _ _ S0 S1 hS1) (fun x5 S4 hS4 => (pr_Fi2 (pr_Fs2 hS4) (pr_Fb22 (pr_kf_X9_isWithin _ _ S0 S4 hS4) (fun x8 S7 hS7 => (pr_Fi2 (pr_Fs2 hS7) (pr_Fb22 (pr_kf_X6_isFull  S0 S7 hS7) (fun x11 S10 hS10 => (pr_Fi2 (pr_Fb22 (pr_kf_X8_of _ _ S0 S10 hS10) (fun x14 S13 hS13 => (pr_Fb22 (pr_kf_X6_add _ _ _ S0 S13 hS13) (fun x17 S16 hS16 => (pr_Fs2 hS16))))) (pr_Fs2 hS10)))))))))))))
theorem pr_kf_X9_item (a1 : Int) (a2 : Int) (S0 S : am_S) (hS : pr_kc S0 S) : pr_F2 (pr_kc S0) (sf_X9_item a1 a2 S) := by
  unfold sf_X9_item
  exact (pr_Fb22 (pr_kf_X9_isValue _ _ S0 S hS) (fun x2 S1 hS1 => (pr_Fi2 (pr_Fs2 hS1) (pr_Fb22 (pr_kf_X1_isFull  S0 S1 hS1) (fun x5 S4 hS4 => (pr_Fi2 (pr_Fb22 (pr_kf_X8_of _ _ S0 S4 hS4) (fun x8 S7 hS7 => (pr_Fb22 (pr_kf_X1_addItem _ S0 S7 hS7) (fun x11 S10 hS10 => (pr_Fs2 hS10))))) (pr_Fs2 hS4)))))))
theorem pr_kf_X9_group (a1 : Int) (S0 S : am_S) (hS : pr_kc S0 S) : pr_F2 (pr_kc S0) (sf_X9_group a1 S) := by
  unfold sf_X9_group
  exact (pr_Fb22 (pr_kf_X9_isWithin _ _ S0 S hS) (fun x2 S1 hS1 => (pr_Fi2 (pr_Fs2 hS1) (pr_Fb22 (pr_kf_X1_hasRoom  S0 S1 hS1) (fun x5 S4 hS4 => (pr_Fi2 (pr_Fs2 hS4) (pr_Fb22 (pr_kf_X1_form _ S0 S4 hS4) (fun x8 S7 hS7 => (pr_Fs2 hS7)))))))))
theorem pr_kf_X9_adopt (a1 : Int) (a2 : Int) (a3 : Int) (S0 S : am_S) (hS : pr_kc S0 S) : pr_F1 (pr_kc S0) (sf_X9_adopt a1 a2 a3 S) := by
  unfold sf_X9_adopt
  exact (pr_Fb21 (pr_kf_X8_numberOf _ S0 S hS) (fun x2 S1 hS1 => (pr_Fb21 (pr_kf_X8_sortOf _ S0 S1 hS1) (fun x5 S4 hS4 => (pr_Fi1 (pr_Fb21 (pr_kf_X9_jobOf _ _ S0 S4 hS4) (fun x32 S31 hS31 => (pr_Fb11 (pr_kf_X3_waitFor _ _ S0 S31 hS31) (fun S34 hS34 => (pr_Fs1 hS34))))) (pr_Fb21 (pr_kf_X7_kindOf _ S0 S4 hS4) (fun x8 S7 hS7 => (pr_Fi1 (pr_Fb21 (pr_kf_X7_uOf _ S0 S7 hS7) (fun x12 S11 hS11 => (pr_Fb11 (pr_kf_X3_settleBy _ _ _ _ S0 S11 hS11) (fun S14 hS14 => (pr_Fs1 hS14))))) (pr_Fi1 (pr_Fb21 (pr_kf_X7_uOf _ S0 S7 hS7) (fun x17 S16 hS16 => (pr_Fb11 (pr_kf_X3_settleBy _ _ _ _ S0 S16 hS16) (fun S19 hS19 => (pr_Fs1 hS19))))) (pr_Fi1 (pr_Fb21 (pr_kf_X7_uOf _ S0 S7 hS7) (fun x22 S21 hS21 => (pr_Fb11 (pr_kf_X3_settleBy _ _ _ _ S0 S21 hS21) (fun S24 hS24 => (pr_Fb21 (pr_kf_X7_wOf _ S0 S24 hS24) (fun x27 S26 hS26 => (pr_Fb11 (pr_kf_X3_settleBy _ _ _ _ S0 S26 hS26) (fun S29 hS29 => (pr_Fs1 hS29))))))))) (pr_Fs1 hS7)))))))))))
theorem pr_kf_X9_doJob (a1 : Int) (S0 S : am_S) (hS : pr_kc S0 S) : pr_F1 (pr_kc S0) (sf_X9_doJob a1 S) := by
  unfold sf_X9_doJob
  exact (pr_Fb21 (pr_kf_X3_sourceOf _ S0 S hS) (fun x2 S1 hS1 => (pr_Fb21 (pr_kf_X3_statusOf _ S0 S1 hS1) (fun x5 S4 hS4 => (pr_Fb21 (pr_kf_X3_valueOf _ S0 S4 hS4) (fun x8 S7 hS7 => (pr_Fi1 (pr_Fb21 (pr_kf_X3_toAdopt _ S0 S7 hS7) (fun x16 S15 hS15 => (pr_Fb21 (pr_kf_X3_addKey _ S0 S15 hS15) (fun x19 S18 hS18 => (pr_Fb11 (pr_kf_X9_adopt _ _ _ S0 S18 hS18) (fun S21 hS21 => (pr_Fs1 hS21))))))) (pr_Fi1 (pr_Fb21 (pr_kf_X3_lastKeyOf _ S0 S7 hS7) (fun x24 S23 hS23 => (pr_Fb11 (pr_kf_X3_settleBy _ _ _ _ S0 S23 hS23) (fun S26 hS26 => (pr_Fs1 hS26))))) (pr_Fi1 (pr_Fb11 (pr_kf_X5_handle _ _ _ S0 S7 hS7) (fun S28 hS28 => (pr_Fs1 hS28))) (pr_Fi1 (pr_Fb11 (pr_kf_X5_resume _ _ _ S0 S7 hS7) (fun S30 hS30 => (pr_Fs1 hS30))) (pr_Fb11 (pr_kf_X1_settlePlace _ _ _ _ S0 S7 hS7) (fun S11 hS11 => (pr_Fb11 (pr_kf_X1_settleIfComplete _ S0 S11 hS11) (fun S13 hS13 => (pr_Fs1 hS13)))))))))))))))
theorem pr_kf_X9_doTask (a1 : Int) (S0 S : am_S) (hS : pr_kc S0 S) : pr_F1 (pr_kc S0) (sf_X9_doTask a1 S) := by
  unfold sf_X9_doTask
  exact (pr_Fb21 (pr_kf_X6_functionOf _ S0 S hS) (fun x2 S1 hS1 => (pr_Fb21 (pr_kf_X6_valueOf _ S0 S1 hS1) (fun x5 S4 hS4 => (pr_Fb11 (pr_kf_X5_perform _ _ _ S0 S4 hS4) (fun S7 hS7 => (pr_Fb11 (pr_kf_X6_finish _ S0 S7 hS7) (fun S9 hS9 => (pr_Fs1 hS9)))))))))
theorem pr_kf_X9_run_13 : ∀ (fu : Nat) (b1 : Int) (b2 : Int) (S0 S : am_S), pr_kc S0 S → pr_F2 (pr_kc S0) (sf_X9_run_13 fu b1 b2 S) := by
  intro fu
  induction fu with
  | zero => intro b1 b2 S0 S hS; exact pr_Fn2
  | succ fu ih =>
    intro b1 b2 S0 S hS
    simp only [sf_X9_run_13]
    exact (pr_Fi2 (pr_Fs2 hS) (pr_Fb22 (pr_kf_X3_jobs  S0 S hS) (fun x5 S4 hS4 => (pr_Fi2 (pr_Fb12 (pr_kf_X2_beginTurn  S0 S4 hS4) (fun S7 hS7 => (pr_Fb22 (pr_kf_X3_jobs  S0 S7 hS7) (fun x10 S9 hS9 => (pr_Fi2 (pr_Fb22 (pr_kf_X6_dueFirst  S0 S9 hS9) (fun x13 S12 hS12 => (pr_Fb12 (pr_kf_X9_doTask _ S0 S12 hS12) (fun S15 hS15 => (pr_Fb12 (pr_kf_X5_goOn  S0 S15 hS15) (fun S17 hS17 => (ih _ _ S0 S17 hS17))))))) (pr_Fb22 (pr_kf_X3_takeJob  S0 S9 hS9) (fun x20 S19 hS19 => (pr_Fb12 (pr_kf_X9_doJob _ S0 S19 hS19) (fun S22 hS22 => (pr_Fb12 (pr_kf_X5_goOn  S0 S22 hS22) (fun S24 hS24 => (ih _ _ S0 S24 hS24)))))))))))) (pr_Fb22 (pr_kf_X6_size  S0 S4 hS4) (fun x27 S26 hS26 => (pr_Fi2 (pr_Fs2 hS26) (pr_Fb12 (pr_kf_X2_beginTurn  S0 S26 hS26) (fun S29 hS29 => (pr_Fb22 (pr_kf_X3_jobs  S0 S29 hS29) (fun x32 S31 hS31 => (pr_Fi2 (pr_Fb22 (pr_kf_X6_dueFirst  S0 S31 hS31) (fun x35 S34 hS34 => (pr_Fb12 (pr_kf_X9_doTask _ S0 S34 hS34) (fun S37 hS37 => (pr_Fb12 (pr_kf_X5_goOn  S0 S37 hS37) (fun S39 hS39 => (ih _ _ S0 S39 hS39))))))) (pr_Fb22 (pr_kf_X3_takeJob  S0 S31 hS31) (fun x42 S41 hS41 => (pr_Fb12 (pr_kf_X9_doJob _ S0 S41 hS41) (fun S44 hS44 => (pr_Fb12 (pr_kf_X5_goOn  S0 S44 hS44) (fun S46 hS46 => (ih _ _ S0 S46 hS46)))))))))))))))))))
theorem pr_kf_X9_run (a1 : Int) (S0 S : am_S) (hS : pr_kc S0 S) : pr_F2 (pr_kc S0) (sf_X9_run a1 S) := by
  unfold sf_X9_run
  exact (pr_Fb22 (pr_kf_X9_isWithin _ _ S0 S hS) (fun x2 S1 hS1 => (pr_Fi2 (pr_Fs2 hS1) (pr_kf_X9_run_13 1000 _ _ S0 S1 hS1))))
theorem pr_kf_X9_forget (S0 S : am_S) (hS : pr_kc S0 S) : pr_F2 (pr_kc S0) (sf_X9_forget S) := by
  unfold sf_X9_forget
  exact (pr_Fb22 (pr_kf_X3_made  S0 S hS) (fun x2 S1 hS1 => (pr_Fb12 (pr_kf_X3_clear  S0 S1 hS1) (fun S4 hS4 => (pr_Fb12 (pr_kf_X7_clear  S0 S4 hS4) (fun S6 hS6 => (pr_Fb12 (pr_kf_X6_clear  S0 S6 hS6) (fun S8 hS8 => (pr_Fb12 (pr_kf_X2_clear  S0 S8 hS8) (fun S10 hS10 => (pr_Fb12 (pr_kf_X1_clear  S0 S10 hS10) (fun S12 hS12 => (pr_Fb12 (pr_kf_X5_clear  S0 S12 hS12) (fun S14 hS14 => (pr_Fs2 hS14)))))))))))))))
theorem pr_kf_X9_state_29 (b1 : Int) (b2 : Int) (t0 : Int) (S0 S : am_S) (hS : pr_kc S0 S) : pr_F2 (pr_kc S0) (sf_X9_state_29 b1 b2 t0 S) := by
  unfold sf_X9_state_29
  exact (pr_Fi2 (pr_Fb22 (pr_kf_X3_statusOf _ S0 S hS) (fun x9 S8 hS8 => (pr_Fs2 hS8))) (pr_Fi2 (pr_Fi2 (pr_Fb22 (pr_kf_X3_valueOf _ S0 S hS) (fun x12 S11 hS11 => (pr_Fb22 (pr_kf_X8_sortOf _ S0 S11 hS11) (fun x15 S14 hS14 => (pr_Fs2 hS14))))) (pr_Fs2 hS)) (pr_Fi2 (pr_Fi2 (pr_Fb22 (pr_kf_X3_valueOf _ S0 S hS) (fun x18 S17 hS17 => (pr_Fb22 (pr_kf_X8_numberOf _ S0 S17 hS17) (fun x21 S20 hS20 => (pr_Fs2 hS20))))) (pr_Fs2 hS)) (pr_Fi2 (pr_Fb22 (pr_kf_X3_isLoose _ S0 S hS) (fun x24 S23 hS23 => (pr_Fi2 (pr_Fs2 hS23) (pr_Fs2 hS23)))) (pr_Fi2 (pr_Fb22 (pr_kf_X3_reactionsOf _ S0 S hS) (fun x27 S26 hS26 => (pr_Fs2 hS26))) (pr_Fi2 (pr_Fb22 (pr_kf_X3_lastKeyOf _ S0 S hS) (fun x30 S29 hS29 => (pr_Fs2 hS29))) (pr_Fi2 (pr_Fb22 (pr_kf_X3_isKeyUsed _ S0 S hS) (fun x33 S32 hS32 => (pr_Fi2 (pr_Fs2 hS32) (pr_Fs2 hS32)))) (pr_Fi2 (pr_Fb22 (pr_kf_X5_isStopped _ S0 S hS) (fun x36 S35 hS35 => (pr_Fi2 (pr_Fs2 hS35) (pr_Fs2 hS35)))) (pr_Fs2 hS)))))))))
theorem pr_kf_X9_state (a1 : Int) (a2 : Int) (S0 S : am_S) (hS : pr_kc S0 S) : pr_F2 (pr_kc S0) (sf_X9_state a1 a2 S) := by
  unfold sf_X9_state
  exact (pr_Fb22 (pr_kf_X3_has _ S0 S hS) (fun x2 S1 hS1 => (pr_Fi2 (pr_Fs2 hS1) (pr_Fb22 (pr_kf_X3_statusOf _ S0 S1 hS1) (fun x5 S4 hS4 => (pr_Fi2 (pr_kf_X9_state_29 _ _ _ S0 S4 hS4) (pr_kf_X9_state_29 _ _ _ S0 S4 hS4)))))))
theorem pr_kf_X9_noted (a1 : Int) (a2 : Int) (S0 S : am_S) (hS : pr_kc S0 S) : pr_F2 (pr_kc S0) (sf_X9_noted a1 a2 S) := by
  unfold sf_X9_noted
  exact (pr_Fb22 (pr_kf_X2_kept  S0 S hS) (fun x2 S1 hS1 => (pr_Fb22 (pr_kf_X9_isWithin _ _ S0 S1 hS1) (fun x5 S4 hS4 => (pr_Fi2 (pr_Fs2 hS4) (pr_Fi2 (pr_Fb22 (pr_kf_X2_valueOf _ S0 S4 hS4) (fun x9 S8 hS8 => (pr_Fb22 (pr_kf_X8_numberOf _ S0 S8 hS8) (fun x12 S11 hS11 => (pr_Fs2 hS11))))) (pr_Fi2 (pr_Fb22 (pr_kf_X2_valueOf _ S0 S4 hS4) (fun x15 S14 hS14 => (pr_Fb22 (pr_kf_X8_sortOf _ S0 S14 hS14) (fun x18 S17 hS17 => (pr_Fs2 hS17))))) (pr_Fi2 (pr_Fb22 (pr_kf_X2_turnOf _ S0 S4 hS4) (fun x21 S20 hS20 => (pr_Fs2 hS20))) (pr_Fs2 hS4)))))))))
theorem pr_kf_X9_count (a1 : Int) (S0 S : am_S) (hS : pr_kc S0 S) : pr_F2 (pr_kc S0) (sf_X9_count a1 S) := by
  unfold sf_X9_count
  exact (pr_Fi2 (pr_Fb22 (pr_kf_X3_made  S0 S hS) (fun x3 S2 hS2 => (pr_Fs2 hS2))) (pr_Fi2 (pr_Fb22 (pr_kf_X3_jobs  S0 S hS) (fun x6 S5 hS5 => (pr_Fs2 hS5))) (pr_Fi2 (pr_Fb22 (pr_kf_X2_turns  S0 S hS) (fun x9 S8 hS8 => (pr_Fs2 hS8))) (pr_Fi2 (pr_Fb22 (pr_kf_X6_size  S0 S hS) (fun x12 S11 hS11 => (pr_Fs2 hS11))) (pr_Fi2 (pr_Fb22 (pr_kf_X6_time  S0 S hS) (fun x15 S14 hS14 => (pr_Fs2 hS14))) (pr_Fi2 (pr_Fb22 (pr_kf_X2_total  S0 S hS) (fun x18 S17 hS17 => (pr_Fs2 hS17))) (pr_Fi2 (pr_Fb22 (pr_kf_X3_loose  S0 S hS) (fun x21 S20 hS20 => (pr_Fs2 hS20))) (pr_Fi2 (pr_Fb22 (pr_kf_X1_items  S0 S hS) (fun x24 S23 hS23 => (pr_Fs2 hS23))) (pr_Fs2 hS)))))))))
theorem pr_kf_X10_clear_75 : ∀ (fu : Nat) (b1 : Int) (S0 S : am_S), pr_kr S0 S → pr_F1 (pr_kr S0) (sf_X10_clear_75 fu b1 S) := by
  intro fu
  induction fu with
  | zero => intro b1 S0 S hS; exact pr_Fn1
  | succ fu ih =>
    intro b1 S0 S hS
    simp only [sf_X10_clear_75]
    exact (pr_Fi1 (pr_Fs1 hS) (pr_Fg1 (pr_Fl1 (pr_kr_sA hS (by decide)) (fun S9 hS9 => (ih _ S0 S9 hS9)))))
theorem pr_kf_X10_clear_54 : ∀ (fu : Nat) (b1 : Int) (S0 S : am_S), pr_kr S0 S → pr_F1 (pr_kr S0) (sf_X10_clear_54 fu b1 S) := by
  intro fu
  induction fu with
  | zero => intro b1 S0 S hS; exact pr_Fn1
  | succ fu ih =>
    intro b1 S0 S hS
    simp only [sf_X10_clear_54]
    exact (pr_Fi1 (pr_kf_X10_clear_75 1000 _ S0 S hS) (pr_Fg1 (pr_Fl1 (pr_kr_sA hS (by decide)) (fun S8 hS8 => (ih _ S0 S8 hS8)))))
theorem pr_kf_X10_clear_32 : ∀ (fu : Nat) (b1 : Int) (S0 S : am_S), pr_kr S0 S → pr_F1 (pr_kr S0) (sf_X10_clear_32 fu b1 S) := by
  intro fu
  induction fu with
  | zero => intro b1 S0 S hS; exact pr_Fn1
  | succ fu ih =>
    intro b1 S0 S hS
    simp only [sf_X10_clear_32]
    exact (pr_Fi1 (pr_kf_X10_clear_54 1000 _ S0 S hS) (pr_Fg1 (pr_Fl1 (pr_kr_sA hS (by decide)) (fun S7 hS7 => (ih _ S0 S7 hS7)))))
theorem pr_kf_X10_clear (S0 S : am_S) (hS : pr_kr S0 S) : pr_F1 (pr_kr S0) (sf_X10_clear S) := by
  unfold sf_X10_clear
  exact (pr_Fl1 (pr_kr_sI hS (by decide)) (fun S1 hS1 => (pr_Fl1 (pr_kr_sI hS1 (by decide)) (fun S2 hS2 => (pr_Fl1 (pr_kr_sI hS2 (by decide)) (fun S3 hS3 => (pr_Fl1 (pr_kr_sI hS3 (by decide)) (fun S4 hS4 => (pr_Fl1 (pr_kr_sI hS4 (by decide)) (fun S5 hS5 => (pr_Fl1 (pr_kr_sI hS5 (by decide)) (fun S6 hS6 => (pr_kf_X10_clear_32 1000 _ S0 S6 hS6)))))))))))))
theorem pr_kf_X10_in (a1 : Int) (a2 : Int) (a3 : Int) (S0 S : am_S) (hS : pr_kr S0 S) : pr_F2 (pr_kr S0) (sf_X10_in a1 a2 a3 S) := by
  unfold sf_X10_in
  exact (pr_Fi2 (pr_Fs2 hS) (pr_Fi2 (pr_Fs2 hS) (pr_Fs2 hS)))
theorem pr_kf_X10_isPromise (a1 : Int) (S0 S : am_S) (hS : pr_kr S0 S) : pr_F2 (pr_kr S0) (sf_X10_isPromise a1 S) := by
  unfold sf_X10_isPromise
  exact (pr_Fb22 (pr_kf_X10_in _ _ _ S0 S hS) (fun x2 S1 hS1 => (pr_Fz2 (pr_Fs2 hS1))))
theorem pr_kf_X10_isValue_17 (b1 : Int) (b2 : Int) (S0 S : am_S) (hS : pr_kr S0 S) : pr_F2 (pr_kr S0) (sf_X10_isValue_17 b1 b2 S) := by
  unfold sf_X10_isValue_17
  exact (pr_Fi2 (pr_Fb22 (pr_kf_X10_in _ _ _ S0 S hS) (fun x5 S4 hS4 => (pr_Fi2 (pr_Fs2 hS4) (pr_Fs2 hS4)))) (pr_Fs2 hS))
theorem pr_kf_X10_isValue (a1 : Int) (a2 : Int) (S0 S : am_S) (hS : pr_kr S0 S) : pr_F2 (pr_kr S0) (sf_X10_isValue a1 a2 S) := by
  unfold sf_X10_isValue
  exact (pr_Fi2 (pr_Fs2 hS) (pr_Fi2 (pr_Fb22 (pr_kf_X10_isPromise _ S0 S hS) (fun x2 S1 hS1 => (pr_Fi2 (pr_kf_X10_isValue_17 _ _ S0 S1 hS1) (pr_Fs2 hS1)))) (pr_kf_X10_isValue_17 _ _ S0 S hS)))
theorem pr_kf_X10_promise (S0 S : am_S) (hS : pr_kr S0 S) : pr_F2 (pr_kr S0) (sf_X10_promise S) := by
  unfold sf_X10_promise
  exact (pr_Fi2 (pr_Fs2 hS) (pr_Fl2 (pr_kr_sI hS (by decide)) (fun S1 hS1 => (pr_Fg2 (pr_Fl2 (pr_kr_sA hS1 (by decide)) (fun S2 hS2 => (pr_Fg2 (pr_Fl2 (pr_kr_sA hS2 (by decide)) (fun S3 hS3 => (pr_Fg2 (pr_Fl2 (pr_kr_sA hS3 (by decide)) (fun S4 hS4 => (pr_Fg2 (pr_Fl2 (pr_kr_sA hS4 (by decide)) (fun S5 hS5 => (pr_Fg2 (pr_Fl2 (pr_kr_sA hS5 (by decide)) (fun S6 hS6 => (pr_Fs2 hS6)))))))))))))))))))
theorem pr_kf_X10_enter_3 : ∀ (fu : Nat) (b1 : Int) (b2 : Int) (b3 : Int) (b4 : Int) (b5 : Int) (b6 : Int) (S0 S : am_S), pr_kr S0 S → pr_F2 (pr_kr S0) (sf_X10_enter_3 fu b1 b2 b3 b4 b5 b6 S) := by
  intro fu
  induction fu with
  | zero => intro b1 b2 b3 b4 b5 b6 S0 S hS; exact pr_Fn2
  | succ fu ih =>
    intro b1 b2 b3 b4 b5 b6 S0 S hS
    simp only [sf_X10_enter_3]
    exact (pr_Fg2 (pr_Fi2 (pr_Fg2 (pr_Fl2 (pr_kr_sA hS (by decide)) (fun S1 hS1 => (pr_Fg2 (pr_Fl2 (pr_kr_sA hS1 (by decide)) (fun S2 hS2 => (pr_Fl2 (pr_kr_sI hS2 (by decide)) (fun S3 hS3 => (pr_Fg2 (pr_Fl2 (pr_kr_sA hS3 (by decide)) (fun S4 hS4 => (pr_Fg2 (pr_Fl2 (pr_kr_sA hS4 (by decide)) (fun S5 hS5 => (pr_Fg2 (pr_Fl2 (pr_kr_sA hS5 (by decide)) (fun S6 hS6 => (pr_Fg2 (pr_Fl2 (pr_kr_sA hS6 (by decide)) (fun S7 hS7 => (pr_Fs2 hS7))))))))))))))))))))) (ih _ _ _ _ _ _ S0 S hS)))
theorem pr_kf_X10_enter (a1 : Int) (a2 : Int) (a3 : Int) (a4 : Int) (a5 : Int) (S0 S : am_S) (hS : pr_kr S0 S) : pr_F2 (pr_kr S0) (sf_X10_enter a1 a2 a3 a4 a5 S) := by
  unfold sf_X10_enter
  exact (pr_kf_X10_enter_3 1000 _ _ _ _ _ _ S0 S hS)
theorem pr_kf_X10_carry (a1 : Int) (a2 : Int) (a3 : Int) (a4 : Int) (S0 S : am_S) (hS : pr_kr S0 S) : pr_F1 (pr_kr S0) (sf_X10_carry a1 a2 a3 a4 S) := by
  unfold sf_X10_carry
  exact (pr_Fg1 (pr_Fl1 (pr_kr_sA hS (by decide)) (fun S1 hS1 => (pr_Fg1 (pr_Fl1 (pr_kr_sA hS1 (by decide)) (fun S2 hS2 => (pr_Fg1 (pr_Fl1 (pr_kr_sA hS2 (by decide)) (fun S3 hS3 => (pr_Fg1 (pr_Fl1 (pr_kr_sA hS3 (by decide)) (fun S4 hS4 => (pr_Fs1 hS4)))))))))))))
theorem pr_kf_X10_firstOn_4 : ∀ (fu : Nat) (b1 : Int) (b2 : Int) (b3 : Int) (S0 S : am_S), pr_kr S0 S → pr_F2 (pr_kr S0) (sf_X10_firstOn_4 fu b1 b2 b3 S) := by
  intro fu
  induction fu with
  | zero => intro b1 b2 b3 S0 S hS; exact pr_Fn2
  | succ fu ih =>
    intro b1 b2 b3 S0 S hS
    simp only [sf_X10_firstOn_4]
    exact (pr_Fi2 (pr_Fs2 hS) (pr_Fg2 (pr_Fi2 (ih _ _ _ S0 S hS) (pr_Fg2 (pr_Fi2 (pr_Fi2 (ih _ _ _ S0 S hS) (pr_Fg2 (pr_Fg2 (pr_Fi2 (ih _ _ _ S0 S hS) (ih _ _ _ S0 S hS))))) (ih _ _ _ S0 S hS))))))
theorem pr_kf_X10_firstOn (a1 : Int) (S0 S : am_S) (hS : pr_kr S0 S) : pr_F2 (pr_kr S0) (sf_X10_firstOn a1 S) := by
  unfold sf_X10_firstOn
  exact (pr_kf_X10_firstOn_4 1000 _ _ _ S0 S hS)
theorem pr_kf_X10_settle_29 : ∀ (fu : Nat) (b1 : Int) (b2 : Int) (b3 : Int) (b4 : Int) (b5 : Int) (S0 S : am_S), pr_kr S0 S → pr_F1 (pr_kr S0) (sf_X10_settle_29 fu b1 b2 b3 b4 b5 S) := by
  intro fu
  induction fu with
  | zero => intro b1 b2 b3 b4 b5 S0 S hS; exact pr_Fn1
  | succ fu ih =>
    intro b1 b2 b3 b4 b5 S0 S hS
    simp only [sf_X10_settle_29]
    exact (pr_Fi1 (pr_Fs1 hS) (pr_Fb11 (pr_kf_X10_carry _ _ _ _ S0 S hS) (fun S7 hS7 => (pr_Fl1 (pr_kr_sI hS7 (by decide)) (fun S9 hS9 => (pr_Fg1 (pr_Fl1 (pr_kr_sA hS9 (by decide)) (fun S10 hS10 => (pr_Fb21 (pr_kf_X10_firstOn _ S0 S10 hS10) (fun x12 S11 hS11 => (ih _ _ _ _ _ S0 S11 hS11)))))))))))
theorem pr_kf_X10_settle (a1 : Int) (a2 : Int) (a3 : Int) (a4 : Int) (S0 S : am_S) (hS : pr_kr S0 S) : pr_F1 (pr_kr S0) (sf_X10_settle a1 a2 a3 a4 S) := by
  unfold sf_X10_settle
  exact (pr_Fg1 (pr_Fl1 (pr_kr_sA hS (by decide)) (fun S1 hS1 => (pr_Fg1 (pr_Fl1 (pr_kr_sA hS1 (by decide)) (fun S2 hS2 => (pr_Fg1 (pr_Fl1 (pr_kr_sA hS2 (by decide)) (fun S3 hS3 => (pr_Fb21 (pr_kf_X10_firstOn _ S0 S3 hS3) (fun x5 S4 hS4 => (pr_kf_X10_settle_29 1000 _ _ _ _ _ S0 S4 hS4))))))))))))
theorem pr_kf_X10_takes (a1 : Int) (a2 : Int) (S0 S : am_S) (hS : pr_kr S0 S) : pr_F2 (pr_kr S0) (sf_X10_takes a1 a2 S) := by
  unfold sf_X10_takes
  exact (pr_Fg2 (pr_Fi2 (pr_Fg2 (pr_Fi2 (pr_Fg2 (pr_Fl2 (pr_kr_sA hS (by decide)) (fun S1 hS1 => (pr_Fs2 hS1)))) (pr_Fs2 hS))) (pr_Fs2 hS)))
theorem pr_kf_X10_resolveBy_51 (b1 : Int) (b2 : Int) (b3 : Int) (S0 S : am_S) (hS : pr_kr S0 S) : pr_F1 (pr_kr S0) (sf_X10_resolveBy_51 b1 b2 b3 S) := by
  unfold sf_X10_resolveBy_51
  exact (pr_Fb21 (pr_kf_X10_enter _ _ _ _ _ S0 S hS) (fun x9 S8 hS8 => (pr_Fb11 (pr_kf_X10_carry _ _ _ _ S0 S8 hS8) (fun S11 hS11 => (pr_Fs1 hS11)))))
theorem pr_kf_X10_resolveBy (a1 : Int) (a2 : Int) (a3 : Int) (a4 : Int) (S0 S : am_S) (hS : pr_kr S0 S) : pr_F1 (pr_kr S0) (sf_X10_resolveBy a1 a2 a3 a4 S) := by
  unfold sf_X10_resolveBy
  exact (pr_Fb21 (pr_kf_X10_takes _ _ S0 S hS) (fun x2 S1 hS1 => (pr_Fi1 (pr_Fs1 hS1) (pr_Fi1 (pr_Fb11 (pr_kf_X10_settle _ _ _ _ S0 S1 hS1) (fun S6 hS6 => (pr_Fs1 hS6))) (pr_Fi1 (pr_Fi1 (pr_Fb11 (pr_kf_X10_settle _ _ _ _ S0 S1 hS1) (fun S4 hS4 => (pr_Fs1 hS4))) (pr_kf_X10_resolveBy_51 _ _ _ S0 S1 hS1)) (pr_kf_X10_resolveBy_51 _ _ _ S0 S1 hS1))))))
theorem pr_kf_X10_rejectBy (a1 : Int) (a2 : Int) (a3 : Int) (a4 : Int) (S0 S : am_S) (hS : pr_kr S0 S) : pr_F1 (pr_kr S0) (sf_X10_rejectBy a1 a2 a3 a4 S) := by
  unfold sf_X10_rejectBy
  exact (pr_Fb21 (pr_kf_X10_takes _ _ S0 S hS) (fun x2 S1 hS1 => (pr_Fi1 (pr_Fs1 hS1) (pr_Fb11 (pr_kf_X10_settle _ _ _ _ S0 S1 hS1) (fun S4 hS4 => (pr_Fs1 hS4))))))
theorem pr_kf_X10_endBy (a1 : Int) (a2 : Int) (a3 : Int) (a4 : Int) (a5 : Int) (S0 S : am_S) (hS : pr_kr S0 S) : pr_F1 (pr_kr S0) (sf_X10_endBy a1 a2 a3 a4 a5 S) := by
  unfold sf_X10_endBy
  exact (pr_Fi1 (pr_Fb11 (pr_kf_X10_resolveBy _ _ _ _ S0 S hS) (fun S1 hS1 => (pr_Fs1 hS1))) (pr_Fb11 (pr_kf_X10_rejectBy _ _ _ _ S0 S hS) (fun S3 hS3 => (pr_Fs1 hS3))))
theorem pr_kf_X10_waitFor (a1 : Int) (a2 : Int) (a3 : Int) (a4 : Int) (a5 : Int) (S0 S : am_S) (hS : pr_kr S0 S) : pr_F1 (pr_kr S0) (sf_X10_waitFor a1 a2 a3 a4 a5 S) := by
  unfold sf_X10_waitFor
  exact (pr_Fg1 (pr_Fl1 (pr_kr_sA hS (by decide)) (fun S1 hS1 => (pr_Fb21 (pr_kf_X10_enter _ _ _ _ _ S0 S1 hS1) (fun x3 S2 hS2 => (pr_Fg1 (pr_Fi1 (pr_Fs1 hS2) (pr_Fg1 (pr_Fg1 (pr_Fg1 (pr_Fb11 (pr_kf_X10_carry _ _ _ _ S0 S2 hS2) (fun S5 hS5 => (pr_Fs1 hS5)))))))))))))
theorem pr_kf_X10_resolve (a1 : Int) (a2 : Int) (a3 : Int) (S0 S : am_S) (hS : pr_kr S0 S) : pr_F2 (pr_kr S0) (sf_X10_resolve a1 a2 a3 S) := by
  unfold sf_X10_resolve
  exact (pr_Fb22 (pr_kf_X10_isPromise _ S0 S hS) (fun x2 S1 hS1 => (pr_Fi2 (pr_Fs2 hS1) (pr_Fb22 (pr_kf_X10_isValue _ _ S0 S1 hS1) (fun x5 S4 hS4 => (pr_Fi2 (pr_Fs2 hS4) (pr_Fb12 (pr_kf_X10_resolveBy _ _ _ _ S0 S4 hS4) (fun S7 hS7 => (pr_Fs2 hS7)))))))))
theorem pr_kf_X10_reject (a1 : Int) (a2 : Int) (a3 : Int) (S0 S : am_S) (hS : pr_kr S0 S) : pr_F2 (pr_kr S0) (sf_X10_reject a1 a2 a3 S) := by
  unfold sf_X10_reject
  exact (pr_Fb22 (pr_kf_X10_isPromise _ S0 S hS) (fun x2 S1 hS1 => (pr_Fi2 (pr_Fs2 hS1) (pr_Fb22 (pr_kf_X10_isValue _ _ S0 S1 hS1) (fun x5 S4 hS4 => (pr_Fi2 (pr_Fs2 hS4) (pr_Fb12 (pr_kf_X10_rejectBy _ _ _ _ S0 S4 hS4) (fun S7 hS7 => (pr_Fs2 hS7)))))))))
theorem pr_kf_X10_then (a1 : Int) (a2 : Int) (a3 : Int) (S0 S : am_S) (hS : pr_kr S0 S) : pr_F2 (pr_kr S0) (sf_X10_then a1 a2 a3 S) := by
  unfold sf_X10_then
  exact (pr_Fb22 (pr_kf_X10_isPromise _ S0 S hS) (fun x2 S1 hS1 => (pr_Fi2 (pr_Fs2 hS1) (pr_Fb22 (pr_kf_X10_in _ _ _ S0 S1 hS1) (fun x5 S4 hS4 => (pr_Fi2 (pr_Fs2 hS4) (pr_Fb22 (pr_kf_X10_in _ _ _ S0 S4 hS4) (fun x8 S7 hS7 => (pr_Fi2 (pr_Fs2 hS7) (pr_Fb22 (pr_kf_X10_promise  S0 S7 hS7) (fun x11 S10 hS10 => (pr_Fi2 (pr_Fs2 hS10) (pr_Fb12 (pr_kf_X10_waitFor _ _ _ _ _ S0 S10 hS10) (fun S13 hS13 => (pr_Fs2 hS13)))))))))))))))
theorem pr_kf_X10_thenable (a1 : Int) (a2 : Int) (a3 : Int) (a4 : Int) (a5 : Int) (a6 : Int) (S0 S : am_S) (hS : pr_kr S0 S) : pr_F2 (pr_kr S0) (sf_X10_thenable a1 a2 a3 a4 a5 a6 S) := by
  unfold sf_X10_thenable
  exact (pr_Fb22 (pr_kf_X10_in _ _ _ S0 S hS) (fun x2 S1 hS1 => (pr_Fi2 (pr_Fs2 hS1) (pr_Fb22 (pr_kf_X10_in _ _ _ S0 S1 hS1) (fun x5 S4 hS4 => (pr_Fi2 (pr_Fs2 hS4) (pr_Fb22 (pr_kf_X10_isValue _ _ S0 S4 hS4) (fun x8 S7 hS7 => (pr_Fi2 (pr_Fs2 hS7) (pr_Fb22 (pr_kf_X10_isValue _ _ S0 S7 hS7) (fun x11 S10 hS10 => (pr_Fi2 (pr_Fs2 hS10) (pr_Fg2 (pr_Fl2 (pr_kr_sA hS10 (by decide)) (fun S13 hS13 => (pr_Fg2 (pr_Fl2 (pr_kr_sA hS13 (by decide)) (fun S14 hS14 => (pr_Fg2 (pr_Fl2 (pr_kr_sA hS14 (by decide)) (fun S15 hS15 => (pr_Fg2 (pr_Fl2 (pr_kr_sA hS15 (by decide)) (fun S16 hS16 => (pr_Fg2 (pr_Fl2 (pr_kr_sA hS16 (by decide)) (fun S17 hS17 => (pr_Fs2 hS17))))))))))))))))))))))))))))
theorem pr_kf_X10_step_142 (b1 : Int) (b2 : Int) (b3 : Int) (b4 : Int) (S0 S : am_S) (hS : pr_kr S0 S) : pr_F2 (pr_kr S0) (sf_X10_step_142 b1 b2 b3 b4 S) := by
  unfold sf_X10_step_142
  exact (pr_Fg2 (pr_Fi2 (pr_Fs2 hS) (pr_Fg2 (pr_Fg2 (pr_Fl2 (pr_kr_sA hS (by decide)) (fun S37 hS37 => (pr_Fg2 (pr_Fl2 (pr_kr_sA hS37 (by decide)) (fun S38 hS38 => (pr_Fg2 (pr_Fl2 (pr_kr_sA hS38 (by decide)) (fun S39 hS39 => (pr_Fg2 (pr_Fg2 (pr_Fl2 (pr_kr_sA hS39 (by decide)) (fun S40 hS40 => (pr_Fs2 hS40)))))))))))))))))
theorem pr_kf_X10_step_64 (b1 : Int) (b2 : Int) (b3 : Int) (b4 : Int) (S0 S : am_S) (hS : pr_kr S0 S) : pr_F2 (pr_kr S0) (sf_X10_step_64 b1 b2 b3 b4 S) := by
  unfold sf_X10_step_64
  exact (pr_Fi2 (pr_Fb22 (pr_kf_X10_in _ _ _ S0 S hS) (fun x17 S16 hS16 => (pr_Fi2 (pr_Fs2 hS16) (pr_kf_X10_step_142 _ _ _ _ S0 S16 hS16)))) (pr_Fi2 (pr_Fb22 (pr_kf_X10_in _ _ _ S0 S hS) (fun x20 S19 hS19 => (pr_Fi2 (pr_Fs2 hS19) (pr_kf_X10_step_142 _ _ _ _ S0 S19 hS19)))) (pr_Fi2 (pr_Fb22 (pr_kf_X10_in _ _ _ S0 S hS) (fun x35 S34 hS34 => (pr_Fi2 (pr_Fs2 hS34) (pr_kf_X10_step_142 _ _ _ _ S0 S34 hS34)))) (pr_Fi2 (pr_Fb22 (pr_kf_X10_in _ _ _ S0 S hS) (fun x23 S22 hS22 => (pr_Fi2 (pr_Fs2 hS22) (pr_kf_X10_step_142 _ _ _ _ S0 S22 hS22)))) (pr_Fi2 (pr_Fb22 (pr_kf_X10_in _ _ _ S0 S hS) (fun x32 S31 hS31 => (pr_Fi2 (pr_Fs2 hS31) (pr_kf_X10_step_142 _ _ _ _ S0 S31 hS31)))) (pr_Fi2 (pr_Fb22 (pr_kf_X10_in _ _ _ S0 S hS) (fun x26 S25 hS25 => (pr_Fi2 (pr_Fs2 hS25) (pr_kf_X10_step_142 _ _ _ _ S0 S25 hS25)))) (pr_Fi2 (pr_Fb22 (pr_kf_X10_in _ _ _ S0 S hS) (fun x29 S28 hS28 => (pr_Fi2 (pr_Fs2 hS28) (pr_kf_X10_step_142 _ _ _ _ S0 S28 hS28)))) (pr_kf_X10_step_142 _ _ _ _ S0 S hS))))))))
theorem pr_kf_X10_step (a1 : Int) (a2 : Int) (a3 : Int) (a4 : Int) (S0 S : am_S) (hS : pr_kr S0 S) : pr_F2 (pr_kr S0) (sf_X10_step a1 a2 a3 a4 S) := by
  unfold sf_X10_step
  exact (pr_Fb22 (pr_kf_X10_in _ _ _ S0 S hS) (fun x2 S1 hS1 => (pr_Fi2 (pr_Fs2 hS1) (pr_Fb22 (pr_kf_X10_in _ _ _ S0 S1 hS1) (fun x5 S4 hS4 => (pr_Fi2 (pr_Fs2 hS4) (pr_Fi2 (pr_Fi2 (pr_kf_X10_step_64 _ _ _ _ S0 S4 hS4) (pr_Fi2 (pr_Fb22 (pr_kf_X10_in _ _ _ S0 S4 hS4) (fun x11 S10 hS10 => (pr_Fi2 (pr_Fi2 (pr_Fb22 (pr_kf_X10_in _ _ _ S0 S10 hS10) (fun x14 S13 hS13 => (pr_Fi2 (pr_Fs2 hS13) (pr_kf_X10_step_64 _ _ _ _ S0 S13 hS13)))) (pr_Fs2 hS10)) (pr_kf_X10_step_64 _ _ _ _ S0 S10 hS10)))) (pr_Fi2 (pr_Fb22 (pr_kf_X10_in _ _ _ S0 S4 hS4) (fun x8 S7 hS7 => (pr_Fi2 (pr_Fs2 hS7) (pr_kf_X10_step_64 _ _ _ _ S0 S7 hS7)))) (pr_Fs2 hS4)))) (pr_kf_X10_step_64 _ _ _ _ S0 S4 hS4))))))))
theorem pr_kf_X10_empty (a1 : Int) (S0 S : am_S) (hS : pr_kr S0 S) : pr_F2 (pr_kr S0) (sf_X10_empty a1 S) := by
  unfold sf_X10_empty
  exact (pr_Fb22 (pr_kf_X10_in _ _ _ S0 S hS) (fun x2 S1 hS1 => (pr_Fi2 (pr_Fs2 hS1) (pr_Fg2 (pr_Fg2 (pr_Fl2 (pr_kr_sA hS1 (by decide)) (fun S4 hS4 => (pr_Fs2 hS4))))))))
theorem pr_kf_X10_begin (a1 : Int) (a2 : Int) (a3 : Int) (a4 : Int) (a5 : Int) (S0 S : am_S) (hS : pr_kr S0 S) : pr_F1 (pr_kr S0) (sf_X10_begin a1 a2 a3 a4 a5 S) := by
  unfold sf_X10_begin
  exact (pr_Fl1 (pr_kr_sI hS (by decide)) (fun S1 hS1 => (pr_Fg1 (pr_Fl1 (pr_kr_sA hS1 (by decide)) (fun S2 hS2 => (pr_Fg1 (pr_Fl1 (pr_kr_sA hS2 (by decide)) (fun S3 hS3 => (pr_Fg1 (pr_Fl1 (pr_kr_sA hS3 (by decide)) (fun S4 hS4 => (pr_Fg1 (pr_Fl1 (pr_kr_sA hS4 (by decide)) (fun S5 hS5 => (pr_Fg1 (pr_Fl1 (pr_kr_sA hS5 (by decide)) (fun S6 hS6 => (pr_Fs1 hS6))))))))))))))))))
theorem pr_kf_X10_put (a1 : Int) (a2 : Int) (S0 S : am_S) (hS : pr_kr S0 S) : pr_F1 (pr_kr S0) (sf_X10_put a1 a2 S) := by
  unfold sf_X10_put
  exact (pr_Fg1 (pr_Fl1 (pr_kr_sA hS (by decide)) (fun S1 hS1 => (pr_Fg1 (pr_Fl1 (pr_kr_sA hS1 (by decide)) (fun S2 hS2 => (pr_Fs1 hS2)))))))
theorem pr_kf_X10_endOf_7 : ∀ (fu : Nat) (b1 : Int) (b3 : Int) (b4 : Int) (S0 S : am_S), pr_kr S0 S → pr_F2 (pr_kr S0) (sf_X10_endOf_7 fu b1 b3 b4 S) := by
  intro fu
  induction fu with
  | zero => intro b1 b3 b4 S0 S hS; exact pr_Fn2
  | succ fu ih =>
    intro b1 b3 b4 S0 S hS
    simp only [sf_X10_endOf_7]
    exact (pr_Fg2 (pr_Fi2 (pr_Fs2 hS) (pr_Fg2 (pr_Fi2 (pr_Fi2 (pr_Fs2 hS) (pr_Fi2 (ih _ _ _ S0 S hS) (pr_Fi2 (ih _ _ _ S0 S hS) (ih _ _ _ S0 S hS)))) (pr_Fi2 (ih _ _ _ S0 S hS) (pr_Fi2 (ih _ _ _ S0 S hS) (ih _ _ _ S0 S hS)))))))
theorem pr_kf_X10_endOf (a1 : Int) (a2 : Int) (S0 S : am_S) (hS : pr_kr S0 S) : pr_F2 (pr_kr S0) (sf_X10_endOf a1 a2 S) := by
  unfold sf_X10_endOf
  exact (pr_kf_X10_endOf_7 1000 _ _ _ S0 S hS)
theorem pr_kf_X10_finish (a1 : Int) (a2 : Int) (a3 : Int) (S0 S : am_S) (hS : pr_kr S0 S) : pr_F1 (pr_kr S0) (sf_X10_finish a1 a2 a3 S) := by
  unfold sf_X10_finish
  exact (pr_Fg1 (pr_Fl1 (pr_kr_sI hS (by decide)) (fun S1 hS1 => (pr_Fi1 (pr_Fz1 (pr_Fl1 (pr_kr_sI hS1 (by decide)) (fun S2 hS2 => (pr_Fl1 (pr_kr_sI hS2 (by decide)) (fun S3 hS3 => (pr_Fl1 (pr_kr_sI hS3 (by decide)) (fun S4 hS4 => (pr_Fs1 hS4)))))))) (pr_Fb11 (pr_kf_X10_endBy _ _ _ _ _ S0 S1 hS1) (fun S5 hS5 => (pr_Fs1 hS5)))))))
theorem pr_kf_X10_fling_35 : ∀ (fu : Nat) (b1 : Int) (b2 : Int) (b3 : Int) (b4 : Int) (b5 : Int) (S0 S : am_S), pr_kr S0 S → pr_F1 (pr_kr S0) (sf_X10_fling_35 fu b1 b2 b3 b4 b5 S) := by
  intro fu
  induction fu with
  | zero => intro b1 b2 b3 b4 b5 S0 S hS; exact pr_Fn1
  | succ fu ih =>
    intro b1 b2 b3 b4 b5 S0 S hS
    simp only [sf_X10_fling_35]
    exact (pr_Fi1 (pr_Fb11 (pr_kf_X10_finish _ _ _ S0 S hS) (fun S3 hS3 => (pr_Fs1 hS3))) (pr_Fg1 (pr_Fi1 (ih _ _ _ _ _ S0 S hS) (pr_Fg1 (pr_Fi1 (pr_Fb21 (pr_kf_X10_endOf _ _ S0 S hS) (fun x6 S5 hS5 => (pr_Fi1 (pr_Fg1 (pr_Fl1 (pr_kr_sA hS5 (by decide)) (fun S8 hS8 => (pr_Fs1 hS8)))) (ih _ _ _ _ _ S0 S5 hS5)))) (ih _ _ _ _ _ S0 S hS))))))
theorem pr_kf_X10_fling (a1 : Int) (a2 : Int) (S0 S : am_S) (hS : pr_kr S0 S) : pr_F1 (pr_kr S0) (sf_X10_fling a1 a2 S) := by
  unfold sf_X10_fling
  exact (pr_Fg1 (pr_Fg1 (pr_Fb11 (pr_kf_X10_put _ _ S0 S hS) (fun S1 hS1 => (pr_kf_X10_fling_35 1000 _ _ _ _ _ S0 S1 hS1)))))
theorem pr_kf_X10_note (a1 : Int) (a2 : Int) (S0 S : am_S) (hS : pr_kr S0 S) : pr_F1 (pr_kr S0) (sf_X10_note a1 a2 S) := by
  unfold sf_X10_note
  exact (pr_Fg1 (pr_Fl1 (pr_kr_sA hS (by decide)) (fun S1 hS1 => (pr_Fg1 (pr_Fl1 (pr_kr_sA hS1 (by decide)) (fun S2 hS2 => (pr_Fg1 (pr_Fl1 (pr_kr_sA hS2 (by decide)) (fun S3 hS3 => (pr_Fl1 (pr_kr_sI hS3 (by decide)) (fun S4 hS4 => (pr_Fs1 hS4))))))))))))
theorem pr_kf_X10_awaits_86 (b1 : Int) (b2 : Int) (S0 S : am_S) (hS : pr_kr S0 S) : pr_F1 (pr_kr S0) (sf_X10_awaits_86 b1 b2 S) := by
  unfold sf_X10_awaits_86
  exact (pr_Fg1 (pr_Fl1 (pr_kr_sA hS (by decide)) (fun S10 hS10 => (pr_Fg1 (pr_Fg1 (pr_Fl1 (pr_kr_sA hS10 (by decide)) (fun S11 hS11 => (pr_Fg1 (pr_Fg1 (pr_Fl1 (pr_kr_sA hS11 (by decide)) (fun S12 hS12 => (pr_Fl1 (pr_kr_sI hS12 (by decide)) (fun S13 hS13 => (pr_Fb11 (pr_kf_X10_waitFor _ _ _ _ _ S0 S13 hS13) (fun S14 hS14 => (pr_Fs1 hS14))))))))))))))))
theorem pr_kf_X10_awaits (S0 S : am_S) (hS : pr_kr S0 S) : pr_F1 (pr_kr S0) (sf_X10_awaits S) := by
  unfold sf_X10_awaits
  exact (pr_Fg1 (pr_Fg1 (pr_Fi1 (pr_Fg1 (pr_Fi1 (pr_kf_X10_awaits_86 _ _ S0 S hS) (pr_Fb21 (pr_kf_X10_promise  S0 S hS) (fun x2 S1 hS1 => (pr_Fi1 (pr_Fg1 (pr_Fg1 (pr_Fb11 (pr_kf_X10_resolveBy _ _ _ _ S0 S1 hS1) (fun S4 hS4 => (pr_kf_X10_awaits_86 _ _ S0 S4 hS4))))) (pr_Fb11 (pr_kf_X10_fling _ _ S0 S1 hS1) (fun S6 hS6 => (pr_Fs1 hS6)))))))) (pr_Fb11 (pr_kf_X10_fling _ _ S0 S hS) (fun S8 hS8 => (pr_Fs1 hS8))))))
theorem pr_kf_X10_make (S0 S : am_S) (hS : pr_kr S0 S) : pr_F2 (pr_kr S0) (sf_X10_make S) := by
  unfold sf_X10_make
  exact (pr_Fb22 (pr_kf_X10_promise  S0 S hS) (fun x2 S1 hS1 => (pr_Fi2 (pr_Fs2 hS1) (pr_Fb12 (pr_kf_X10_fling _ _ S0 S1 hS1) (fun S4 hS4 => (pr_Fs2 hS4))))))
theorem pr_kf_X10_task_26 (b1 : Int) (b2 : Int) (b3 : Int) (b4 : Int) (b5 : Int) (S0 S : am_S) (hS : pr_kr S0 S) : pr_F2 (pr_kr S0) (sf_X10_task_26 b1 b2 b3 b4 b5 S) := by
  unfold sf_X10_task_26
  exact (pr_Fi2 (pr_Fs2 hS) (pr_Fg2 (pr_Fl2 (pr_kr_sA hS (by decide)) (fun S1 hS1 => (pr_Fl2 (pr_kr_sI hS1 (by decide)) (fun S2 hS2 => (pr_Fg2 (pr_Fl2 (pr_kr_sA hS2 (by decide)) (fun S3 hS3 => (pr_Fg2 (pr_Fl2 (pr_kr_sA hS3 (by decide)) (fun S4 hS4 => (pr_Fg2 (pr_Fl2 (pr_kr_sA hS4 (by decide)) (fun S5 hS5 => (pr_Fg2 (pr_Fl2 (pr_kr_sA hS5 (by decide)) (fun S6 hS6 => (pr_Fs2 hS6)))))))))))))))))))
theorem pr_kf_X10_task_3 : ∀ (fu : Nat) (b1 : Int) (b2 : Int) (b3 : Int) (b4 : Int) (b5 : Int) (S0 S : am_S), pr_kr S0 S → pr_F2 (pr_kr S0) (sf_X10_task_3 fu b1 b2 b3 b4 b5 S) := by
  intro fu
  induction fu with
  | zero => intro b1 b2 b3 b4 b5 S0 S hS; exact pr_Fn2
  | succ fu ih =>
    intro b1 b2 b3 b4 b5 S0 S hS
    simp only [sf_X10_task_3]
    exact (pr_Fi2 (pr_kf_X10_task_26 _ _ _ _ _ S0 S hS) (pr_Fg2 (pr_Fi2 (pr_kf_X10_task_26 _ _ _ _ _ S0 S hS) (ih _ _ _ _ _ S0 S hS))))
theorem pr_kf_X10_task (a1 : Int) (a2 : Int) (a3 : Int) (a4 : Int) (S0 S : am_S) (hS : pr_kr S0 S) : pr_F2 (pr_kr S0) (sf_X10_task a1 a2 a3 a4 S) := by
  unfold sf_X10_task
  exact (pr_kf_X10_task_3 1000 _ _ _ _ _ S0 S hS)
theorem pr_kf_X10_does (a1 : Int) (a2 : Int) (a3 : Int) (S0 S : am_S) (hS : pr_kr S0 S) : pr_F1 (pr_kr S0) (sf_X10_does a1 a2 a3 S) := by
  unfold sf_X10_does
  exact (pr_Fg1 (pr_Fg1 (pr_Fi1 (pr_Fb11 (pr_kf_X10_note _ _ S0 S hS) (fun S2 hS2 => (pr_Fs1 hS2))) (pr_Fi1 (pr_Fb11 (pr_kf_X10_note _ _ S0 S hS) (fun S4 hS4 => (pr_Fs1 hS4))) (pr_Fi1 (pr_Fi1 (pr_Fb21 (pr_kf_X10_isPromise _ S0 S hS) (fun x9 S8 hS8 => (pr_Fi1 (pr_Fb11 (pr_kf_X10_fling _ _ S0 S8 hS8) (fun S13 hS13 => (pr_Fs1 hS13))) (pr_Fb11 (pr_kf_X10_put _ _ S0 S8 hS8) (fun S11 hS11 => (pr_Fs1 hS11)))))) (pr_Fb11 (pr_kf_X10_put _ _ S0 S hS) (fun S6 hS6 => (pr_Fs1 hS6)))) (pr_Fi1 (pr_Fb11 (pr_kf_X10_finish _ _ _ S0 S hS) (fun S15 hS15 => (pr_Fs1 hS15))) (pr_Fi1 (pr_Fb11 (pr_kf_X10_fling _ _ S0 S hS) (fun S17 hS17 => (pr_Fs1 hS17))) (pr_Fi1 (pr_Fb11 (pr_kf_X10_awaits  S0 S hS) (fun S19 hS19 => (pr_Fs1 hS19))) (pr_Fi1 (pr_Fb21 (pr_kf_X10_make  S0 S hS) (fun x22 S21 hS21 => (pr_Fi1 (pr_Fb11 (pr_kf_X10_put _ _ S0 S21 hS21) (fun S24 hS24 => (pr_Fb11 (pr_kf_X10_begin _ _ _ _ _ S0 S24 hS24) (fun S26 hS26 => (pr_Fs1 hS26))))) (pr_Fs1 hS21)))) (pr_Fi1 (pr_Fb21 (pr_kf_X10_isPromise _ S0 S hS) (fun x29 S28 hS28 => (pr_Fi1 (pr_Fb11 (pr_kf_X10_fling _ _ S0 S28 hS28) (fun S35 hS35 => (pr_Fs1 hS35))) (pr_Fi1 (pr_Fb11 (pr_kf_X10_endBy _ _ _ _ _ S0 S28 hS28) (fun S33 hS33 => (pr_Fs1 hS33))) (pr_Fb11 (pr_kf_X10_endBy _ _ _ _ _ S0 S28 hS28) (fun S31 hS31 => (pr_Fs1 hS31))))))) (pr_Fi1 (pr_Fb21 (pr_kf_X10_isPromise _ S0 S hS) (fun x38 S37 hS37 => (pr_Fi1 (pr_Fb11 (pr_kf_X10_fling _ _ S0 S37 hS37) (fun S44 hS44 => (pr_Fs1 hS44))) (pr_Fi1 (pr_Fb11 (pr_kf_X10_endBy _ _ _ _ _ S0 S37 hS37) (fun S42 hS42 => (pr_Fs1 hS42))) (pr_Fb11 (pr_kf_X10_endBy _ _ _ _ _ S0 S37 hS37) (fun S40 hS40 => (pr_Fs1 hS40))))))) (pr_Fi1 (pr_Fi1 (pr_Fb21 (pr_kf_X10_make  S0 S hS) (fun x47 S46 hS46 => (pr_Fi1 (pr_Fb11 (pr_kf_X10_waitFor _ _ _ _ _ S0 S46 hS46) (fun S49 hS49 => (pr_Fb11 (pr_kf_X10_put _ _ S0 S49 hS49) (fun S51 hS51 => (pr_Fs1 hS51))))) (pr_Fs1 hS46)))) (pr_Fb11 (pr_kf_X10_fling _ _ S0 S hS) (fun S53 hS53 => (pr_Fs1 hS53)))) (pr_Fi1 (pr_Fb21 (pr_kf_X10_task _ _ _ _ S0 S hS) (fun x56 S55 hS55 => (pr_Fi1 (pr_Fb11 (pr_kf_X10_fling _ _ S0 S55 hS55) (fun S58 hS58 => (pr_Fs1 hS58))) (pr_Fs1 hS55)))) (pr_Fi1 (pr_Fi1 (pr_Fi1 (pr_Fg1 (pr_Fl1 (pr_kr_sA hS (by decide)) (fun S60 hS60 => (pr_Fs1 hS60)))) (pr_Fs1 hS)) (pr_Fs1 hS)) (pr_Fi1 (pr_Fi1 (pr_Fi1 (pr_Fb11 (pr_kf_X10_put _ _ S0 S hS) (fun S61 hS61 => (pr_Fg1 (pr_Fl1 (pr_kr_sA hS61 (by decide)) (fun S63 hS63 => (pr_Fs1 hS63)))))) (pr_Fs1 hS)) (pr_Fs1 hS)) (pr_Fs1 hS))))))))))))))))
theorem pr_kf_X10_go_0 : ∀ (fu : Nat) (S0 S : am_S), pr_kr S0 S → pr_F1 (pr_kr S0) (sf_X10_go_0 fu S) := by
  intro fu
  induction fu with
  | zero => intro S0 S hS; exact pr_Fn1
  | succ fu ih =>
    intro S0 S hS
    simp only [sf_X10_go_0]
    exact (pr_Fi1 (pr_Fs1 hS) (pr_Fg1 (pr_Fg1 (pr_Fg1 (pr_Fi1 (pr_Fg1 (pr_Fg1 (pr_Fl1 (pr_kr_sA hS (by decide)) (fun S1 hS1 => (pr_Fl1 (pr_kr_sI hS1 (by decide)) (fun S2 hS2 => (pr_Fi1 (pr_Fg1 (pr_Fg1 (pr_Fg1 (pr_Fb11 (pr_kf_X10_does _ _ _ S0 S2 hS2) (fun S3 hS3 => (ih  S0 S3 hS3)))))) (pr_Fb11 (pr_kf_X10_fling _ _ S0 S2 hS2) (fun S5 hS5 => (ih  S0 S5 hS5)))))))))) (pr_Fb11 (pr_kf_X10_finish _ _ _ S0 S hS) (fun S7 hS7 => (ih  S0 S7 hS7))))))))
theorem pr_kf_X10_go (S0 S : am_S) (hS : pr_kr S0 S) : pr_F1 (pr_kr S0) (sf_X10_go S) := by
  unfold sf_X10_go
  exact (pr_kf_X10_go_0 1000000  S0 S hS)
theorem pr_kf_X10_start (a1 : Int) (a2 : Int) (a3 : Int) (S0 S : am_S) (hS : pr_kr S0 S) : pr_F2 (pr_kr S0) (sf_X10_start a1 a2 a3 S) := by
  unfold sf_X10_start
  exact (pr_Fb22 (pr_kf_X10_in _ _ _ S0 S hS) (fun x2 S1 hS1 => (pr_Fi2 (pr_Fs2 hS1) (pr_Fb22 (pr_kf_X10_isValue _ _ S0 S1 hS1) (fun x5 S4 hS4 => (pr_Fi2 (pr_Fs2 hS4) (pr_Fb22 (pr_kf_X10_promise  S0 S4 hS4) (fun x8 S7 hS7 => (pr_Fi2 (pr_Fl2 (pr_kr_sI hS7 (by decide)) (fun S10 hS10 => (pr_Fl2 (pr_kr_sI hS10 (by decide)) (fun S11 hS11 => (pr_Fb12 (pr_kf_X10_begin _ _ _ _ _ S0 S11 hS11) (fun S12 hS12 => (pr_Fb12 (pr_kf_X10_go  S0 S12 hS12) (fun S14 hS14 => (pr_Fs2 hS14))))))))) (pr_Fs2 hS7))))))))))
theorem pr_kf_X10_isLoose (a1 : Int) (S0 S : am_S) (hS : pr_kr S0 S) : pr_F2 (pr_kr S0) (sf_X10_isLoose a1 S) := by
  unfold sf_X10_isLoose
  exact (pr_Fg2 (pr_Fi2 (pr_Fg2 (pr_Fi2 (pr_Fs2 hS) (pr_Fs2 hS))) (pr_Fs2 hS)))
theorem pr_kf_X10_waiting_4 : ∀ (fu : Nat) (b1 : Int) (b2 : Int) (b3 : Int) (S0 S : am_S), pr_kr S0 S → pr_F2 (pr_kr S0) (sf_X10_waiting_4 fu b1 b2 b3 S) := by
  intro fu
  induction fu with
  | zero => intro b1 b2 b3 S0 S hS; exact pr_Fn2
  | succ fu ih =>
    intro b1 b2 b3 S0 S hS
    simp only [sf_X10_waiting_4]
    exact (pr_Fi2 (pr_Fs2 hS) (pr_Fg2 (pr_Fi2 (ih _ _ _ S0 S hS) (pr_Fg2 (pr_Fi2 (ih _ _ _ S0 S hS) (ih _ _ _ S0 S hS))))))
theorem pr_kf_X10_waiting (a1 : Int) (S0 S : am_S) (hS : pr_kr S0 S) : pr_F2 (pr_kr S0) (sf_X10_waiting a1 S) := by
  unfold sf_X10_waiting
  exact (pr_kf_X10_waiting_4 1000 _ _ _ S0 S hS)
theorem pr_kf_X10_count_66 : ∀ (fu : Nat) (b2 : Int) (b3 : Int) (S0 S : am_S), pr_kr S0 S → pr_F2 (pr_kr S0) (sf_X10_count_66 fu b2 b3 S) := by
  intro fu
  induction fu with
  | zero => intro b2 b3 S0 S hS; exact pr_Fn2
  | succ fu ih =>
    intro b2 b3 S0 S hS
    simp only [sf_X10_count_66]
    exact (pr_Fi2 (pr_Fs2 hS) (pr_Fg2 (pr_Fi2 (ih _ _ S0 S hS) (ih _ _ S0 S hS))))
theorem pr_kf_X10_count_104 : ∀ (fu : Nat) (b2 : Int) (b3 : Int) (S0 S : am_S), pr_kr S0 S → pr_F2 (pr_kr S0) (sf_X10_count_104 fu b2 b3 S) := by
  intro fu
  induction fu with
  | zero => intro b2 b3 S0 S hS; exact pr_Fn2
  | succ fu ih =>
    intro b2 b3 S0 S hS
    simp only [sf_X10_count_104]
    exact (pr_Fi2 (pr_Fs2 hS) (pr_Fb22 (pr_kf_X10_isLoose _ S0 S hS) (fun x6 S5 hS5 => (pr_Fi2 (ih _ _ S0 S5 hS5) (ih _ _ S0 S5 hS5)))))
theorem pr_kf_X10_count (a1 : Int) (S0 S : am_S) (hS : pr_kr S0 S) : pr_F2 (pr_kr S0) (sf_X10_count a1 S) := by
  unfold sf_X10_count
  exact (pr_Fi2 (pr_Fs2 hS) (pr_Fi2 (pr_Fb22 (pr_kf_X10_waiting _ S0 S hS) (fun x3 S2 hS2 => (pr_Fs2 hS2))) (pr_Fi2 (pr_Fs2 hS) (pr_Fi2 (pr_kf_X10_count_66 1000 _ _ S0 S hS) (pr_Fi2 (pr_Fs2 hS) (pr_Fi2 (pr_Fs2 hS) (pr_Fi2 (pr_kf_X10_count_104 1000 _ _ S0 S hS) (pr_Fi2 (pr_Fs2 hS) (pr_Fs2 hS)))))))))
theorem pr_kf_X10_later (a1 : Int) (a2 : Int) (a3 : Int) (a4 : Int) (S0 S : am_S) (hS : pr_kr S0 S) : pr_F2 (pr_kr S0) (sf_X10_later a1 a2 a3 a4 S) := by
  unfold sf_X10_later
  exact (pr_Fb22 (pr_kf_X10_in _ _ _ S0 S hS) (fun x2 S1 hS1 => (pr_Fi2 (pr_Fs2 hS1) (pr_Fb22 (pr_kf_X10_isValue _ _ S0 S1 hS1) (fun x5 S4 hS4 => (pr_Fi2 (pr_Fs2 hS4) (pr_Fb22 (pr_kf_X10_in _ _ _ S0 S4 hS4) (fun x8 S7 hS7 => (pr_Fi2 (pr_Fs2 hS7) (pr_Fb22 (pr_kf_X10_task _ _ _ _ S0 S7 hS7) (fun x11 S10 hS10 => (pr_Fi2 (pr_Fs2 hS10) (pr_Fb22 (pr_kf_X10_count _ S0 S10 hS10) (fun x14 S13 hS13 => (pr_Fs2 hS13)))))))))))))))
theorem pr_kf_X10_item (a1 : Int) (a2 : Int) (S0 S : am_S) (hS : pr_kr S0 S) : pr_F2 (pr_kr S0) (sf_X10_item a1 a2 S) := by
  unfold sf_X10_item
  exact (pr_Fb22 (pr_kf_X10_isValue _ _ S0 S hS) (fun x2 S1 hS1 => (pr_Fi2 (pr_Fs2 hS1) (pr_Fi2 (pr_Fs2 hS1) (pr_Fg2 (pr_Fl2 (pr_kr_sA hS1 (by decide)) (fun S4 hS4 => (pr_Fg2 (pr_Fl2 (pr_kr_sA hS4 (by decide)) (fun S5 hS5 => (pr_Fl2 (pr_kr_sI hS5 (by decide)) (fun S6 hS6 => (pr_Fs2 hS6)))))))))))))
theorem pr_kf_X10_group_189 (b1 : Int) (b3 : Int) (S0 S : am_S) (hS : pr_kr S0 S) : pr_F2 (pr_kr S0) (sf_X10_group_189 b1 b3 S) := by
  unfold sf_X10_group_189
  exact (pr_Fi2 (pr_Fi2 (pr_Fb12 (pr_kf_X10_resolveBy _ _ _ _ S0 S hS) (fun S24 hS24 => (pr_Fl2 (pr_kr_sI hS24 (by decide)) (fun S26 hS26 => (pr_Fs2 hS26))))) (pr_Fl2 (pr_kr_sI hS (by decide)) (fun S23 hS23 => (pr_Fs2 hS23)))) (pr_Fl2 (pr_kr_sI hS (by decide)) (fun S22 hS22 => (pr_Fs2 hS22))))
theorem pr_kf_X10_group_95 : ∀ (fu : Nat) (b1 : Int) (b3 : Int) (b4 : Int) (S0 S : am_S), pr_kr S0 S → pr_F2 (pr_kr S0) (sf_X10_group_95 fu b1 b3 b4 S) := by
  intro fu
  induction fu with
  | zero => intro b1 b3 b4 S0 S hS; exact pr_Fn2
  | succ fu ih =>
    intro b1 b3 b4 S0 S hS
    simp only [sf_X10_group_95]
    exact (pr_Fi2 (pr_Fi2 (pr_Fi2 (pr_Fb12 (pr_kf_X10_rejectBy _ _ _ _ S0 S hS) (fun S11 hS11 => (pr_kf_X10_group_189 _ _ S0 S11 hS11))) (pr_kf_X10_group_189 _ _ S0 S hS)) (pr_kf_X10_group_189 _ _ S0 S hS)) (pr_Fg2 (pr_Fg2 (pr_Fi2 (pr_Fb12 (pr_kf_X10_waitFor _ _ _ _ _ S0 S hS) (fun S13 hS13 => (ih _ _ _ S0 S13 hS13))) (pr_Fb22 (pr_kf_X10_promise  S0 S hS) (fun x16 S15 hS15 => (pr_Fg2 (pr_Fg2 (pr_Fb12 (pr_kf_X10_resolveBy _ _ _ _ S0 S15 hS15) (fun S18 hS18 => (pr_Fb12 (pr_kf_X10_waitFor _ _ _ _ _ S0 S18 hS18) (fun S20 hS20 => (ih _ _ _ S0 S20 hS20)))))))))))))
theorem pr_kf_X10_group_15 : ∀ (fu : Nat) (b1 : Int) (b2 : Int) (b3 : Int) (S0 S : am_S), pr_kr S0 S → pr_F2 (pr_kr S0) (sf_X10_group_15 fu b1 b2 b3 S) := by
  intro fu
  induction fu with
  | zero => intro b1 b2 b3 S0 S hS; exact pr_Fn2
  | succ fu ih =>
    intro b1 b2 b3 S0 S hS
    simp only [sf_X10_group_15]
    exact (pr_Fi2 (pr_Fi2 (pr_Fb22 (pr_kf_X10_promise  S0 S hS) (fun x5 S4 hS4 => (pr_Fg2 (pr_Fl2 (pr_kr_sA hS4 (by decide)) (fun S7 hS7 => (pr_Fg2 (pr_Fl2 (pr_kr_sA hS7 (by decide)) (fun S8 hS8 => (pr_Fg2 (pr_Fl2 (pr_kr_sA hS8 (by decide)) (fun S9 hS9 => (pr_Fg2 (pr_Fl2 (pr_kr_sA hS9 (by decide)) (fun S10 hS10 => (pr_kf_X10_group_95 1000 _ _ _ S0 S10 hS10))))))))))))))) (pr_Fs2 hS)) (pr_Fg2 (pr_Fi2 (ih _ _ _ S0 S hS) (ih _ _ _ S0 S hS))))
theorem pr_kf_X10_group (a1 : Int) (S0 S : am_S) (hS : pr_kr S0 S) : pr_F2 (pr_kr S0) (sf_X10_group a1 S) := by
  unfold sf_X10_group
  exact (pr_Fb22 (pr_kf_X10_in _ _ _ S0 S hS) (fun x2 S1 hS1 => (pr_Fi2 (pr_Fs2 hS1) (pr_kf_X10_group_15 1000 _ _ _ S0 S1 hS1))))
theorem pr_kf_X10_placed_47 (b1 : Int) (b4 : Int) (b5 : Int) (b6 : Int) (S0 S : am_S) (hS : pr_kr S0 S) : pr_F1 (pr_kr S0) (sf_X10_placed_47 b1 b4 b5 b6 S) := by
  unfold sf_X10_placed_47
  exact (pr_Fi1 (pr_Fb11 (pr_kf_X10_endBy _ _ _ _ _ S0 S hS) (fun S3 hS3 => (pr_Fs1 hS3))) (pr_Fb11 (pr_kf_X10_endBy _ _ _ _ _ S0 S hS) (fun S1 hS1 => (pr_Fs1 hS1))))
theorem pr_kf_X10_placed_121 (b1 : Int) (b7 : Int) (S0 S : am_S) (hS : pr_kr S0 S) : pr_F1 (pr_kr S0) (sf_X10_placed_121 b1 b7 S) := by
  unfold sf_X10_placed_121
  exact (pr_Fg1 (pr_Fg1 (pr_Fi1 (pr_Fi1 (pr_Fb11 (pr_kf_X10_rejectBy _ _ _ _ S0 S hS) (fun S10 hS10 => (pr_Fs1 hS10))) (pr_Fg1 (pr_Fb11 (pr_kf_X10_resolveBy _ _ _ _ S0 S hS) (fun S8 hS8 => (pr_Fs1 hS8))))) (pr_Fs1 hS))))
theorem pr_kf_X10_placed_98 (b1 : Int) (b2 : Int) (b6 : Int) (b7 : Int) (S0 S : am_S) (hS : pr_kr S0 S) : pr_F1 (pr_kr S0) (sf_X10_placed_98 b1 b2 b6 b7 S) := by
  unfold sf_X10_placed_98
  exact (pr_Fi1 (pr_Fi1 (pr_kf_X10_placed_121 _ _ S0 S hS) (pr_Fg1 (pr_Fg1 (pr_Fl1 (pr_kr_sA hS (by decide)) (fun S7 hS7 => (pr_kf_X10_placed_121 _ _ S0 S7 hS7)))))) (pr_kf_X10_placed_121 _ _ S0 S hS))
theorem pr_kf_X10_placed_68 (b1 : Int) (b2 : Int) (b5 : Int) (b6 : Int) (b7 : Int) (S0 S : am_S) (hS : pr_kr S0 S) : pr_F1 (pr_kr S0) (sf_X10_placed_68 b1 b2 b5 b6 b7 S) := by
  unfold sf_X10_placed_68
  exact (pr_Fg1 (pr_Fg1 (pr_Fl1 (pr_kr_sA hS (by decide)) (fun S5 hS5 => (pr_Fi1 (pr_Fg1 (pr_Fg1 (pr_Fl1 (pr_kr_sA hS5 (by decide)) (fun S6 hS6 => (pr_kf_X10_placed_98 _ _ _ _ S0 S6 hS6))))) (pr_kf_X10_placed_98 _ _ _ _ S0 S5 hS5))))))
theorem pr_kf_X10_placed_10 (b1 : Int) (b2 : Int) (b4 : Int) (b5 : Int) (t0 : Int) (S0 S : am_S) (hS : pr_kr S0 S) : pr_F1 (pr_kr S0) (sf_X10_placed_10 b1 b2 b4 b5 t0 S) := by
  unfold sf_X10_placed_10
  exact (pr_Fg1 (pr_Fi1 (pr_kf_X10_placed_47 _ _ _ _ S0 S hS) (pr_Fi1 (pr_Fi1 (pr_kf_X10_placed_47 _ _ _ _ S0 S hS) (pr_Fi1 (pr_Fi1 (pr_kf_X10_placed_68 _ _ _ _ _ S0 S hS) (pr_kf_X10_placed_47 _ _ _ _ S0 S hS)) (pr_kf_X10_placed_68 _ _ _ _ _ S0 S hS))) (pr_Fi1 (pr_Fi1 (pr_kf_X10_placed_68 _ _ _ _ _ S0 S hS) (pr_kf_X10_placed_47 _ _ _ _ S0 S hS)) (pr_kf_X10_placed_68 _ _ _ _ _ S0 S hS)))))
theorem pr_kf_X10_placed (a1 : Int) (a2 : Int) (a3 : Int) (a4 : Int) (a5 : Int) (S0 S : am_S) (hS : pr_kr S0 S) : pr_F1 (pr_kr S0) (sf_X10_placed a1 a2 a3 a4 a5 S) := by
  unfold sf_X10_placed
  exact (pr_Fi1 (pr_kf_X10_placed_10 _ _ _ _ _ S0 S hS) (pr_kf_X10_placed_10 _ _ _ _ _ S0 S hS))
theorem pr_kf_X10_adopt_103 (b1 : Int) (b3 : Int) (b4 : Int) (S0 S : am_S) (hS : pr_kr S0 S) : pr_F1 (pr_kr S0) (sf_X10_adopt_103 b1 b3 b4 S) := by
  unfold sf_X10_adopt_103
  exact (pr_Fg1 (pr_Fi1 (pr_Fg1 (pr_Fg1 (pr_Fb11 (pr_kf_X10_rejectBy _ _ _ _ S0 S hS) (fun S11 hS11 => (pr_Fs1 hS11))))) (pr_Fs1 hS)))
theorem pr_kf_X10_adopt_74 (b1 : Int) (b3 : Int) (b4 : Int) (S0 S : am_S) (hS : pr_kr S0 S) : pr_F1 (pr_kr S0) (sf_X10_adopt_74 b1 b3 b4 S) := by
  unfold sf_X10_adopt_74
  exact (pr_Fg1 (pr_Fi1 (pr_Fg1 (pr_Fg1 (pr_Fb11 (pr_kf_X10_rejectBy _ _ _ _ S0 S hS) (fun S9 hS9 => (pr_kf_X10_adopt_103 _ _ _ S0 S9 hS9))))) (pr_kf_X10_adopt_103 _ _ _ S0 S hS)))
theorem pr_kf_X10_adopt (a1 : Int) (a2 : Int) (a3 : Int) (S0 S : am_S) (hS : pr_kr S0 S) : pr_F1 (pr_kr S0) (sf_X10_adopt a1 a2 a3 S) := by
  unfold sf_X10_adopt
  exact (pr_Fg1 (pr_Fg1 (pr_Fl1 (pr_kr_sA hS (by decide)) (fun S1 hS1 => (pr_Fg1 (pr_Fl1 (pr_kr_sA hS1 (by decide)) (fun S2 hS2 => (pr_Fi1 (pr_Fb11 (pr_kf_X10_waitFor _ _ _ _ _ S0 S2 hS2) (fun S7 hS7 => (pr_Fs1 hS7))) (pr_Fg1 (pr_Fi1 (pr_Fg1 (pr_Fg1 (pr_Fb11 (pr_kf_X10_resolveBy _ _ _ _ S0 S2 hS2) (fun S3 hS3 => (pr_kf_X10_adopt_74 _ _ _ S0 S3 hS3))))) (pr_Fg1 (pr_Fi1 (pr_Fg1 (pr_Fg1 (pr_Fb11 (pr_kf_X10_resolveBy _ _ _ _ S0 S2 hS2) (fun S5 hS5 => (pr_kf_X10_adopt_74 _ _ _ S0 S5 hS5))))) (pr_kf_X10_adopt_74 _ _ _ S0 S2 hS2)))))))))))))
theorem pr_kf_X10_done (a1 : Int) (a2 : Int) (a3 : Int) (S0 S : am_S) (hS : pr_kr S0 S) : pr_F1 (pr_kr S0) (sf_X10_done a1 a2 a3 S) := by
  unfold sf_X10_done
  exact (pr_Fb11 (pr_kf_X10_begin _ _ _ _ _ S0 S hS) (fun S1 hS1 => (pr_Fb11 (pr_kf_X10_go  S0 S1 hS1) (fun S3 hS3 => (pr_Fs1 hS3)))))
theorem pr_kf_X10_job_200 (b1 : Int) (b4 : Int) (b5 : Int) (b6 : Int) (t0 : Int) (S0 S : am_S) (hS : pr_kr S0 S) : pr_F1 (pr_kr S0) (sf_X10_job_200 b1 b4 b5 b6 t0 S) := by
  unfold sf_X10_job_200
  exact (pr_Fg1 (pr_Fi1 (pr_Fb11 (pr_kf_X10_done _ _ _ S0 S hS) (fun S18 hS18 => (pr_Fb11 (pr_kf_X10_endBy _ _ _ _ _ S0 S18 hS18) (fun S20 hS20 => (pr_Fs1 hS20))))) (pr_Fb11 (pr_kf_X10_endBy _ _ _ _ _ S0 S hS) (fun S22 hS22 => (pr_Fs1 hS22)))))
theorem pr_kf_X10_job_45 (b1 : Int) (b2 : Int) (b3 : Int) (b4 : Int) (b5 : Int) (t0 : Int) (S0 S : am_S) (hS : pr_kr S0 S) : pr_F1 (pr_kr S0) (sf_X10_job_45 b1 b2 b3 b4 b5 t0 S) := by
  unfold sf_X10_job_45
  exact (pr_Fg1 (pr_Fg1 (pr_Fl1 (pr_kr_sA hS (by decide)) (fun S1 hS1 => (pr_Fi1 (pr_Fb11 (pr_kf_X10_endBy _ _ _ _ _ S0 S1 hS1) (fun S3 hS3 => (pr_Fs1 hS3))) (pr_Fi1 (pr_Fg1 (pr_Fb11 (pr_kf_X10_placed _ _ _ _ _ S0 S1 hS1) (fun S5 hS5 => (pr_Fs1 hS5)))) (pr_Fi1 (pr_Fg1 (pr_Fl1 (pr_kr_sA hS1 (by decide)) (fun S7 hS7 => (pr_Fg1 (pr_Fg1 (pr_Fb11 (pr_kf_X10_begin _ _ _ _ _ S0 S7 hS7) (fun S8 hS8 => (pr_Fi1 (pr_Fb11 (pr_kf_X10_go  S0 S8 hS8) (fun S10 hS10 => (pr_Fs1 hS10))) (pr_Fb11 (pr_kf_X10_fling _ _ S0 S8 hS8) (fun S12 hS12 => (pr_Fb11 (pr_kf_X10_go  S0 S12 hS12) (fun S14 hS14 => (pr_Fs1 hS14))))))))))))) (pr_Fi1 (pr_Fb11 (pr_kf_X10_adopt _ _ _ S0 S1 hS1) (fun S16 hS16 => (pr_Fs1 hS16))) (pr_Fi1 (pr_kf_X10_job_200 _ _ _ _ _ S0 S1 hS1) (pr_kf_X10_job_200 _ _ _ _ _ S0 S1 hS1))))))))))
theorem pr_kf_X10_job (a1 : Int) (S0 S : am_S) (hS : pr_kr S0 S) : pr_F1 (pr_kr S0) (sf_X10_job a1 S) := by
  unfold sf_X10_job
  exact (pr_Fg1 (pr_Fg1 (pr_Fg1 (pr_Fg1 (pr_Fg1 (pr_Fi1 (pr_kf_X10_job_45 _ _ _ _ _ _ S0 S hS) (pr_kf_X10_job_45 _ _ _ _ _ _ S0 S hS)))))))
theorem pr_kf_X10_turn_155 (b2 : Int) (S0 S : am_S) (hS : pr_kr S0 S) : pr_F2 (pr_kr S0) (sf_X10_turn_155 b2 S) := by
  unfold sf_X10_turn_155
  exact (pr_Fg2 (pr_Fl2 (pr_kr_sA hS (by decide)) (fun S11 hS11 => (pr_Fg2 (pr_Fg2 (pr_Fg2 (pr_Fb12 (pr_kf_X10_done _ _ _ S0 S11 hS11) (fun S12 hS12 => (pr_Fs2 hS12)))))))))
theorem pr_kf_X10_turn_41 : ∀ (fu : Nat) (b2 : Int) (b3 : Int) (S0 S : am_S), pr_kr S0 S → pr_F2 (pr_kr S0) (sf_X10_turn_41 fu b2 b3 S) := by
  intro fu
  induction fu with
  | zero => intro b2 b3 S0 S hS; exact pr_Fn2
  | succ fu ih =>
    intro b2 b3 S0 S hS
    simp only [sf_X10_turn_41]
    exact (pr_Fi2 (pr_Fi2 (pr_Fl2 (pr_kr_sI hS (by decide)) (fun S9 hS9 => (pr_Fg2 (pr_Fi2 (pr_kf_X10_turn_155 _ S0 S9 hS9) (pr_Fg2 (pr_Fl2 (pr_kr_sI hS9 (by decide)) (fun S10 hS10 => (pr_kf_X10_turn_155 _ S0 S10 hS10)))))))) (pr_Fs2 hS)) (pr_Fg2 (pr_Fi2 (pr_Fi2 (ih _ _ S0 S hS) (pr_Fg2 (pr_Fg2 (pr_Fi2 (ih _ _ S0 S hS) (pr_Fg2 (pr_Fg2 (pr_Fi2 (pr_Fg2 (pr_Fg2 (pr_Fi2 (ih _ _ S0 S hS) (ih _ _ S0 S hS)))) (ih _ _ S0 S hS)))))))) (ih _ _ S0 S hS))))
theorem pr_kf_X10_turn (S0 S : am_S) (hS : pr_kr S0 S) : pr_F2 (pr_kr S0) (sf_X10_turn S) := by
  unfold sf_X10_turn
  exact (pr_Fl2 (pr_kr_sI hS (by decide)) (fun S1 hS1 => (pr_Fl2 (pr_kr_sI hS1 (by decide)) (fun S2 hS2 => (pr_Fb22 (pr_kf_X10_firstOn _ S0 S2 hS2) (fun x4 S3 hS3 => (pr_Fi2 (pr_kf_X10_turn_41 1000 _ _ S0 S3 hS3) (pr_Fl2 (pr_kr_sI hS3 (by decide)) (fun S6 hS6 => (pr_Fb12 (pr_kf_X10_job _ S0 S6 hS6) (fun S7 hS7 => (pr_Fs2 hS7))))))))))))
theorem pr_kf_X10_run_16 : ∀ (fu : Nat) (b1 : Int) (b2 : Int) (b3 : Int) (S0 S : am_S), pr_kr S0 S → pr_F2 (pr_kr S0) (sf_X10_run_16 fu b1 b2 b3 S) := by
  intro fu
  induction fu with
  | zero => intro b1 b2 b3 S0 S hS; exact pr_Fn2
  | succ fu ih =>
    intro b1 b2 b3 S0 S hS
    simp only [sf_X10_run_16]
    exact (pr_Fi2 (pr_Fs2 hS) (pr_Fi2 (pr_Fs2 hS) (pr_Fb22 (pr_kf_X10_turn  S0 S hS) (fun x5 S4 hS4 => (pr_Fi2 (ih _ _ _ S0 S4 hS4) (ih _ _ _ S0 S4 hS4))))))
theorem pr_kf_X10_run (a1 : Int) (S0 S : am_S) (hS : pr_kr S0 S) : pr_F2 (pr_kr S0) (sf_X10_run a1 S) := by
  unfold sf_X10_run
  exact (pr_Fb22 (pr_kf_X10_in _ _ _ S0 S hS) (fun x2 S1 hS1 => (pr_Fi2 (pr_Fs2 hS1) (pr_kf_X10_run_16 1000 _ _ _ S0 S1 hS1))))
theorem pr_kf_X10_forget (S0 S : am_S) (hS : pr_kr S0 S) : pr_F2 (pr_kr S0) (sf_X10_forget S) := by
  unfold sf_X10_forget
  exact (pr_Fb12 (pr_kf_X10_clear  S0 S hS) (fun S1 hS1 => (pr_Fs2 hS1)))
theorem pr_kf_X10_state (a1 : Int) (a2 : Int) (S0 S : am_S) (hS : pr_kr S0 S) : pr_F2 (pr_kr S0) (sf_X10_state a1 a2 S) := by
  unfold sf_X10_state
  exact (pr_Fb22 (pr_kf_X10_isPromise _ S0 S hS) (fun x2 S1 hS1 => (pr_Fi2 (pr_Fs2 hS1) (pr_Fi2 (pr_Fg2 (pr_Fs2 hS1)) (pr_Fi2 (pr_Fg2 (pr_Fi2 (pr_Fs2 hS1) (pr_Fg2 (pr_Fs2 hS1)))) (pr_Fi2 (pr_Fg2 (pr_Fi2 (pr_Fs2 hS1) (pr_Fg2 (pr_Fs2 hS1)))) (pr_Fi2 (pr_Fb22 (pr_kf_X10_isLoose _ S0 S1 hS1) (fun x6 S5 hS5 => (pr_Fi2 (pr_Fs2 hS5) (pr_Fs2 hS5)))) (pr_Fi2 (pr_Fb22 (pr_kf_X10_waiting _ S0 S1 hS1) (fun x9 S8 hS8 => (pr_Fs2 hS8))) (pr_Fi2 (pr_Fg2 (pr_Fs2 hS1)) (pr_Fi2 (pr_Fg2 (pr_Fi2 (pr_Fs2 hS1) (pr_Fs2 hS1))) (pr_Fi2 (pr_Fg2 (pr_Fi2 (pr_Fs2 hS1) (pr_Fs2 hS1))) (pr_Fs2 hS1))))))))))))
theorem pr_kf_X10_noted (a1 : Int) (a2 : Int) (S0 S : am_S) (hS : pr_kr S0 S) : pr_F2 (pr_kr S0) (sf_X10_noted a1 a2 S) := by
  unfold sf_X10_noted
  exact (pr_Fi2 (pr_Fs2 hS) (pr_Fi2 (pr_Fs2 hS) (pr_Fi2 (pr_Fi2 (pr_Fg2 (pr_Fs2 hS)) (pr_Fi2 (pr_Fg2 (pr_Fs2 hS)) (pr_Fi2 (pr_Fg2 (pr_Fs2 hS)) (pr_Fs2 hS)))) (pr_Fs2 hS))))
