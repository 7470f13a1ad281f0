/-! the law's start: both sides are fresh; the script's address as a number -/
theorem lk_start : ∃ SZ, sf_X10_clear bS1 = some SZ ∧ pr_I 0 SZ SZ := by
  obtain ⟨SZ, e, o, f1, f2, f3, f4, f5, f6, a84, a108, a93⟩ := pr_clear bS1
  have z : ∀ a j, a ≠ 52 → bS1.2 a j = 0 := fun a j h => by
    show (if a = 52 then (if j < 4 then (3 : Int) else 0) else 0) = 0
    rw [if_neg h]
  have c : ∀ a j, a ≠ 52 → a ≠ 84 → a ≠ 93 → a ≠ 108 → SZ.2 a j = 0 := fun a j h1 h2 h3 h4 => by
    rw [o.2 a (by simp; omega)]; exact z a j h1
  have n : ∀ k, k ≤ 461 → SZ.1 k = bS1.1 k := fun k hk => o.1 k (by simp; omega)
  refine ⟨SZ, e, pr_fresh (by omega) ?_ ?_ ?_ ?_ ?_ ?_ ?_ ?_ ?_ ?_ ?_ f1 f2 f3 f4 f5 f6 a84 (fun k hk => by rw [a108 k hk]; omega) a93⟩
  · rw [n _ (by omega)]; rfl
  · rw [n _ (by omega)]; rfl
  · rw [n _ (by omega)]; rfl
  · rw [n _ (by omega)]; rfl
  · rw [n _ (by omega)]; rfl
  · rw [n _ (by omega)]; rfl
  · rw [n _ (by omega)]; rfl
  · rw [n _ (by omega)]; rfl
  · intro j hj
    rw [o.2 52 (by simp)]
    show (if 52 = 52 then (if j < 4 then (3 : Int) else 0) else 0) = 3
    rw [if_pos rfl, if_pos hj]
  · exact fun j _ => c 71 j (by omega) (by omega) (by omega) (by omega)
  · intro f _
    have h98 : SZ.2 98 f = 0 := c 98 f (by omega) (by omega) (by omega) (by omega)
    refine ⟨?_, by omega, by omega, fun i hi => ?_⟩
    · rw [h98]; exact c 55 f (by omega) (by omega) (by omega) (by omega)
    · rw [h98] at hi; omega
theorem lk_refs : ∀ (id ci : Nat) (l : List (Option Nat)) (r : Nat), am_sk[id]? = some (.inl (ci, l)) → some r ∈ l → r < 121 := by
  have h : am_sk.all (fun k => match k with
    | .inl (_, l) => l.all (fun r => match r with
      | some r => decide (r < 121)
      | none => true)
    | .inr _ => true) = true := by decide +kernel
  intro id ci l r hk hr
  have h1 := List.all_eq_true.mp h _ (List.mem_of_getElem? hk)
  have h2 := List.all_eq_true.mp h1 _ hr
  simpa using h2
theorem lk_fs (ad ad' : Nat → Nat) (S : am_S) (id : Nat) : ∀ (l : List (Option Nat)) (j : Nat), (∀ r, some r ∈ l → ad' r = ad r) → am_fs ad' S id j l = am_fs ad S id j l
  | [], _, _ => rfl
  | (some r) :: l, j, h => by
    show .ref (ad' r) :: am_fs ad' S id (j + 1) l = .ref (ad r) :: am_fs ad S id (j + 1) l
    rw [h r List.mem_cons_self, lk_fs ad ad' S id l (j + 1) (fun q hq => h q (List.mem_cons_of_mem _ hq))]
  | none :: l, j, h => by
    show _ :: am_fs ad' S id (j + 1) l = _ :: am_fs ad S id (j + 1) l
    rw [lk_fs ad ad' S id l (j + 1) (fun q hq => h q (List.mem_cons_of_mem _ hq))]
theorem lk_len : am_sk.length = 121 := by decide +kernel
def lk_ad (ad : Nat → Nat) (b : Nat) : Nat → Nat := fun k => if k = 999 then b else ad k
theorem lk_W (G : am_G) (ad : Nat → Nat) (b : Nat) (S : am_S) : am_W (lk_ad ad b, G.2) S = am_W (ad, G.2) S := by
  have ne : ∀ r, r < 121 → lk_ad ad b r = ad r := fun r h => by unfold lk_ad; rw [if_neg (by omega)]
  apply List.ext_getElem?
  intro i
  unfold am_W
  rw [List.getElem?_mapIdx, List.getElem?_mapIdx]
  cases hk : am_sk[i]? with
  | none => rfl
  | some k =>
    have hi : i < 121 := by rw [← lk_len]; exact (List.getElem?_eq_some_iff.mp hk).1
    show some (lk_ad ad b i, _) = some (ad i, _)
    rw [ne i hi]
    congr 2
    rcases k with ⟨ci, l⟩ | ⟨t, n⟩
    · show Sum.inr (ci, am_fs (lk_ad ad b) S i 0 l) = Sum.inr (ci, am_fs ad S i 0 l)
      rw [lk_fs ad (lk_ad ad b) S i l 0 (fun r hr => ne r (lk_refs i ci l r hk hr))]
    · match t with
      | 0 => rfl
      | 1 => rfl
      | t + 2 => rfl
