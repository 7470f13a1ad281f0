def am_gd {α : Type} (i : Int) (n : Nat) (f : Option α) : Option α := if 0 ≤ i ∧ i < (n : Int) then f else none
theorem am_gd_of {α : Type} {i : Int} {n : Nat} {f : Option α} {a : α} (h : am_gd i n f = some a) : (0 ≤ i ∧ i < (n : Int)) ∧ f = some a := by
  unfold am_gd at h
  split at h
  · exact ⟨by assumption, h⟩
  · cases h
def am_gz {α : Type} (x : Int) (f : Option α) : Option α := if x = 0 ∨ x = 1 then f else none
theorem am_gz_of {α : Type} {x : Int} {f : Option α} {a : α} (h : am_gz x f = some a) : (x = 0 ∨ x = 1) ∧ f = some a := by
  unfold am_gz at h
  split at h
  · exact ⟨by assumption, h⟩
  · cases h
def am_g32 {α : Type} (x : Int) (f : Option α) : Option α := if -2147483648 ≤ x ∧ x < 2147483648 then f else none
theorem am_g32_of {α : Type} {x : Int} {f : Option α} {a : α} (h : am_g32 x f = some a) : am_r32 x ∧ f = some a := by
  unfold am_g32 at h
  split at h
  · exact ⟨by assumption, h⟩
  · cases h
def am_glo {α : Type} (x y : Int) (f : Option α) : Option α := if x % 4294967296 = 0 ∧ 0 ≤ y ∧ y < 4294967296 then f else none
theorem am_glo_of {α : Type} {x y : Int} {f : Option α} {a : α} (h : am_glo x y f = some a) : (x % 4294967296 = 0 ∧ 0 ≤ y ∧ y < 4294967296) ∧ f = some a := by
  unfold am_glo at h
  split at h
  · exact ⟨by assumption, h⟩
  · cases h
def am_let {α : Type} (S : am_S) (f : am_S → Option α) : Option α := f S
theorem am_let_of {α : Type} {S : am_S} {f : am_S → Option α} {a : α} (h : am_let S f = some a) : ∃ S1, S = S1 ∧ f S1 = some a := ⟨S, rfl, h⟩
def am_b1 {α : Type} (o : Option am_S) (f : am_S → Option α) : Option α := match o with
  | none => none
  | some S => f S
def am_b2 {α : Type} (o : Option (Int × am_S)) (f : Int → am_S → Option α) : Option α := match o with
  | none => none
  | some q => f q.1 q.2
theorem am_b1_of {α : Type} {o : Option am_S} {f : am_S → Option α} {a : α} (h : am_b1 o f = some a) : ∃ S, o = some S ∧ f S = some a := by
  cases o with
  | none => cases h
  | some S => exact ⟨S, rfl, h⟩
theorem am_b2_of {α : Type} {o : Option (Int × am_S)} {f : Int → am_S → Option α} {a : α} (h : am_b2 o f = some a) : ∃ x S, o = some (x, S) ∧ f x S = some a := by
  cases o with
  | none => cases h
  | some q => exact ⟨q.1, q.2, rfl, h⟩
theorem am_inj1 {S T : am_S} (h : some S = some T) : S = T := Option.some.inj h
theorem am_inj2 {x y : Int} {S T : am_S} (h : some (x, S) = some (y, T)) : x = y ∧ S = T := by
  have h1 := Option.some.inj h
  exact ⟨congrArg Prod.fst h1, congrArg Prod.snd h1⟩
