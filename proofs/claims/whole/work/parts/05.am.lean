/-! ===== the abstract machine: its values are whole numbers and the numbers of cells ===== -/
abbrev am_AV : Type := Int ⊕ (Int ⊕ Nat)
abbrev am_I (x : Int) : am_AV := Sum.inl x
abbrev am_J (x : Int) : am_AV := Sum.inr (Sum.inl x)
abbrev am_R (k : Nat) : am_AV := Sum.inr (Sum.inr k)
def am_r32 (x : Int) : Prop := -2147483648 ≤ x ∧ x < 2147483648
def am_r64 (x : Int) : Prop := -9223372036854775808 ≤ x ∧ x < 9223372036854775808
def am_w32 (x : Int) : Int := (x + 2147483648) % 4294967296 - 2147483648
theorem am_w32_r (x : Int) : am_r32 (am_w32 x) := by unfold am_r32 am_w32; omega
theorem am_w32_id {x : Int} (h : am_r32 x) : am_w32 x = x := by unfold am_r32 at h; unfold am_w32; omega
theorem am_r64_of {x : Int} (h : am_r32 x) : am_r64 x := by unfold am_r32 at h; unfold am_r64; omega
def am_rv (v : am_AV) : Prop := match v with
  | .inl x => am_r32 x
  | .inr (.inl x) => am_r64 x
  | .inr (.inr _) => True
def am_cv (ad : Nat → Nat) (v : am_AV) : Value := match v with
  | .inl x => .int (Int32.ofInt x)
  | .inr (.inl x) => .long (Int64.ofInt x)
  | .inr (.inr k) => .ref (ad k)
def am_cat (v : am_AV) : Nat := match v with
  | .inr (.inl _) => 2
  | _ => 1
theorem am_cat_cv (ad : Nat → Nat) (v : am_AV) : (am_cv ad v).category = am_cat v := by
  rcases v with x | x | k <;> rfl
theorem am_toInt {x : Int} (h : am_r32 x) : (Int32.ofInt x).toInt = x := Int32.toInt_ofInt_of_le (by have := h.1; omega) (by have := h.2; omega)
theorem am_toInt64 {x : Int} (h : am_r64 x) : (Int64.ofInt x).toInt = x := Int64.toInt_ofInt_of_le (by have := h.1; omega) (by have := h.2; omega)
theorem am_toNat {x : Int} (h : am_r32 x) : (Int32.ofInt x).toNatClampNeg = x.toNat := by
  show (Int32.ofInt x).toInt.toNat = x.toNat
  rw [am_toInt h]
theorem am_eq {x y : Int} (hx : am_r32 x) (hy : am_r32 y) : Int32.ofInt x = Int32.ofInt y ↔ x = y := by
  constructor
  · intro h
    have h1 := congrArg Int32.toInt h
    rwa [am_toInt hx, am_toInt hy] at h1
  · intro h; rw [h]
theorem am_eq64 {x y : Int} (hx : am_r64 x) (hy : am_r64 y) : Int64.ofInt x = Int64.ofInt y ↔ x = y := by
  constructor
  · intro h
    have h1 := congrArg Int64.toInt h
    rwa [am_toInt64 hx, am_toInt64 hy] at h1
  · intro h; rw [h]
theorem am_lt {x y : Int} (hx : am_r32 x) (hy : am_r32 y) : Int32.ofInt x < Int32.ofInt y ↔ x < y := by
  rw [Int32.lt_iff_toInt_lt, am_toInt hx, am_toInt hy]
theorem am_lt64 {x y : Int} (hx : am_r64 x) (hy : am_r64 y) : Int64.ofInt x < Int64.ofInt y ↔ x < y := by
  rw [Int64.lt_iff_toInt_lt, am_toInt64 hx, am_toInt64 hy]
theorem am_le {x y : Int} (hx : am_r32 x) (hy : am_r32 y) : Int32.ofInt x ≤ Int32.ofInt y ↔ x ≤ y := by
  rw [Int32.le_iff_toInt_le, am_toInt hx, am_toInt hy]
theorem am_r0 : am_r32 0 := by unfold am_r32; omega
theorem am_zero : (0 : Int32) = Int32.ofInt 0 := rfl
theorem am_ofInt_w (z : Int) : Int32.ofInt (am_w32 z) = Int32.ofInt z := by
  apply Int32.toInt_inj.mp
  rw [am_toInt (am_w32_r z), Int32.toInt_ofInt]
  show am_w32 z = Int.bmod z 4294967296
  unfold am_w32
  simp only [Int.bmod_def]
  omega
theorem am_add (x y : Int) : Int32.ofInt x + Int32.ofInt y = Int32.ofInt (am_w32 (x + y)) := by rw [am_ofInt_w, Int32.ofInt_add]
theorem am_sub (x y : Int) : Int32.ofInt x - Int32.ofInt y = Int32.ofInt (am_w32 (x - y)) := by rw [am_ofInt_w, Int32.ofInt_sub]
theorem am_mul (x y : Int) : Int32.ofInt x * Int32.ofInt y = Int32.ofInt (am_w32 (x * y)) := by rw [am_ofInt_w, Int32.ofInt_mul]
theorem am_rem {x y : Int} (hx : am_r32 x) (hy : am_r32 y) : Int32.ofInt x % Int32.ofInt y = Int32.ofInt (x.tmod y) := by
  apply Int32.toInt_inj.mp
  rw [Int32.toInt_mod, am_toInt hx, am_toInt hy]
  refine (am_toInt ?_).symm
  have h1 : (x.tmod y).natAbs ≤ x.natAbs := by rw [Int.natAbs_tmod]; exact Nat.mod_le _ _
  have h2 : 0 ≤ x → 0 ≤ x.tmod y := fun h => Int.tmod_nonneg y h
  have h3 : x ≤ 0 → x.tmod y ≤ 0 := fun h => by have h4 := Int.tmod_nonneg (a := -x) y (by omega); rw [Int.neg_tmod] at h4; omega
  have := hx.1
  have := hx.2
  unfold am_r32
  by_cases h0 : 0 ≤ x
  · have := h2 h0; omega
  · have := h3 (by omega); omega
theorem am_div {x y : Int} (hx : am_r32 x) (hy : am_r32 y) (h : 0 < y) : Int32.ofInt x / Int32.ofInt y = Int32.ofInt (x.tdiv y) := by
  have hne : Int32.ofInt y ≠ -1 := fun q => by
    have h1 := congrArg Int32.toInt q
    rw [am_toInt hy] at h1
    have h2 : (-1 : Int32).toInt = -1 := by decide
    rw [h2] at h1
    omega
  apply Int32.toInt_inj.mp
  rw [Int32.toInt_div_of_ne_right _ _ hne, am_toInt hx, am_toInt hy]
  refine (am_toInt ?_).symm
  have h1 : (x.tdiv y).natAbs ≤ x.natAbs := by rw [Int.natAbs_tdiv]; exact Nat.div_le_self _ _
  have h2 : 0 ≤ x → 0 ≤ x.tdiv y := fun h0 => Int.tdiv_nonneg h0 (Int.le_of_lt h)
  have h3 : x ≤ 0 → x.tdiv y ≤ 0 := fun h => by have h4 := Int.tdiv_nonneg (a := -x) (b := y) (by omega) (by omega); rw [Int.neg_tdiv] at h4; omega
  have := hx.1
  have := hx.2
  unfold am_r32
  by_cases h0 : 0 ≤ x
  · have := h2 h0; omega
  · have := h3 (by omega); omega
theorem am_tmod_r {x y : Int} (hx : am_r32 x) : am_r32 (x.tmod y) := by
  have h1 : (x.tmod y).natAbs ≤ x.natAbs := by rw [Int.natAbs_tmod]; exact Nat.mod_le _ _
  have h2 : 0 ≤ x → 0 ≤ x.tmod y := fun h => Int.tmod_nonneg y h
  have h3 : x ≤ 0 → x.tmod y ≤ 0 := fun h => by have h4 := Int.tmod_nonneg (a := -x) y (by omega); rw [Int.neg_tmod] at h4; omega
  have := hx.1
  have := hx.2
  unfold am_r32
  by_cases h0 : 0 ≤ x
  · have := h2 h0; omega
  · have := h3 (by omega); omega
theorem am_tdiv_r {x y : Int} (hx : am_r32 x) (h : 0 < y) : am_r32 (x.tdiv y) := by
  have h1 : (x.tdiv y).natAbs ≤ x.natAbs := by rw [Int.natAbs_tdiv]; exact Nat.div_le_self _ _
  have h2 : 0 ≤ x → 0 ≤ x.tdiv y := fun h0 => Int.tdiv_nonneg h0 (Int.le_of_lt h)
  have h3 : x ≤ 0 → x.tdiv y ≤ 0 := fun h => by have h4 := Int.tdiv_nonneg (a := -x) (b := y) (by omega) (by omega); rw [Int.neg_tdiv] at h4; omega
  have := hx.1
  have := hx.2
  unfold am_r32
  by_cases h0 : 0 ≤ x
  · have := h2 h0; omega
  · have := h3 (by omega); omega
theorem am_i2l {x : Int} (h : am_r32 x) : (Int32.ofInt x).toInt64 = Int64.ofInt x := by
  apply Int64.toInt_inj.mp
  rw [Int32.toInt_toInt64, am_toInt h, am_toInt64 (am_r64_of h)]
theorem am_l2i (x : Int) : (Int64.ofInt x).toInt32 = Int32.ofInt (am_w32 x) := by rw [am_ofInt_w, Int64.toInt32_ofInt]
def am_cmp (x y : Int) : Int := if y < x then 1 else if x = y then 0 else -1
theorem am_lcmp {x y : Int} (hx : am_r64 x) (hy : am_r64 y) : lg_cmp (Int64.ofInt x) (Int64.ofInt y) = Int32.ofInt (am_cmp x y) := by
  unfold lg_cmp am_cmp
  by_cases h1 : y < x
  · rw [if_pos h1, if_pos ((am_lt64 hy hx).mpr h1)]; rfl
  · rw [if_neg h1, if_neg (fun h => h1 ((am_lt64 hy hx).mp h))]
    by_cases h2 : x = y
    · rw [if_pos h2, if_pos ((am_eq64 hx hy).mpr h2)]; rfl
    · rw [if_neg h2, if_neg (fun h => h2 ((am_eq64 hx hy).mp h))]; rfl
theorem am_cmp_r (x y : Int) : am_r32 (am_cmp x y) := by unfold am_cmp am_r32; split <;> (try split) <;> omega
/-! the state: the whole numbers in fields (64 * cell + place), the rows (cell, place) -/
abbrev am_S : Type := (Nat → Int) × (Nat → Nat → Int)
def am_up {α : Type} (f : Nat → α) (k : Nat) (v : α) : Nat → α := fun j => if j = k then v else f j
theorem am_up_self {α : Type} (f : Nat → α) (k : Nat) (v : α) : am_up f k v k = v := by simp [am_up]
theorem am_up_ne {α : Type} (f : Nat → α) {k j : Nat} (v : α) (h : j ≠ k) : am_up f k v j = f j := by simp [am_up, h]
def am_sI (S : am_S) (n : Nat) (x : Int) : am_S := (am_up S.1 n x, S.2)
def am_sA (S : am_S) (id j : Nat) (x : Int) : am_S := (S.1, am_up S.2 id (am_up (S.2 id) j x))
/-- what a cell is: an object of a class with fields that are cells or whole numbers; or a row of a sort (0 int, 1 boolean, 2 long) and length -/
abbrev am_K : Type := (Nat × List (Option Nat)) ⊕ (Nat × Nat)
def am_lp : List (Option Nat) := [some 8, some 9, some 10, some 11, some 12, some 13, some 14, some 15, some 16, some 17, some 18, none, none, none, none]
def am_lt9 : List (Option Nat) := [some 19, some 20, some 21]
def am_lf : List (Option Nat) := [some 22, some 23, some 24]
def am_ltk : List (Option Nat) := [some 25, some 26, some 27, none, none]
def am_ln : List (Option Nat) := [some 28, some 29, none, none]
def am_lg : List (Option Nat) := [some 30, some 31, some 32, some 33, some 1, none]
def am_lr : List (Option Nat) := [some 3, some 1, some 4, some 5, some 34, some 35, some 36, some 37, some 38, some 39, some 40, none, none, none]
def am_lj : List (Option Nat) := [some 1, some 2, some 3, some 4, some 5, some 6, some 7]
def am_lm : List (Option Nat) := [some 75, some 76, some 77, some 78, some 79, some 80, some 81, some 82, some 83, none, some 84, some 85, some 86, some 87, some 88, some 89, some 90, some 91, some 92, none, some 93, some 94, some 95, some 96, some 97, some 98, some 99, some 100, some 101, some 102, some 103, some 104, some 105, some 106, some 107, none, some 108, some 109, some 110, some 111, some 112, none, none, some 113, some 114, some 115, none, some 116, some 117, some 118, some 119, some 120, none, none, none, none, none]
def am_sk : List am_K := [.inl (8, am_lj), .inl (3, am_lp), .inl (7, am_lt9), .inl (0, am_lf), .inl (6, am_ltk), .inl (2, am_ln), .inl (1, am_lg), .inl (5, am_lr), .inl (4, [some 41]), .inl (4, [some 42]), .inl (4, [some 43]), .inl (4, [some 44]), .inl (4, [some 45]), .inl (4, [some 46]), .inl (4, [some 47]), .inl (4, [some 48]), .inl (4, [some 49]), .inl (4, [some 50]), .inl (4, [some 51]), .inl (4, [some 52]), .inl (4, [some 53]), .inl (4, [some 54]), .inl (4, [some 55]), .inl (4, [some 56]), .inl (4, [some 57]), .inl (4, [some 58]), .inl (4, [some 59]), .inl (4, [some 60]), .inl (4, [some 61]), .inl (4, [some 62]), .inl (4, [some 63]), .inl (4, [some 64]), .inl (4, [some 65]), .inl (4, [some 66]), .inl (4, [some 67]), .inl (4, [some 68]), .inl (4, [some 69]), .inl (4, [some 70]), .inl (4, [some 71]), .inl (4, [some 72]), .inl (4, [some 73]), .inr (2, 100), .inr (2, 100), .inr (2, 100), .inr (2, 100), .inr (2, 100), .inr (2, 100), .inr (2, 100), .inr (2, 100), .inr (2, 100), .inr (2, 900), .inr (2, 900), .inr (2, 4), .inr (2, 4), .inr (2, 4), .inr (2, 10), .inr (2, 100), .inr (2, 100), .inr (2, 32), .inr (2, 32), .inr (2, 32), .inr (2, 60), .inr (2, 60), .inr (2, 5), .inr (2, 100), .inr (2, 100), .inr (2, 100), .inr (2, 101), .inr (2, 101), .inr (2, 101), .inr (2, 101), .inr (2, 100), .inr (2, 100), .inr (2, 100), .inl (9, am_lm), .inr (0, 100), .inr (0, 100), .inr (0, 100), .inr (0, 100), .inr (0, 100), .inr (0, 100), .inr (1, 100), .inr (1, 100), .inr (1, 100), .inr (0, 800), .inr (0, 800), .inr (0, 800), .inr (0, 800), .inr (0, 800), .inr (0, 800), .inr (0, 800), .inr (0, 800), .inr (0, 800), .inr (0, 4), .inr (0, 4), .inr (0, 4), .inr (0, 4), .inr (0, 4), .inr (0, 10), .inr (0, 100), .inr (0, 100), .inr (0, 100), .inr (0, 100), .inr (0, 100), .inr (0, 100), .inr (0, 100), .inr (0, 5), .inr (0, 5), .inr (0, 32), .inr (0, 32), .inr (0, 32), .inr (0, 32), .inr (0, 32), .inr (0, 60), .inr (0, 60), .inr (0, 60), .inr (0, 110), .inr (0, 110), .inr (0, 110), .inr (0, 110), .inr (0, 110)]
/-- the object graph's lists are short -/
theorem am_sk_short : ∀ (id ci : Nat) (l : List (Option Nat)), am_sk[id]? = some (.inl (ci, l)) → l.length ≤ 64 := by
  have h : am_sk.all (fun k => match k with
    | .inl (_, l) => decide (l.length ≤ 64)
    | .inr _ => true) = true := by decide +kernel
  intro id ci l hk
  have h1 := List.all_eq_true.mp h _ (List.mem_of_getElem? hk)
  simpa using h1
def am_fs (ad : Nat → Nat) (S : am_S) (id : Nat) : Nat → List (Option Nat) → List Value
  | _, [] => []
  | j, (some r) :: l => .ref (ad r) :: am_fs ad S id (j + 1) l
  | j, none :: l => .int (Int32.ofInt (S.1 (64 * id + j))) :: am_fs ad S id (j + 1) l
theorem am_fs_len (ad : Nat → Nat) (S : am_S) (id : Nat) : ∀ (l : List (Option Nat)) (j : Nat), (am_fs ad S id j l).length = l.length
  | [], _ => rfl
  | (some _) :: l, j => by simp [am_fs, am_fs_len ad S id l]
  | none :: l, j => by simp [am_fs, am_fs_len ad S id l]
theorem am_fs_ref (ad : Nat → Nat) (S : am_S) (id : Nat) : ∀ (l : List (Option Nat)) (j k r : Nat), l[k]? = some (some r) → (am_fs ad S id j l)[k]? = some (.ref (ad r))
  | [], _, k, r, h => by simp at h
  | (some x) :: l, j, 0, r, h => by simp at h; simp [am_fs, h]
  | none :: l, j, 0, r, h => by simp at h
  | (some x) :: l, j, k + 1, r, h => by simp at h; simpa [am_fs] using am_fs_ref ad S id l (j + 1) k r h
  | none :: l, j, k + 1, r, h => by simp at h; simpa [am_fs] using am_fs_ref ad S id l (j + 1) k r h
theorem am_fs_int (ad : Nat → Nat) (S : am_S) (id : Nat) : ∀ (l : List (Option Nat)) (j k : Nat), l[k]? = some none → (am_fs ad S id j l)[k]? = some (.int (Int32.ofInt (S.1 (64 * id + (j + k)))))
  | [], _, k, h => by simp at h
  | (some x) :: l, j, 0, h => by simp at h
  | none :: l, j, 0, h => by simp [am_fs]
  | (some x) :: l, j, k + 1, h => by
    simp at h
    have := am_fs_int ad S id l (j + 1) k h
    rw [show j + (k + 1) = j + 1 + k by omega]
    simpa [am_fs] using this
  | none :: l, j, k + 1, h => by
    simp at h
    have := am_fs_int ad S id l (j + 1) k h
    rw [show j + (k + 1) = j + 1 + k by omega]
    simpa [am_fs] using this
theorem am_fs_other (ad : Nat → Nat) (S : am_S) (id n : Nat) (x : Int) : ∀ (l : List (Option Nat)) (j : Nat), (∀ k : Nat, k < l.length → 64 * id + (j + k) ≠ n) → am_fs ad (am_sI S n x) id j l = am_fs ad S id j l
  | [], _, _ => rfl
  | (some r) :: l, j, h => by
    simp only [am_fs]
    rw [am_fs_other ad S id n x l (j + 1) (fun k hk => by have := h (k + 1) (by simpa using hk); rwa [show j + 1 + k = j + (k + 1) by omega])]
  | none :: l, j, h => by
    simp only [am_fs]
    rw [am_fs_other ad S id n x l (j + 1) (fun k hk => by have := h (k + 1) (by simpa using hk); rwa [show j + 1 + k = j + (k + 1) by omega])]
    have h0 := h 0 (by simp)
    simp only [am_sI, am_up, Nat.add_zero] at h0 ⊢
    rw [if_neg h0]
theorem am_fs_set (ad : Nat → Nat) (S : am_S) (id : Nat) (x : Int) : ∀ (l : List (Option Nat)) (j k : Nat), l[k]? = some none → (am_fs ad S id j l).set k (.int (Int32.ofInt x)) = am_fs ad (am_sI S (64 * id + (j + k)) x) id j l
  | [], _, k, h => by simp at h
  | (some r) :: l, j, 0, h => by simp at h
  | none :: l, j, 0, h => by
    simp only [am_fs, List.set_cons_zero]
    rw [am_fs_other ad S id _ x l (j + 1) (fun k hk => by omega)]
    simp [am_sI, am_up]
  | (some r) :: l, j, k + 1, h => by
    simp at h
    simp only [am_fs, List.set_cons_succ]
    rw [am_fs_set ad S id x l (j + 1) k h, show j + (k + 1) = j + 1 + k by omega]
  | none :: l, j, k + 1, h => by
    simp at h
    simp only [am_fs, List.set_cons_succ]
    rw [am_fs_set ad S id x l (j + 1) k h, show j + (k + 1) = j + 1 + k by omega]
    congr 2
    simp only [am_sI, am_up]
    rw [if_neg (by omega)]
/-- the surroundings: addresses, the kit's table of classes, the array classes -/
abbrev am_G : Type := (Nat → Nat) × va_G × ClassId × ClassId × ClassId
def am_cell (G : am_G) (S : am_S) (id : Nat) (k : am_K) : va_E := match k with
  | .inl (ci, l) => .inr (ci, am_fs G.1 S id 0 l)
  | .inr (0, n) => .inl (G.2.2.1, n, .inl (fun j => Int32.ofInt (S.2 id j)))
  | .inr (1, n) => .inl (G.2.2.2.1, n, .inl (fun j => Int32.ofInt (S.2 id j)))
  | .inr (_, n) => .inl (G.2.2.2.2, n, .inr (.inl (fun j => Int64.ofInt (S.2 id j))))
def am_W (G : am_G) (S : am_S) : va_W := am_sk.mapIdx (fun id k => (G.1 id, am_cell G S id k))
def am_tys (G : am_G) : List (ClassId × FieldType) := [(G.2.2.1, .int), (G.2.2.2.1, .boolean), (G.2.2.2.2, .long)]
def am_A (G : am_G) : Nat → Prop := fun q => ∃ (id : Nat) (k : am_K), am_sk[id]? = some k ∧ q = G.1 id
theorem am_W_at {G : am_G} {S : am_S} {id : Nat} {k : am_K} (h : am_sk[id]? = some k) : (am_W G S)[id]? = some (G.1 id, am_cell G S id k) := by
  unfold am_W
  rw [List.getElem?_mapIdx, h]; rfl
theorem am_W_in {G : am_G} {S : am_S} {id : Nat} {q : Nat × va_E} (h : (am_W G S)[id]? = some q) : ∃ k, am_sk[id]? = some k ∧ q = (G.1 id, am_cell G S id k) := by
  unfold am_W at h
  rw [List.getElem?_mapIdx] at h
  cases hk : am_sk[id]? with
  | none => rw [hk] at h; cases h
  | some k => rw [hk] at h; exact ⟨k, rfl, (Option.some.inj h).symm⟩
theorem am_W_set {G : am_G} {S S' : am_S} {id : Nat} {k : am_K} {e : va_E} (h : am_sk[id]? = some k) (he : am_cell G S' id k = e) (ho : ∀ (i : Nat) (j : am_K), am_sk[i]? = some j → i ≠ id → am_cell G S' i j = am_cell G S i j) : (am_W G S).set id (G.1 id, e) = am_W G S' := by
  have hl : id < (am_W G S).length := (List.getElem?_eq_some_iff.mp (am_W_at (G := G) (S := S) h)).1
  apply List.ext_getElem?
  intro i
  by_cases hi : i = id
  · subst hi
    rw [List.getElem?_set_self hl, am_W_at h, he]
  · rw [List.getElem?_set_ne (Ne.symm hi)]
    unfold am_W
    rw [List.getElem?_mapIdx, List.getElem?_mapIdx]
    cases hk : am_sk[i]? with
    | none => rfl
    | some j => exact congrArg (fun z => some (G.1 i, z)) (ho i j hk hi).symm
theorem am_W_setI {G : am_G} {S : am_S} {id ci k : Nat} {l : List (Option Nat)} (x : Int) (h : am_sk[id]? = some (.inl (ci, l))) (hl : l[k]? = some none) : (am_W G S).set id (G.1 id, .inr (ci, (am_fs G.1 S id 0 l).set k (.int (Int32.ofInt x)))) = am_W G (am_sI S (64 * id + k) x) := by
  have hk : k < l.length := (List.getElem?_eq_some_iff.mp hl).1
  have hk64 := am_sk_short id ci l h
  refine am_W_set h ?_ ?_
  · show Sum.inr (ci, am_fs G.1 (am_sI S (64 * id + k) x) id 0 l) = _
    rw [am_fs_set G.1 S id x l 0 k hl, Nat.zero_add]
  · intro i j hj hne
    rcases j with ⟨cj, lj⟩ | ⟨t, n⟩
    · have hs := am_sk_short i cj lj hj
      show Sum.inr (cj, _) = Sum.inr (cj, _)
      rw [am_fs_other G.1 S i _ x lj 0 (fun k2 hk2 => by omega)]
    · rcases t with _ | _ | t <;> rfl
theorem am_fs_A (ad : Nat → Nat) (S : am_S) (id j i : Nat) (x : Int) : ∀ (l : List (Option Nat)) (z : Nat), am_fs ad (am_sA S id j x) i z l = am_fs ad S i z l
  | [], _ => rfl
  | (some r) :: l, z => by simp only [am_fs]; rw [am_fs_A ad S id j i x l (z + 1)]
  | none :: l, z => by simp only [am_fs]; rw [am_fs_A ad S id j i x l (z + 1)]; rfl
theorem am_W_setA {G : am_G} {S : am_S} {id j : Nat} {x : Int} {tn : Nat × Nat} {e : va_E} (h : am_sk[id]? = some (.inr tn)) (he : am_cell G (am_sA S id j x) id (.inr tn) = e) : (am_W G S).set id (G.1 id, e) = am_W G (am_sA S id j x) := by
  refine am_W_set h he ?_
  intro i k hk hne
  rcases k with ⟨ci, l⟩ | ⟨t, n⟩
  · show Sum.inr (ci, _) = Sum.inr (ci, _)
    rw [am_fs_A]
  · have e2 : (am_sA S id j x).2 i = S.2 i := by simp [am_sA, am_up, hne]
    rcases t with _ | _ | t <;> simp only [am_cell, e2]
def am_rS (S : am_S) : Prop := (∀ n, am_r32 (S.1 n)) ∧ ∀ (id : Nat) (j : Nat), (am_r64 (S.2 id j)) ∧ ∀ (t n : Nat), am_sk[id]? = some (.inr (t, n)) → t < 2 → am_r32 (S.2 id j)
theorem am_rS_I {S : am_S} {n : Nat} {x : Int} (h : am_rS S) (hx : am_r32 x) : am_rS (am_sI S n x) := by
  refine ⟨fun k => ?_, h.2⟩
  show am_r32 (am_up S.1 n x k)
  unfold am_up
  split
  · exact hx
  · exact h.1 k
theorem am_rS_A {S : am_S} {id j : Nat} {x : Int} (h : am_rS S) (hx : am_r64 x) (h2 : ∀ (t n : Nat), am_sk[id]? = some (.inr (t, n)) → t < 2 → am_r32 x) : am_rS (am_sA S id j x) := by
  refine ⟨h.1, fun i k => ?_⟩
  show am_r64 (am_up S.2 id _ i k) ∧ ∀ (t n : Nat), am_sk[i]? = some (.inr (t, n)) → t < 2 → am_r32 (am_up S.2 id _ i k)
  unfold am_up
  by_cases hi : i = id
  · subst hi
    rw [if_pos rfl]
    by_cases hk : k = j
    · rw [if_pos hk]; exact ⟨hx, h2⟩
    · rw [if_neg hk]; exact h.2 i k
  · rw [if_neg hi]; exact h.2 i k
