theorem am_shl (x : Int) : Int64.ofInt x <<< ((Int32.ofInt 32).toInt64 &&& 63) = Int64.ofInt (x * 4294967296) := by
  have e : (Int32.ofInt 32).toInt64 &&& 63 = (32 : Int64) := by decide
  rw [e]
  apply Int64.toBitVec_inj.mp
  rw [Int64.toBitVec_shiftLeft, Int64.toBitVec_ofInt, Int64.toBitVec_ofInt]
  have e2 : (32 : Int64).toBitVec.smod 64 = 32#64 := by decide
  rw [e2]
  apply BitVec.eq_of_toNat_eq
  rw [BitVec.shiftLeft_eq', BitVec.toNat_shiftLeft, BitVec.toNat_ofInt, BitVec.toNat_ofInt]
  simp only [BitVec.toNat_ofNat, Nat.shiftLeft_eq, Nat.reducePow, Nat.reduceMod]
  omega
theorem am_shr {x : Int} (hx : am_r64 x) : Int64.ofInt x >>> ((Int32.ofInt 32).toInt64 &&& 63) = Int64.ofInt (x / 4294967296) := by
  have e : (Int32.ofInt 32).toInt64 &&& 63 = (32 : Int64) := by decide
  rw [e]
  apply Int64.toInt_inj.mp
  have hx2 : am_r64 (x / 4294967296) := by unfold am_r64 at hx ⊢; omega
  rw [am_toInt64 hx2, ← Int64.toInt_toBitVec, Int64.toBitVec_shiftRight]
  have e2 : (32 : Int64).toBitVec.smod 64 = 32#64 := by decide
  rw [e2]
  show (BitVec.sshiftRight (Int64.ofInt x).toBitVec (32#64).toNat).toInt = _
  rw [BitVec.toInt_sshiftRight, Int64.toInt_toBitVec, am_toInt64 hx]
  show x >>> 32 = _
  rw [Int.shiftRight_eq_div_pow]
  rfl
theorem am_and (x : Int) : Int64.ofInt x &&& Int64.ofInt 4294967295 = Int64.ofInt (x % 4294967296) := by
  apply Int64.toBitVec_inj.mp
  rw [Int64.toBitVec_and, Int64.toBitVec_ofInt, Int64.toBitVec_ofInt, Int64.toBitVec_ofInt]
  apply BitVec.eq_of_toNat_eq
  rw [BitVec.toNat_and, BitVec.toNat_ofInt, BitVec.toNat_ofInt, BitVec.toNat_ofInt]
  have e : ((4294967295 : Int) % ((2 ^ 64 : Nat) : Int)).toNat = 2 ^ 32 - 1 := by decide
  rw [e, Nat.and_two_pow_sub_one_eq_mod]
  omega
theorem am_or {x y : Int} (h : x % 4294967296 = 0 ∧ 0 ≤ y ∧ y < 4294967296) : Int64.ofInt x ||| Int64.ofInt y = Int64.ofInt (x + y) := by
  obtain ⟨h1, h2, h3⟩ := h
  apply Int64.toBitVec_inj.mp
  rw [Int64.toBitVec_or, Int64.toBitVec_ofInt, Int64.toBitVec_ofInt, Int64.toBitVec_ofInt]
  apply BitVec.eq_of_toNat_eq
  rw [BitVec.toNat_or, BitVec.toNat_ofInt, BitVec.toNat_ofInt, BitVec.toNat_ofInt]
  obtain ⟨q, hq⟩ : ∃ q : Nat, (x % ((2 ^ 64 : Nat) : Int)).toNat = 2 ^ 32 * q := ⟨(x % ((2 ^ 64 : Nat) : Int)).toNat / 2 ^ 32, by omega⟩
  have hy : (y % ((2 ^ 64 : Nat) : Int)).toNat = y.toNat := by omega
  rw [hq, hy, ← Nat.two_pow_add_eq_or_of_lt (by omega)]
  omega
section AMS
variable {p : Program} {l : Launch} {e : Env} {R : Room} {s : State} {m : MethodId} {args : Array Value} {below : List Frame} {meth : Method} {c : Code} {Q : State → Prop} {G : am_G} {A0 : Nat → Prop} {H0 : Heap} {nL kc ks : Nat} {cc : ByteArray} {own : String}
variable {pc : Nat} {lv : List (Nat × am_AV)} {st : List am_AV} {S : am_S}
theorem av_lshl (C : am_C p s m args c cc nL own G) {x : Int} (hg : am_r32 x) (hd : decode cc pc = .ok (.lshl, 1)) (kk : am_V p l e R s m args below meth c Q G A0 H0 nL kc ks (pc + 1) (lv) (am_J (x * 4294967296) :: st) (S)) : am_V p l e R s m args below meth c Q G A0 H0 nL kc ks (pc) (lv) (am_I 32 :: am_J x :: st) (S) := by
  intro h1 h2 h3 H locs ls hP hD hS hl
  refine lv_lshl C.1 C.2.1 hd (am_shl x) ?_
  exact kk h1 h2 (av_c _ (show am_r64 _ by unfold am_r32 at hg; unfold am_r64; omega) (av_t (av_t h3))) H locs ls hP hD hS hl
theorem av_lshr (C : am_C p s m args c cc nL own G) {x : Int} (hd : decode cc pc = .ok (.lshr, 1)) (kk : am_V p l e R s m args below meth c Q G A0 H0 nL kc ks (pc + 1) (lv) (am_J (x / 4294967296) :: st) (S)) : am_V p l e R s m args below meth c Q G A0 H0 nL kc ks (pc) (lv) (am_I 32 :: am_J x :: st) (S) := by
  intro h1 h2 h3 H locs ls hP hD hS hl
  have hx : am_r64 x := av_h (av_t h3)
  refine lv_lshr C.1 C.2.1 hd (am_shr hx) ?_
  exact kk h1 h2 (av_c _ (show am_r64 _ by unfold am_r64 at hx ⊢; omega) (av_t (av_t h3))) H locs ls hP hD hS hl
theorem av_land (C : am_C p s m args c cc nL own G) {x : Int} (hd : decode cc pc = .ok (.land, 1)) (kk : am_V p l e R s m args below meth c Q G A0 H0 nL kc ks (pc + 1) (lv) (am_J (x % 4294967296) :: st) (S)) : am_V p l e R s m args below meth c Q G A0 H0 nL kc ks (pc) (lv) (am_J 4294967295 :: am_J x :: st) (S) := by
  intro h1 h2 h3 H locs ls hP hD hS hl
  have kk2 := kk h1 h2 (av_c _ (show am_r64 _ by unfold am_r64; omega) (av_t (av_t h3))) H locs ls hP hD hS hl
  refine lv_land C.1 C.2.1 hd ?_
  rw [am_and]
  exact kk2
theorem av_lor (C : am_C p s m args c cc nL own G) {x y : Int} (hg : x % 4294967296 = 0 ∧ 0 ≤ y ∧ y < 4294967296) (hd : decode cc pc = .ok (.lor, 1)) (kk : am_V p l e R s m args below meth c Q G A0 H0 nL kc ks (pc + 1) (lv) (am_J (x + y) :: st) (S)) : am_V p l e R s m args below meth c Q G A0 H0 nL kc ks (pc) (lv) (am_J y :: am_J x :: st) (S) := by
  intro h1 h2 h3 H locs ls hP hD hS hl
  have hy : am_r64 y := av_h h3
  have hx : am_r64 x := av_h (av_t h3)
  have kk2 := kk h1 h2 (av_c _ (show am_r64 _ by unfold am_r64 at hx ⊢; omega) (av_t (av_t h3))) H locs ls hP hD hS hl
  refine lv_lor C.1 C.2.1 hd ?_
  rw [am_or hg]
  exact kk2
end AMS
