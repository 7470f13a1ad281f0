/-! the law's script: its address has the number 999 -/
section AMS
variable {p : Program} {l : Launch} {e : Env} {R : Room} {s : State} {m : MethodId} {args : Array Value} {below : List Frame} {meth : Method} {c : Code} {Q : State → Prop} {G : am_G} {nL kc ks : Nat} {cc : ByteArray} {own : String}
variable {pc : Nat} {lv : List (Nat × am_AV)} {st : List am_AV} {S : am_S} {b L : Nat} {xs : Nat → Int32}
theorem av_slen (C : am_C p s m args c cc nL own G) (hX : va_X b L xs s s.heap) (hbl : b < s.heap.size) (hG : G.1 999 = b) (hL : L ≤ 448) (hd : decode cc pc = .ok (.arraylength, 1)) (kk : am_V p l e R s m args below meth c Q G (fun q => s.heap.size ≤ q) s.heap nL kc ks (pc + 1) lv (am_I (L : Int) :: st) S) : am_V p l e R s m args below meth c Q G (fun q => s.heap.size ≤ q) s.heap nL kc ks pc lv (am_R 999 :: st) S := by
  intro h1 h2 h3 H locs ls hP hD hS hl
  have k2 := kk h1 h2 (av_c _ (show am_r32 (L : Int) by unfold am_r32; omega) (av_t h3)) H locs ls hP hD hS hl
  have e : ((am_R 999 :: st).map (am_cv G.1)) = .ref b :: st.map (am_cv G.1) := by
    show Value.ref (G.1 999) :: _ = _
    rw [hG]
  rw [e]
  exact va_slen C.1 C.2.1 hX hbl (Nat.not_le.mpr hbl) hS hd k2
theorem av_sld (C : am_C p s m args c cc nL own G) (hX : va_X b L xs s s.heap) (hbl : b < s.heap.size) (hG : G.1 999 = b) (hL : L ≤ 448) {i : Int} (hi : 0 ≤ i ∧ i < (L : Int)) (hd : decode cc pc = .ok (.iaload, 1)) (kk : am_V p l e R s m args below meth c Q G (fun q => s.heap.size ≤ q) s.heap nL kc ks (pc + 1) lv (am_I (xs i.toNat).toInt :: st) S) : am_V p l e R s m args below meth c Q G (fun q => s.heap.size ≤ q) s.heap nL kc ks pc lv (am_I i :: am_R 999 :: st) S := by
  intro h1 h2 h3 H locs ls hP hD hS hl
  have hr : am_r32 i := av_h h3
  have hx : am_r32 (xs i.toNat).toInt := ⟨Int32.le_toInt _, Int32.toInt_lt _⟩
  have k2 := kk h1 h2 (av_c _ hx (av_t (av_t h3))) H locs ls hP hD hS hl
  have e : ((am_I i :: am_R 999 :: st).map (am_cv G.1)) = .int (Int32.ofInt i) :: .ref b :: st.map (am_cv G.1) := by
    show Value.int (Int32.ofInt i) :: Value.ref (G.1 999) :: _ = _
    rw [hG]
  rw [e]
  refine va_sld C.1 C.2.1 hX hbl (Nat.not_le.mpr hbl) hS (am_in hr hi) hd ?_
  rw [am_toNat hr]
  have e2 : ((am_I (xs i.toNat).toInt :: st).map (am_cv G.1)) = .int (xs i.toNat) :: st.map (am_cv G.1) := by
    show Value.int (Int32.ofInt (xs i.toNat).toInt) :: _ = _
    rw [Int32.ofInt_toInt]
  rw [e2] at k2
  exact k2
theorem av_iandS (C : am_C p s m args c cc nL own G) {x y : Int} (hd : decode cc pc = .ok (.iand, 1)) (kk : am_V p l e R s m args below meth c Q G (fun q => s.heap.size ≤ q) s.heap nL kc ks (pc + 1) lv (am_I (Int32.ofInt x &&& Int32.ofInt y).toInt :: st) S) : am_V p l e R s m args below meth c Q G (fun q => s.heap.size ≤ q) s.heap nL kc ks pc lv (am_I y :: am_I x :: st) S := by
  intro h1 h2 h3 H locs ls hP hD hS hl
  have hx : am_r32 (Int32.ofInt x &&& Int32.ofInt y).toInt := ⟨Int32.le_toInt _, Int32.toInt_lt _⟩
  have k2 := kk h1 h2 (av_c _ hx (av_t (av_t h3))) H locs ls hP hD hS hl
  refine lv_iand C.1 C.2.1 hd ?_
  have e2 : ((am_I (Int32.ofInt x &&& Int32.ofInt y).toInt :: st).map (am_cv G.1)) = .int (Int32.ofInt x &&& Int32.ofInt y) :: st.map (am_cv G.1) := by
    show Value.int (Int32.ofInt (Int32.ofInt x &&& Int32.ofInt y).toInt) :: _ = _
    rw [Int32.ofInt_toInt]
  rw [e2] at k2
  exact k2
end AMS
