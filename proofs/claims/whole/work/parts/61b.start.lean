theorem bn_astore_n {p : Program} {l : Launch} {e : Env} {R : Room} {s : State} {m : MethodId} {args : Array Value} {below : List Frame} {meth : Method} {c : Code} {Q : State → Prop} {G : am_G} {A0 : Nat → Prop} {H0 : Heap} {nL kc ks : Nat} {cc : ByteArray} {own : String} {pc : Nat} {lv : List (Nat × Value)} {st : List Value} {ws : va_W} (C : am_C p s m args c cc nL own G) {k : Fin 4} {i x : Nat} {lv2 : List (Nat × Value)} (hd : decode cc pc = .ok (.astore_n k, 1)) (hi : (k : Nat) = i) (hn : i < nL) (hlv : (i, Value.ref x) :: lv.filter (fun q => !(q.1 == i) && !(q.1 + 1 == i && q.2.category == 2)) = lv2) (kk : bn_V p l e R s m args below meth c Q G A0 H0 nL kc ks (pc + 1) lv2 st ws) : bn_V p l e R s m args below meth c Q G A0 H0 nL kc ks pc lv (.ref x :: st) ws :=
  fun H locs ls hP hD hS hl => lv_astore_n C.1 C.2.1 hd hi hl hn hlv (fun ls' hl' => kk H locs ls' hP hD hS hl')
set_option maxRecDepth 100000 in
set_option maxHeartbeats 4000000 in
theorem whole_start {p : Program} {e : Env} {s : State} {m : MethodId} {below : List Frame} {meth : Method} {c : Code} (l : Launch) (hflags : l.flags = flags0) {b L : Nat} {xs : Nat → Int32} (hL : L ≤ 448) (C0 : lw_At p s m meth c b L xs) : W p l e room_1 s m #[Value.ref b] below meth c s.heap [] 0 0 (lw_Z below #[Value.ref b] s) (entryFrame m ([Value.ref b] : List Value).toArray 4) := by
  obtain ⟨hx, hb, hr, hml, hown, hts, hX, hbl, hlocks, hgv⟩ := id C0
  have htT : ∀ w ∈ am_T, w.before #[Value.ref b] s = true := fun w h => hts w (lk_T h)
  obtain ⟨D, dI, dZ, dJ, K⟩ := lk_K htT
  obtain ⟨SZ, hs, I0⟩ := lk_start
  obtain ⟨G, hG⟩ : ∃ G : am_G, G = (fun _ => 0, D, dI, dZ, dJ) := ⟨_, rfl⟩
  have C : am_C p s m #[Value.ref b] c cL_law 4 "JobLoopLaw" G := by subst hG; exact ⟨hx, hb, hml, hown, htT, K, lk_Nw hts⟩
  have hA : ∀ q : Nat, s.heap.size ≤ q → (fun q : Nat => s.heap.size ≤ q) q := fun _ h => h
  have k : bn_V p l e room_1 s m #[Value.ref b] below meth c (lw_Z below #[Value.ref b] s) G (fun q : Nat => s.heap.size ≤ q) s.heap 4 0 0 0 [(0, .ref b)] [] [] := by
    refine bn_new (pc := 0) (fs := [.null, .null, .null, .null, .null, .null, .null]) C hA (ci := 8) rfl am_hin9 tyX9_ok bf_cl_L7 bf_ins9 bf_ini9 (fun j hj => match j, hj with | 0, _ => rfl | 1, _ => rfl | 2, _ => rfl | 3, _ => rfl | 4, _ => rfl | 5, _ => rfl | 6, _ => rfl | j + 7, h => absurd h (by omega)) ⟨Nat.le_of_ble_eq_true rfl, Nat.le_of_ble_eq_true rfl⟩ dL_law_0 (fun x0 => ?_)
    refine bn_dup (pc := 3) C dL_law_3 ?_
    refine bn_call (pc := 4) (As := []) (rest := [.ref x0]) [] C hA (bc_X9 l G x0) ym_X9_init rfl im_X9_init si_L_9 ⟨Nat.le_of_ble_eq_true rfl, Nat.le_of_ble_eq_true rfl⟩ rfl (Nat.le_of_ble_eq_true rfl) ⟨Nat.le_of_ble_eq_true rfl, Nat.le_of_ble_eq_true rfl⟩ rfl rfl dL_law_4 (fun x => ?_)
    refine bn_weq 74 4237 (bw_cls G x.1) rfl rfl (List.nil_append _) ?_
    refine bn_astore_n (pc := 7) (lv2 := [(1, .ref x0), (0, .ref b)]) C dL_law_7 rfl (by decide) rfl ?_
    refine bn_new (pc := 8) (fs := [.null, .null, .null, .null, .null, .null, .null, .null, .null, .int 0, .null, .null, .null, .null, .null, .null, .null, .null, .null, .int 0, .null, .null, .null, .null, .null, .null, .null, .null, .null, .null, .null, .null, .null, .null, .null, .int 0, .null, .null, .null, .null, .null, .int 0, .int 0, .null, .null, .null, .int 0, .null, .null, .null, .null, .null, .int 0, .int 0, .int 0, .int 0, .int 0]) C hA (ci := 9) rfl am_hin10 tyX10_ok bf_cl_L10 bf_ins10 bf_ini10 (fun j hj => match j, hj with | 0, _ => rfl | 1, _ => rfl | 2, _ => rfl | 3, _ => rfl | 4, _ => rfl | 5, _ => rfl | 6, _ => rfl | 7, _ => rfl | 8, _ => rfl | 9, _ => rfl | 10, _ => rfl | 11, _ => rfl | 12, _ => rfl | 13, _ => rfl | 14, _ => rfl | 15, _ => rfl | 16, _ => rfl | 17, _ => rfl | 18, _ => rfl | 19, _ => rfl | 20, _ => rfl | 21, _ => rfl | 22, _ => rfl | 23, _ => rfl | 24, _ => rfl | 25, _ => rfl | 26, _ => rfl | 27, _ => rfl | 28, _ => rfl | 29, _ => rfl | 30, _ => rfl | 31, _ => rfl | 32, _ => rfl | 33, _ => rfl | 34, _ => rfl | 35, _ => rfl | 36, _ => rfl | 37, _ => rfl | 38, _ => rfl | 39, _ => rfl | 40, _ => rfl | 41, _ => rfl | 42, _ => rfl | 43, _ => rfl | 44, _ => rfl | 45, _ => rfl | 46, _ => rfl | 47, _ => rfl | 48, _ => rfl | 49, _ => rfl | 50, _ => rfl | 51, _ => rfl | 52, _ => rfl | 53, _ => rfl | 54, _ => rfl | 55, _ => rfl | 56, _ => rfl | j + 57, h => absurd h (by omega)) ⟨Nat.le_of_ble_eq_true rfl, Nat.le_of_ble_eq_true rfl⟩ dL_law_8 (fun m0 => ?_)
    refine bn_dup (pc := 11) C dL_law_11 ?_
    refine bn_perm ((m0, .inr (9, [.null, .null, .null, .null, .null, .null, .null, .null, .null, .int 0, .null, .null, .null, .null, .null, .null, .null, .null, .null, .int 0, .null, .null, .null, .null, .null, .null, .null, .null, .null, .null, .null, .null, .null, .null, .null, .int 0, .null, .null, .null, .null, .null, .int 0, .int 0, .null, .null, .null, .int 0, .null, .null, .null, .null, .null, .int 0, .int 0, .int 0, .int 0, .int 0])) :: bw_cls G x.1) (List.perm_append_singleton _ _) ?_
    refine bn_call (pc := 12) (As := []) (rest := [.ref m0]) [] C hA (bc_X10 l G x.1 m0 SZ hs) ym_X10_init rfl im_X10_init si_L_12 ⟨Nat.le_of_ble_eq_true rfl, Nat.le_of_ble_eq_true rfl⟩ rfl (Nat.le_of_ble_eq_true rfl) ⟨Nat.le_of_ble_eq_true rfl, Nat.le_of_ble_eq_true rfl⟩ rfl rfl dL_law_12 (fun ad => ?_)
    refine bn_weq 121 14024 (am_W (ad.1, G.2) SZ) rfl rfl (List.nil_append _) ?_
    refine bn_astore_n (pc := 15) (lv2 := [(2, .ref m0), (1, .ref x0), (0, .ref b)]) C dL_law_15 rfl (by decide) rfl ?_
    refine bn_iconst (pc := 16) C dL_law_16 ?_
    refine bn_istore_n (pc := 17) (lv2 := [(3, .int (Int32.ofInt 0)), (2, .ref m0), (1, .ref x0), (0, .ref b)]) C dL_law_17 rfl (by decide) rfl ?_
    obtain ⟨ad, e0, e74, hrS⟩ := ad
    obtain ⟨x, ex⟩ := x
    have C2 : am_C p s m #[Value.ref b] c cL_law 4 "JobLoopLaw" (lk_ad ad b, G.2) := C
    have k2 := lw_loop (l := l) (e := e) (below := below) (meth := meth) (Q := lw_Z below #[Value.ref b] s) (kc := 121) (ks := 14024) C2 hX hbl rfl hL ⟨Nat.le_of_ble_eq_true rfl, Nat.le_of_ble_eq_true rfl⟩ (fun lv S h1 h2 h3 H locs ls hP hD hS hl => va_forget hS.2.2 (W.widen (k := 600000) (n := 7302250) (Nat.le_of_ble_eq_true rfl) (Nat.le_of_ble_eq_true rfl) (lw_ret hx hb hr hlocks dL_law_690))) 64 0 SZ rfl (by rw [show (2000000 * ((0 : Nat) : Int)) = 0 by omega]; exact I0)
    intro H locs ls hP hD hS hl
    refine k2 hrS (fun q hq => ?_) (fun v hv => by cases hv) H locs ls (by rw [lk_W]; exact hP) (by rw [lk_W]; exact hD) hS ?_
    · simp only [List.mem_cons, List.not_mem_nil, or_false] at hq
      rcases hq with rfl | rfl | rfl | rfl
      · exact trivial
      · exact trivial
      · exact trivial
      · exact am_r0
    · have h := lv_sub hl (l' := [(0, .ref b), (1, .ref x0), (2, .ref m0), (3, .int (Int32.ofInt 0))]) [3, 2, 1, 0] rfl
      have e1 : lk_ad ad b 0 = x0 := (show lk_ad ad b 0 = ad 0 from rfl).trans (e0.trans ex)
      have e2 : lk_ad ad b 74 = m0 := (show lk_ad ad b 74 = ad 74 from rfl).trans e74
      show lv_has ls 4 [(0, .ref (lk_ad ad b 999)), (1, .ref (lk_ad ad b 0)), (2, .ref (lk_ad ad b 74)), (3, .int (Int32.ofInt 0))]
      rw [e1, e2]
      exact h
  have hl := lv_entry ([.ref b]) (n := 4) (Nat.le_of_ble_eq_true rfl)
  rw [lg_entry_eq]
  exact k s.heap [] _ (fun k q h => by simp at h) ⟨fun i j p q h => by simp at h, fun k q h => by simp at h⟩ va_S.rf hl
