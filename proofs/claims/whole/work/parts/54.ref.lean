/-! JobLoopModel's constructor; printed by gen54.py -/
set_option maxRecDepth 100000 in
theorem bf_ai : Cond.arrayClass .int ∈ am_T := am_mem 989 (by decide +kernel) (by decide +kernel)
set_option maxRecDepth 100000 in
theorem bf_az : Cond.arrayClass .boolean ∈ am_T := am_mem 990 (by decide +kernel) (by decide +kernel)
set_option maxRecDepth 100000 in
theorem bf_oi_X10 : Cond.methodLink RX10 1 objectInit ∈ am_T := am_mem 812 (by decide +kernel) (by decide +kernel)
set_option maxRecDepth 100000 in
theorem ff_X10_7 : am_fldF RX10 9 7 0 (.array .int) := ⟨TX10, 57, tyX10, rfl, am_hin10, by decide, rfl, am_mem 817 (by decide +kernel) (by decide +kernel), tyX10_ok, nmX10, rfl, rfl⟩
set_option maxRecDepth 100000 in
theorem ff_X10_13 : am_fldF RX10 9 13 1 (.array .int) := ⟨TX10, 57, tyX10, rfl, am_hin10, by decide, rfl, am_mem 818 (by decide +kernel) (by decide +kernel), tyX10_ok, nmX10, rfl, rfl⟩
set_option maxRecDepth 100000 in
theorem ff_X10_16 : am_fldF RX10 9 16 2 (.array .int) := ⟨TX10, 57, tyX10, rfl, am_hin10, by decide, rfl, am_mem 819 (by decide +kernel) (by decide +kernel), tyX10_ok, nmX10, rfl, rfl⟩
set_option maxRecDepth 100000 in
theorem ff_X10_19 : am_fldF RX10 9 19 3 (.array .int) := ⟨TX10, 57, tyX10, rfl, am_hin10, by decide, rfl, am_mem 820 (by decide +kernel) (by decide +kernel), tyX10_ok, nmX10, rfl, rfl⟩
set_option maxRecDepth 100000 in
theorem ff_X10_22 : am_fldF RX10 9 22 4 (.array .int) := ⟨TX10, 57, tyX10, rfl, am_hin10, by decide, rfl, am_mem 821 (by decide +kernel) (by decide +kernel), tyX10_ok, nmX10, rfl, rfl⟩
set_option maxRecDepth 100000 in
theorem ff_X10_25 : am_fldF RX10 9 25 5 (.array .int) := ⟨TX10, 57, tyX10, rfl, am_hin10, by decide, rfl, am_mem 822 (by decide +kernel) (by decide +kernel), tyX10_ok, nmX10, rfl, rfl⟩
set_option maxRecDepth 100000 in
theorem ff_X10_28 : am_fldF RX10 9 28 6 (.array .boolean) := ⟨TX10, 57, tyX10, rfl, am_hin10, by decide, rfl, am_mem 823 (by decide +kernel) (by decide +kernel), tyX10_ok, nmX10, rfl, rfl⟩
set_option maxRecDepth 100000 in
theorem ff_X10_32 : am_fldF RX10 9 32 7 (.array .boolean) := ⟨TX10, 57, tyX10, rfl, am_hin10, by decide, rfl, am_mem 824 (by decide +kernel) (by decide +kernel), tyX10_ok, nmX10, rfl, rfl⟩
set_option maxRecDepth 100000 in
theorem ff_X10_35 : am_fldF RX10 9 35 8 (.array .boolean) := ⟨TX10, 57, tyX10, rfl, am_hin10, by decide, rfl, am_mem 825 (by decide +kernel) (by decide +kernel), tyX10_ok, nmX10, rfl, rfl⟩
set_option maxRecDepth 100000 in
theorem ff_X10_38 : am_fldF RX10 9 38 10 (.array .int) := ⟨TX10, 57, tyX10, rfl, am_hin10, by decide, rfl, am_mem 827 (by decide +kernel) (by decide +kernel), tyX10_ok, nmX10, rfl, rfl⟩
set_option maxRecDepth 100000 in
theorem ff_X10_41 : am_fldF RX10 9 41 11 (.array .int) := ⟨TX10, 57, tyX10, rfl, am_hin10, by decide, rfl, am_mem 828 (by decide +kernel) (by decide +kernel), tyX10_ok, nmX10, rfl, rfl⟩
set_option maxRecDepth 100000 in
theorem ff_X10_44 : am_fldF RX10 9 44 12 (.array .int) := ⟨TX10, 57, tyX10, rfl, am_hin10, by decide, rfl, am_mem 829 (by decide +kernel) (by decide +kernel), tyX10_ok, nmX10, rfl, rfl⟩
set_option maxRecDepth 100000 in
theorem ff_X10_47 : am_fldF RX10 9 47 13 (.array .int) := ⟨TX10, 57, tyX10, rfl, am_hin10, by decide, rfl, am_mem 830 (by decide +kernel) (by decide +kernel), tyX10_ok, nmX10, rfl, rfl⟩
set_option maxRecDepth 100000 in
theorem ff_X10_50 : am_fldF RX10 9 50 14 (.array .int) := ⟨TX10, 57, tyX10, rfl, am_hin10, by decide, rfl, am_mem 831 (by decide +kernel) (by decide +kernel), tyX10_ok, nmX10, rfl, rfl⟩
set_option maxRecDepth 100000 in
theorem ff_X10_53 : am_fldF RX10 9 53 15 (.array .int) := ⟨TX10, 57, tyX10, rfl, am_hin10, by decide, rfl, am_mem 832 (by decide +kernel) (by decide +kernel), tyX10_ok, nmX10, rfl, rfl⟩
set_option maxRecDepth 100000 in
theorem ff_X10_56 : am_fldF RX10 9 56 16 (.array .int) := ⟨TX10, 57, tyX10, rfl, am_hin10, by decide, rfl, am_mem 833 (by decide +kernel) (by decide +kernel), tyX10_ok, nmX10, rfl, rfl⟩
set_option maxRecDepth 100000 in
theorem ff_X10_59 : am_fldF RX10 9 59 17 (.array .int) := ⟨TX10, 57, tyX10, rfl, am_hin10, by decide, rfl, am_mem 834 (by decide +kernel) (by decide +kernel), tyX10_ok, nmX10, rfl, rfl⟩
set_option maxRecDepth 100000 in
theorem ff_X10_62 : am_fldF RX10 9 62 18 (.array .int) := ⟨TX10, 57, tyX10, rfl, am_hin10, by decide, rfl, am_mem 835 (by decide +kernel) (by decide +kernel), tyX10_ok, nmX10, rfl, rfl⟩
set_option maxRecDepth 100000 in
theorem ff_X10_65 : am_fldF RX10 9 65 20 (.array .int) := ⟨TX10, 57, tyX10, rfl, am_hin10, by decide, rfl, am_mem 837 (by decide +kernel) (by decide +kernel), tyX10_ok, nmX10, rfl, rfl⟩
set_option maxRecDepth 100000 in
theorem ff_X10_68 : am_fldF RX10 9 68 21 (.array .int) := ⟨TX10, 57, tyX10, rfl, am_hin10, by decide, rfl, am_mem 838 (by decide +kernel) (by decide +kernel), tyX10_ok, nmX10, rfl, rfl⟩
set_option maxRecDepth 100000 in
theorem ff_X10_71 : am_fldF RX10 9 71 22 (.array .int) := ⟨TX10, 57, tyX10, rfl, am_hin10, by decide, rfl, am_mem 839 (by decide +kernel) (by decide +kernel), tyX10_ok, nmX10, rfl, rfl⟩
set_option maxRecDepth 100000 in
theorem ff_X10_74 : am_fldF RX10 9 74 23 (.array .int) := ⟨TX10, 57, tyX10, rfl, am_hin10, by decide, rfl, am_mem 840 (by decide +kernel) (by decide +kernel), tyX10_ok, nmX10, rfl, rfl⟩
set_option maxRecDepth 100000 in
theorem ff_X10_77 : am_fldF RX10 9 77 24 (.array .int) := ⟨TX10, 57, tyX10, rfl, am_hin10, by decide, rfl, am_mem 841 (by decide +kernel) (by decide +kernel), tyX10_ok, nmX10, rfl, rfl⟩
set_option maxRecDepth 100000 in
theorem ff_X10_80 : am_fldF RX10 9 80 25 (.array .int) := ⟨TX10, 57, tyX10, rfl, am_hin10, by decide, rfl, am_mem 842 (by decide +kernel) (by decide +kernel), tyX10_ok, nmX10, rfl, rfl⟩
set_option maxRecDepth 100000 in
theorem ff_X10_83 : am_fldF RX10 9 83 26 (.array .int) := ⟨TX10, 57, tyX10, rfl, am_hin10, by decide, rfl, am_mem 843 (by decide +kernel) (by decide +kernel), tyX10_ok, nmX10, rfl, rfl⟩
set_option maxRecDepth 100000 in
theorem ff_X10_86 : am_fldF RX10 9 86 27 (.array .int) := ⟨TX10, 57, tyX10, rfl, am_hin10, by decide, rfl, am_mem 844 (by decide +kernel) (by decide +kernel), tyX10_ok, nmX10, rfl, rfl⟩
set_option maxRecDepth 100000 in
theorem ff_X10_89 : am_fldF RX10 9 89 28 (.array .int) := ⟨TX10, 57, tyX10, rfl, am_hin10, by decide, rfl, am_mem 845 (by decide +kernel) (by decide +kernel), tyX10_ok, nmX10, rfl, rfl⟩
set_option maxRecDepth 100000 in
theorem ff_X10_92 : am_fldF RX10 9 92 29 (.array .int) := ⟨TX10, 57, tyX10, rfl, am_hin10, by decide, rfl, am_mem 846 (by decide +kernel) (by decide +kernel), tyX10_ok, nmX10, rfl, rfl⟩
set_option maxRecDepth 100000 in
theorem ff_X10_95 : am_fldF RX10 9 95 30 (.array .int) := ⟨TX10, 57, tyX10, rfl, am_hin10, by decide, rfl, am_mem 847 (by decide +kernel) (by decide +kernel), tyX10_ok, nmX10, rfl, rfl⟩
set_option maxRecDepth 100000 in
theorem ff_X10_98 : am_fldF RX10 9 98 31 (.array .int) := ⟨TX10, 57, tyX10, rfl, am_hin10, by decide, rfl, am_mem 848 (by decide +kernel) (by decide +kernel), tyX10_ok, nmX10, rfl, rfl⟩
set_option maxRecDepth 100000 in
theorem ff_X10_101 : am_fldF RX10 9 101 32 (.array .int) := ⟨TX10, 57, tyX10, rfl, am_hin10, by decide, rfl, am_mem 849 (by decide +kernel) (by decide +kernel), tyX10_ok, nmX10, rfl, rfl⟩
set_option maxRecDepth 100000 in
theorem ff_X10_104 : am_fldF RX10 9 104 33 (.array .int) := ⟨TX10, 57, tyX10, rfl, am_hin10, by decide, rfl, am_mem 850 (by decide +kernel) (by decide +kernel), tyX10_ok, nmX10, rfl, rfl⟩
set_option maxRecDepth 100000 in
theorem ff_X10_107 : am_fldF RX10 9 107 34 (.array .int) := ⟨TX10, 57, tyX10, rfl, am_hin10, by decide, rfl, am_mem 851 (by decide +kernel) (by decide +kernel), tyX10_ok, nmX10, rfl, rfl⟩
set_option maxRecDepth 100000 in
theorem ff_X10_110 : am_fldF RX10 9 110 36 (.array .int) := ⟨TX10, 57, tyX10, rfl, am_hin10, by decide, rfl, am_mem 853 (by decide +kernel) (by decide +kernel), tyX10_ok, nmX10, rfl, rfl⟩
set_option maxRecDepth 100000 in
theorem ff_X10_113 : am_fldF RX10 9 113 37 (.array .int) := ⟨TX10, 57, tyX10, rfl, am_hin10, by decide, rfl, am_mem 854 (by decide +kernel) (by decide +kernel), tyX10_ok, nmX10, rfl, rfl⟩
set_option maxRecDepth 100000 in
theorem ff_X10_116 : am_fldF RX10 9 116 38 (.array .int) := ⟨TX10, 57, tyX10, rfl, am_hin10, by decide, rfl, am_mem 855 (by decide +kernel) (by decide +kernel), tyX10_ok, nmX10, rfl, rfl⟩
set_option maxRecDepth 100000 in
theorem ff_X10_119 : am_fldF RX10 9 119 39 (.array .int) := ⟨TX10, 57, tyX10, rfl, am_hin10, by decide, rfl, am_mem 856 (by decide +kernel) (by decide +kernel), tyX10_ok, nmX10, rfl, rfl⟩
set_option maxRecDepth 100000 in
theorem ff_X10_122 : am_fldF RX10 9 122 40 (.array .int) := ⟨TX10, 57, tyX10, rfl, am_hin10, by decide, rfl, am_mem 857 (by decide +kernel) (by decide +kernel), tyX10_ok, nmX10, rfl, rfl⟩
set_option maxRecDepth 100000 in
theorem ff_X10_125 : am_fldF RX10 9 125 43 (.array .int) := ⟨TX10, 57, tyX10, rfl, am_hin10, by decide, rfl, am_mem 860 (by decide +kernel) (by decide +kernel), tyX10_ok, nmX10, rfl, rfl⟩
set_option maxRecDepth 100000 in
theorem ff_X10_128 : am_fldF RX10 9 128 44 (.array .int) := ⟨TX10, 57, tyX10, rfl, am_hin10, by decide, rfl, am_mem 861 (by decide +kernel) (by decide +kernel), tyX10_ok, nmX10, rfl, rfl⟩
set_option maxRecDepth 100000 in
theorem ff_X10_131 : am_fldF RX10 9 131 45 (.array .int) := ⟨TX10, 57, tyX10, rfl, am_hin10, by decide, rfl, am_mem 862 (by decide +kernel) (by decide +kernel), tyX10_ok, nmX10, rfl, rfl⟩
set_option maxRecDepth 100000 in
theorem ff_X10_134 : am_fldF RX10 9 134 47 (.array .int) := ⟨TX10, 57, tyX10, rfl, am_hin10, by decide, rfl, am_mem 864 (by decide +kernel) (by decide +kernel), tyX10_ok, nmX10, rfl, rfl⟩
set_option maxRecDepth 100000 in
theorem ff_X10_137 : am_fldF RX10 9 137 48 (.array .int) := ⟨TX10, 57, tyX10, rfl, am_hin10, by decide, rfl, am_mem 865 (by decide +kernel) (by decide +kernel), tyX10_ok, nmX10, rfl, rfl⟩
set_option maxRecDepth 100000 in
theorem ff_X10_140 : am_fldF RX10 9 140 49 (.array .int) := ⟨TX10, 57, tyX10, rfl, am_hin10, by decide, rfl, am_mem 866 (by decide +kernel) (by decide +kernel), tyX10_ok, nmX10, rfl, rfl⟩
set_option maxRecDepth 100000 in
theorem ff_X10_143 : am_fldF RX10 9 143 50 (.array .int) := ⟨TX10, 57, tyX10, rfl, am_hin10, by decide, rfl, am_mem 867 (by decide +kernel) (by decide +kernel), tyX10_ok, nmX10, rfl, rfl⟩
set_option maxRecDepth 100000 in
theorem ff_X10_146 : am_fldF RX10 9 146 51 (.array .int) := ⟨TX10, 57, tyX10, rfl, am_hin10, by decide, rfl, am_mem 868 (by decide +kernel) (by decide +kernel), tyX10_ok, nmX10, rfl, rfl⟩
def bw_ad (x : Nat → Nat) (m0 : Nat) (a : List Nat) : Nat → Nat := fun k => if k < 74 then x k else if k = 74 then m0 else a.getD (k - 75) 0
theorem bw_W_go (G : am_G) (ad : Nat → Nat) (S : am_S) : am_W (ad, G.2) S = bw_go G ad S 0 am_sk := by
  apply List.ext_getElem?
  intro i
  rw [bw_go_at, Nat.zero_add]
  unfold am_W
  rw [List.getElem?_mapIdx]
theorem bw_go_app (G : am_G) (x : Nat → Nat) (S : am_S) : ∀ (l1 l2 : List am_K) (id : Nat), bw_go G x S id (l1 ++ l2) = bw_go G x S id l1 ++ bw_go G x S (id + l1.length) l2
  | [], l2, id => rfl
  | k :: l1, l2, id => by
    show _ :: bw_go G x S (id + 1) (l1 ++ l2) = _ :: (bw_go G x S (id + 1) l1 ++ bw_go G x S (id + (l1.length + 1)) l2)
    rw [bw_go_app G x S l1 l2 (id + 1), show id + 1 + l1.length = id + (l1.length + 1) by omega]
theorem bn_Dperm {A : Nat → Prop} {ws ws' : va_W} (hD : va_D A ws) (hp : ws.Perm ws') : va_D A ws' := by
  have nd : (ws.map (fun q => q.1)).Nodup := by
    unfold List.Nodup
    rw [List.pairwise_iff_getElem]
    intro i j hi hj hij he
    rw [List.length_map] at hi hj
    rw [List.getElem_map, List.getElem_map] at he
    have := hD.1 i j _ _ (List.getElem?_eq_getElem hi) (List.getElem?_eq_getElem hj) he
    omega
  have nd2 := (hp.map (fun q => q.1)).nodup_iff.mp nd
  unfold List.Nodup at nd2
  rw [List.pairwise_iff_getElem] at nd2
  have lt : ∀ (i j : Nat) (p q : Nat × va_E), ws'[i]? = some p → ws'[j]? = some q → p.1 = q.1 → ¬ i < j := by
    intro i j p q h1 h2 h3 hij
    obtain ⟨hi, e1⟩ := List.getElem?_eq_some_iff.mp h1
    obtain ⟨hj, e2⟩ := List.getElem?_eq_some_iff.mp h2
    refine nd2 i j (by rw [List.length_map]; exact hi) (by rw [List.length_map]; exact hj) hij ?_
    rw [List.getElem_map, List.getElem_map, e1, e2]; exact h3
  refine ⟨fun i j p q h1 h2 h3 => ?_, fun k q hk => ?_⟩
  · have := lt i j p q h1 h2 h3
    have := lt j i q p h2 h1 h3.symm
    omega
  · obtain ⟨k2, h2⟩ := List.getElem?_of_mem (hp.mem_iff.mpr (List.mem_of_getElem? hk))
    exact hD.2 k2 q h2
theorem bn_Pperm {D : va_G} {cl : List vw_C} {H : Heap} {ws ws' : va_W} (hP : va_P D cl ws H) (hp : ws.Perm ws') : va_P D cl ws' H := fun k q hk => by
  obtain ⟨k2, h2⟩ := List.getElem?_of_mem (hp.mem_iff.mpr (List.mem_of_getElem? hk))
  exact hP k2 q h2
theorem bn_perm {p : Program} {l : Launch} {e : Env} {R : Room} {s : State} {m : MethodId} {args : Array Value} {below : List Frame} {meth : Method} {c : Code} {Q : State → Prop} {G : am_G} {A0 : Nat → Prop} {H0 : Heap} {nL kc ks pc : Nat} {lv : List (Nat × Value)} {st : List Value} {ws : va_W} (ws2 : va_W) (hp : ws.Perm ws2) (kk : bn_V p l e R s m args below meth c Q G A0 H0 nL kc ks pc lv st ws2) : bn_V p l e R s m args below meth c Q G A0 H0 nL kc ks pc lv st ws :=
  fun H locs ls hP hD hS hl => kk H locs ls (bn_Pperm hP hp) (bn_Dperm hD hp) hS hl
theorem bn_mk {p : Program} {l : Launch} {e : Env} {R : Room} {s : State} {m : MethodId} {args : Array Value} {below : List Frame} {meth : Method} {c : Code} {Q : State → Prop} {G : am_G} {A0 : Nat → Prop} {H0 : Heap} {nL kc ks pc w : Nat} {cc : ByteArray} {own : String} {lv : List (Nat × Value)} {wt : va_W} {fs : List Value} {n : Int} {N ci k idx m0 fl : Nat} {atype : ArrayType} {ty fty : FieldType} {cB : ClassId} {f : (Nat → Int32) ⊕ (Nat → Int64) ⊕ (Nat → UInt32) ⊕ (Nat → UInt64) ⊕ (Nat → Option Nat)}
    (C : am_C p s m args c cc nL own G) (hA : ∀ q, H0.size ≤ q → A0 q) (hin2 : meth.name = "<init>") (hd0 : decode cc pc = .ok (.aload_n 0, 1)) (push : ∀ (st : List Value) (ws : va_W), bn_V p l e R s m args below meth c Q G A0 H0 nL kc ks (pc + 1 + w) ((0, .ref m0) :: lv) (.int (Int32.ofInt n) :: st) ws → bn_V p l e R s m args below meth c Q G A0 H0 nL kc ks (pc + 1) ((0, .ref m0) :: lv) st ws)
    (hw : Cond.arrayClass ty ∈ am_T) (hat : newarray.typeOf atype = ty) (hno : ∀ C, ty ≠ .object C) (i : Nat) (hi : (am_tys G)[i]? = some (cB, ty)) (hf : ∀ cA : ClassId, vp_cell cA (N, f) = arrV cA N (fun _ => defaultValue ty)) (hr : am_rok n = true) (hN : n = (N : Int)) (hb : N * componentBytes ty ≤ 536870912) (hcap : kc + 1 ≤ R.cells ∧ ks + N ≤ R.slots) (hd2 : decode cc (pc + 1 + w) = .ok (.newarray atype, 2))
    (hff : am_fldF own ci idx k fty) (hn : ∀ v, narrow fty (.ref v) = .ref v ∧ fits fty (.ref v) = true) (hlen : fs.length = fl) (hk : k < fl) (hd3 : decode cc (pc + 1 + w + 2) = .ok (.putfield idx, 3))
    (kk : ∀ a, (fs.set k (.ref a)).length = fl → bn_V p l e R s m args below meth c Q G A0 H0 nL (kc + 1) (ks + N) (pc + 1 + w + 2 + 3) ((0, .ref m0) :: lv) [] ((m0, .inr (ci, fs.set k (.ref a))) :: (wt ++ [(a, .inl (cB, N, f))]))) : bn_V p l e R s m args below meth c Q G A0 H0 nL kc ks pc ((0, .ref m0) :: lv) [] ((m0, .inr (ci, fs)) :: wt) := by
  refine bn_aload_n C hd0 rfl 0 rfl ?_
  refine push _ _ ?_
  refine bn_newa C hA hw hat hno i hi hf hr hN hb hcap hd2 (fun a => ?_)
  refine bn_weq (kc + 1) (ks + N) ((m0, .inr (ci, fs)) :: (wt ++ [(a, .inl (cB, N, f))])) rfl rfl rfl ?_
  refine bn_putF C hin2 hff (hn a).1 (hn a).2 (by rw [hlen]; exact hk) hd3 ?_
  exact kk a (by rw [List.length_set]; exact hlen)
theorem bS1_r : am_rS bS1 := by
  refine ⟨fun n => ?_, fun id j => ?_⟩
  · show am_r32 (if n = 459 ∨ n = 460 then -1 else 0)
    unfold am_r32; split <;> omega
  · have h : am_r32 (bS1.2 id j) := by
      show am_r32 (if id = 52 then (if j < 4 then 3 else 0) else 0)
      unfold am_r32; split
      · split <;> omega
      · omega
    exact ⟨am_r64_of h, fun _ _ _ _ => h⟩
set_option maxRecDepth 100000 in
set_option maxHeartbeats 4000000 in
theorem bw_permC1 (G : am_G) (x : Nat → Nat) : bw_cls G x = ([(x 0, .inr (8, [.ref (x 1), .ref (x 2), .ref (x 3), .ref (x 4), .ref (x 5), .ref (x 6), .ref (x 7)])), (x 1, .inr (3, [.ref (x 8), .ref (x 9), .ref (x 10), .ref (x 11), .ref (x 12), .ref (x 13), .ref (x 14), .ref (x 15), .ref (x 16), .ref (x 17), .ref (x 18), .int (Int32.ofInt 0), .int (Int32.ofInt 0), .int (Int32.ofInt 0), .int (Int32.ofInt 0)])), (x 2, .inr (7, [.ref (x 19), .ref (x 20), .ref (x 21)])), (x 3, .inr (0, [.ref (x 22), .ref (x 23), .ref (x 24)])), (x 4, .inr (6, [.ref (x 25), .ref (x 26), .ref (x 27), .int (Int32.ofInt 0), .int (Int32.ofInt 0)])), (x 5, .inr (2, [.ref (x 28), .ref (x 29), .int (Int32.ofInt 0), .int (Int32.ofInt 0)])), (x 6, .inr (1, [.ref (x 30), .ref (x 31), .ref (x 32), .ref (x 33), .ref (x 1), .int (Int32.ofInt 0)])), (x 7, .inr (5, [.ref (x 3), .ref (x 1), .ref (x 4), .ref (x 5), .ref (x 34), .ref (x 35), .ref (x 36), .ref (x 37), .ref (x 38), .ref (x 39), .ref (x 40), .int (Int32.ofInt (-1)), .int (Int32.ofInt (-1)), .int (Int32.ofInt 0)])), bw_r (x 8) (x 41), bw_r (x 9) (x 42), bw_r (x 10) (x 43), bw_r (x 11) (x 44), bw_r (x 12) (x 45), bw_r (x 13) (x 46), bw_r (x 14) (x 47), bw_r (x 15) (x 48), bw_r (x 16) (x 49), bw_r (x 17) (x 50), bw_r (x 18) (x 51), bw_r (x 19) (x 52), bw_r (x 20) (x 53), bw_r (x 21) (x 54), bw_r (x 22) (x 55), bw_r (x 23) (x 56), bw_r (x 24) (x 57), bw_r (x 25) (x 58), bw_r (x 26) (x 59), bw_r (x 27) (x 60), bw_r (x 28) (x 61), bw_r (x 29) (x 62), bw_r (x 30) (x 63), bw_r (x 31) (x 64), bw_r (x 32) (x 65), bw_r (x 33) (x 66), bw_r (x 34) (x 67), bw_r (x 35) (x 68), bw_r (x 36) (x 69), bw_r (x 37) (x 70), bw_r (x 38) (x 71), bw_r (x 39) (x 72), bw_r (x 40) (x 73), bw_a G (x 41) 100, bw_a G (x 42) 100, bw_a G (x 43) 100, bw_a G (x 44) 100, bw_a G (x 45) 100, bw_a G (x 46) 100, bw_a G (x 47) 100, bw_a G (x 48) 100, bw_a G (x 49) 100, bw_a G (x 50) 900, bw_a G (x 51) 900, (x 52, .inl (G.2.2.2.2, 4, .inr (.inl (bf3 4)))), bw_a G (x 53) 4, bw_a G (x 54) 4, bw_a G (x 55) 10, bw_a G (x 56) 100, bw_a G (x 57) 100, bw_a G (x 58) 32, bw_a G (x 59) 32, bw_a G (x 60) 32, bw_a G (x 61) 60, bw_a G (x 62) 60, bw_a G (x 63) 5, bw_a G (x 64) 100, bw_a G (x 65) 100, bw_a G (x 66) 100, bw_a G (x 67) 101, bw_a G (x 68) 101, bw_a G (x 69) 101, bw_a G (x 70) 101, bw_a G (x 71) 100, bw_a G (x 72) 100, bw_a G (x 73) 100] : va_W) := rfl
set_option maxRecDepth 100000 in
set_option maxHeartbeats 4000000 in
theorem bw_permC2 (G : am_G) (x : Nat → Nat) (m0 : Nat) (a : List Nat) : bw_go G (bw_ad x m0 a) bS1 0 (am_sk.take 74) = ([(x 0, .inr (8, [.ref (x 1), .ref (x 2), .ref (x 3), .ref (x 4), .ref (x 5), .ref (x 6), .ref (x 7)])), (x 1, .inr (3, [.ref (x 8), .ref (x 9), .ref (x 10), .ref (x 11), .ref (x 12), .ref (x 13), .ref (x 14), .ref (x 15), .ref (x 16), .ref (x 17), .ref (x 18), .int (Int32.ofInt 0), .int (Int32.ofInt 0), .int (Int32.ofInt 0), .int (Int32.ofInt 0)])), (x 2, .inr (7, [.ref (x 19), .ref (x 20), .ref (x 21)])), (x 3, .inr (0, [.ref (x 22), .ref (x 23), .ref (x 24)])), (x 4, .inr (6, [.ref (x 25), .ref (x 26), .ref (x 27), .int (Int32.ofInt 0), .int (Int32.ofInt 0)])), (x 5, .inr (2, [.ref (x 28), .ref (x 29), .int (Int32.ofInt 0), .int (Int32.ofInt 0)])), (x 6, .inr (1, [.ref (x 30), .ref (x 31), .ref (x 32), .ref (x 33), .ref (x 1), .int (Int32.ofInt 0)])), (x 7, .inr (5, [.ref (x 3), .ref (x 1), .ref (x 4), .ref (x 5), .ref (x 34), .ref (x 35), .ref (x 36), .ref (x 37), .ref (x 38), .ref (x 39), .ref (x 40), .int (Int32.ofInt (-1)), .int (Int32.ofInt (-1)), .int (Int32.ofInt 0)])), bw_r (x 8) (x 41), bw_r (x 9) (x 42), bw_r (x 10) (x 43), bw_r (x 11) (x 44), bw_r (x 12) (x 45), bw_r (x 13) (x 46), bw_r (x 14) (x 47), bw_r (x 15) (x 48), bw_r (x 16) (x 49), bw_r (x 17) (x 50), bw_r (x 18) (x 51), bw_r (x 19) (x 52), bw_r (x 20) (x 53), bw_r (x 21) (x 54), bw_r (x 22) (x 55), bw_r (x 23) (x 56), bw_r (x 24) (x 57), bw_r (x 25) (x 58), bw_r (x 26) (x 59), bw_r (x 27) (x 60), bw_r (x 28) (x 61), bw_r (x 29) (x 62), bw_r (x 30) (x 63), bw_r (x 31) (x 64), bw_r (x 32) (x 65), bw_r (x 33) (x 66), bw_r (x 34) (x 67), bw_r (x 35) (x 68), bw_r (x 36) (x 69), bw_r (x 37) (x 70), bw_r (x 38) (x 71), bw_r (x 39) (x 72), bw_r (x 40) (x 73), bw_a G (x 41) 100, bw_a G (x 42) 100, bw_a G (x 43) 100, bw_a G (x 44) 100, bw_a G (x 45) 100, bw_a G (x 46) 100, bw_a G (x 47) 100, bw_a G (x 48) 100, bw_a G (x 49) 100, bw_a G (x 50) 900, bw_a G (x 51) 900, (x 52, .inl (G.2.2.2.2, 4, .inr (.inl (bf3 4)))), bw_a G (x 53) 4, bw_a G (x 54) 4, bw_a G (x 55) 10, bw_a G (x 56) 100, bw_a G (x 57) 100, bw_a G (x 58) 32, bw_a G (x 59) 32, bw_a G (x 60) 32, bw_a G (x 61) 60, bw_a G (x 62) 60, bw_a G (x 63) 5, bw_a G (x 64) 100, bw_a G (x 65) 100, bw_a G (x 66) 100, bw_a G (x 67) 101, bw_a G (x 68) 101, bw_a G (x 69) 101, bw_a G (x 70) 101, bw_a G (x 71) 100, bw_a G (x 72) 100, bw_a G (x 73) 100] : va_W) := rfl
set_option maxRecDepth 100000 in
set_option maxHeartbeats 4000000 in
theorem bw_permD (G : am_G) (x : Nat → Nat) (m0 a0 a1 a2 a3 a4 a5 a6 a7 a8 a9 a10 a11 a12 a13 a14 a15 a16 a17 a18 a19 a20 a21 a22 a23 a24 a25 a26 a27 a28 a29 a30 a31 a32 a33 a34 a35 a36 a37 a38 a39 a40 a41 a42 a43 a44 a45 : Nat) : bw_go G (bw_ad x m0 [a0, a1, a2, a3, a4, a5, a6, a7, a8, a9, a10, a11, a12, a13, a14, a15, a16, a17, a18, a19, a20, a21, a22, a23, a24, a25, a26, a27, a28, a29, a30, a31, a32, a33, a34, a35, a36, a37, a38, a39, a40, a41, a42, a43, a44, a45]) bS1 74 (am_sk.drop 74) = ((m0, .inr (9, [.ref a0, .ref a1, .ref a2, .ref a3, .ref a4, .ref a5, .ref a6, .ref a7, .ref a8, .int (Int32.ofInt 0), .ref a9, .ref a10, .ref a11, .ref a12, .ref a13, .ref a14, .ref a15, .ref a16, .ref a17, .int (Int32.ofInt 0), .ref a18, .ref a19, .ref a20, .ref a21, .ref a22, .ref a23, .ref a24, .ref a25, .ref a26, .ref a27, .ref a28, .ref a29, .ref a30, .ref a31, .ref a32, .int (Int32.ofInt 0), .ref a33, .ref a34, .ref a35, .ref a36, .ref a37, .int (Int32.ofInt 0), .int (Int32.ofInt 0), .ref a38, .ref a39, .ref a40, .int (Int32.ofInt 0), .ref a41, .ref a42, .ref a43, .ref a44, .ref a45, .int (Int32.ofInt 0), .int (Int32.ofInt 0), .int (Int32.ofInt 0), .int (Int32.ofInt 0), .int (Int32.ofInt 0)])) :: [(a0, .inl (G.2.2.1, 100, .inl (fun _ => Int32.ofInt 0))), (a1, .inl (G.2.2.1, 100, .inl (fun _ => Int32.ofInt 0))), (a2, .inl (G.2.2.1, 100, .inl (fun _ => Int32.ofInt 0))), (a3, .inl (G.2.2.1, 100, .inl (fun _ => Int32.ofInt 0))), (a4, .inl (G.2.2.1, 100, .inl (fun _ => Int32.ofInt 0))), (a5, .inl (G.2.2.1, 100, .inl (fun _ => Int32.ofInt 0))), (a6, .inl (G.2.2.2.1, 100, .inl (fun _ => Int32.ofInt 0))), (a7, .inl (G.2.2.2.1, 100, .inl (fun _ => Int32.ofInt 0))), (a8, .inl (G.2.2.2.1, 100, .inl (fun _ => Int32.ofInt 0))), (a9, .inl (G.2.2.1, 800, .inl (fun _ => Int32.ofInt 0))), (a10, .inl (G.2.2.1, 800, .inl (fun _ => Int32.ofInt 0))), (a11, .inl (G.2.2.1, 800, .inl (fun _ => Int32.ofInt 0))), (a12, .inl (G.2.2.1, 800, .inl (fun _ => Int32.ofInt 0))), (a13, .inl (G.2.2.1, 800, .inl (fun _ => Int32.ofInt 0))), (a14, .inl (G.2.2.1, 800, .inl (fun _ => Int32.ofInt 0))), (a15, .inl (G.2.2.1, 800, .inl (fun _ => Int32.ofInt 0))), (a16, .inl (G.2.2.1, 800, .inl (fun _ => Int32.ofInt 0))), (a17, .inl (G.2.2.1, 800, .inl (fun _ => Int32.ofInt 0))), (a18, .inl (G.2.2.1, 4, .inl (fun _ => Int32.ofInt 0))), (a19, .inl (G.2.2.1, 4, .inl (fun _ => Int32.ofInt 0))), (a20, .inl (G.2.2.1, 4, .inl (fun _ => Int32.ofInt 0))), (a21, .inl (G.2.2.1, 4, .inl (fun _ => Int32.ofInt 0))), (a22, .inl (G.2.2.1, 4, .inl (fun _ => Int32.ofInt 0))), (a23, .inl (G.2.2.1, 10, .inl (fun _ => Int32.ofInt 0))), (a24, .inl (G.2.2.1, 100, .inl (fun _ => Int32.ofInt 0))), (a25, .inl (G.2.2.1, 100, .inl (fun _ => Int32.ofInt 0))), (a26, .inl (G.2.2.1, 100, .inl (fun _ => Int32.ofInt 0))), (a27, .inl (G.2.2.1, 100, .inl (fun _ => Int32.ofInt 0))), (a28, .inl (G.2.2.1, 100, .inl (fun _ => Int32.ofInt 0))), (a29, .inl (G.2.2.1, 100, .inl (fun _ => Int32.ofInt 0))), (a30, .inl (G.2.2.1, 100, .inl (fun _ => Int32.ofInt 0))), (a31, .inl (G.2.2.1, 5, .inl (fun _ => Int32.ofInt 0))), (a32, .inl (G.2.2.1, 5, .inl (fun _ => Int32.ofInt 0))), (a33, .inl (G.2.2.1, 32, .inl (fun _ => Int32.ofInt 0))), (a34, .inl (G.2.2.1, 32, .inl (fun _ => Int32.ofInt 0))), (a35, .inl (G.2.2.1, 32, .inl (fun _ => Int32.ofInt 0))), (a36, .inl (G.2.2.1, 32, .inl (fun _ => Int32.ofInt 0))), (a37, .inl (G.2.2.1, 32, .inl (fun _ => Int32.ofInt 0))), (a38, .inl (G.2.2.1, 60, .inl (fun _ => Int32.ofInt 0))), (a39, .inl (G.2.2.1, 60, .inl (fun _ => Int32.ofInt 0))), (a40, .inl (G.2.2.1, 60, .inl (fun _ => Int32.ofInt 0))), (a41, .inl (G.2.2.1, 110, .inl (fun _ => Int32.ofInt 0))), (a42, .inl (G.2.2.1, 110, .inl (fun _ => Int32.ofInt 0))), (a43, .inl (G.2.2.1, 110, .inl (fun _ => Int32.ofInt 0))), (a44, .inl (G.2.2.1, 110, .inl (fun _ => Int32.ofInt 0))), (a45, .inl (G.2.2.1, 110, .inl (fun _ => Int32.ofInt 0)))] : va_W) := rfl
theorem bw_permW (G : am_G) (x : Nat → Nat) (m0 : Nat) (a : List Nat) : am_W (bw_ad x m0 a, G.2) bS1 = bw_cls G x ++ bw_go G (bw_ad x m0 a) bS1 74 (am_sk.drop 74) := by
  rw [bw_W_go, ← List.take_append_drop 74 am_sk, bw_go_app, bw_permC2, ← bw_permC1]
  rfl
set_option maxRecDepth 100000 in
theorem ym_X10_init : am_y yX10_init cX10_init 1 none 0 := ⟨am_mem 811 (by decide +kernel) (by decide +kernel), am_mem 55 (by decide +kernel) (by decide +kernel), by decide +kernel, by decide +kernel, by decide +kernel, by decide +kernel⟩
set_option maxRecDepth 100000 in
theorem im_X10_init : Cond.instanceMethod yX10_init ∈ am_T := am_mem 810 (by decide +kernel) (by decide +kernel)
