/-! the relation of the rest: THENABLES, STEPS, TASKS, what was NOTED, ITEMS, GROUPS, what runs -/
def pr_RT (Sc Sr : am_S) : Prop :=
  ∀ t : Nat, t < 4 → Sc.2 52 t = Sr.2 93 t ∧ 0 ≤ Sr.2 93 t ∧ Sr.2 93 t ≤ 3 ∧ (Sr.2 93 t ≠ 3 → Sc.2 53 t = pr_V (Sr.2 94 t) (Sr.2 95 t) ∧ pr_VV (Sr.1 4745) (Sr.2 94 t) (Sr.2 95 t) ∧ Sc.2 54 t = pr_V (Sr.2 96 t) (Sr.2 97 t) ∧ pr_VV (Sr.1 4745) (Sr.2 96 t) (Sr.2 97 t))
def pr_SD (Sc Sr : am_S) (k : Nat) : Prop :=
  Sc.2 56 k = Sr.2 99 k ∧ 0 ≤ Sr.2 99 k ∧ Sr.2 99 k ≤ 14 ∧ Sc.2 57 k = pr_V (if Sr.2 99 k = 2 then Sr.2 100 k else 0) (Sr.2 101 k) ∧ am_r32 (Sr.2 101 k) ∧ (Sr.2 99 k = 2 → pr_VV 100 (Sr.2 100 k) (Sr.2 101 k))
  ∧ (Sr.2 99 k = 8 ∨ Sr.2 99 k = 11 ∨ Sr.2 99 k = 12 → 0 ≤ Sr.2 101 k ∧ Sr.2 101 k < 10) ∧ (Sr.2 99 k = 13 ∨ Sr.2 99 k = 14 → 0 ≤ Sr.2 101 k ∧ Sr.2 101 k ≤ 10) ∧ (Sr.2 99 k = 9 ∨ Sr.2 99 k = 10 → 0 ≤ Sr.2 101 k ∧ Sr.2 101 k < 100)
def pr_RF (Sc Sr : am_S) : Prop :=
  ∀ f : Nat, f < 10 → Sc.2 55 f = Sr.2 98 f ∧ 0 ≤ Sr.2 98 f ∧ Sr.2 98 f ≤ 10 ∧ ∀ i : Nat, (i : Int) < Sr.2 98 f → pr_SD Sc Sr (10 * f + i)
def pr_RN (B : Int) (Sc Sr : am_S) : Prop :=
  Sc.1 322 = Sr.1 4782 ∧ (0 ≤ Sr.1 4782 ∧ Sr.1 4782 ≤ B) ∧ Sc.1 323 = Sr.1 4778 ∧ am_r32 (Sr.1 4778)
  ∧ ∀ i : Nat, i < 60 → (i : Int) < Sr.1 4782 → Sc.2 61 i = pr_V (Sr.2 113 i) (Sr.2 114 i) ∧ (0 ≤ Sr.2 113 i ∧ Sr.2 113 i ≤ 2) ∧ am_r32 (Sr.2 114 i) ∧ Sc.2 62 i = Sr.2 115 i ∧ am_r32 (Sr.2 115 i)
def pr_RI (Sc Sr : am_S) : Prop :=
  Sc.1 389 = Sr.1 4771 ∧ (0 ≤ Sr.1 4771 ∧ Sr.1 4771 ≤ 5) ∧ ∀ i : Nat, i < 5 → (i : Int) < Sr.1 4771 → Sc.2 63 i = pr_V (Sr.2 106 i) (Sr.2 107 i) ∧ pr_VV (Sr.1 4745) (Sr.2 106 i) (Sr.2 107 i)
def pr_TD (B : Int) (Sc Sr : am_S) (i t : Nat) : Prop :=
  Sc.2 58 i = Sr.2 110 t ∧ (0 ≤ Sr.2 110 t ∧ Sr.2 110 t < 10) ∧ Sc.2 59 i = pr_V (Sr.2 111 t) (Sr.2 112 t) ∧ pr_VV (Sr.1 4745) (Sr.2 111 t) (Sr.2 112 t) ∧ Sc.2 60 i = Sr.2 108 t ∧ Sr.2 108 t ≤ B + 1000
def pr_RK (B : Int) (Sc Sr : am_S) : Prop :=
  ∃ TS : List Nat, (∀ t, t ∈ TS ↔ t < 32 ∧ 0 ≤ Sr.2 108 t) ∧ TS.Pairwise (fun a b => Sr.2 109 a < Sr.2 109 b) ∧ (∀ t, t ∈ TS → Sr.2 109 t ≤ Sr.1 4755)
  ∧ Sc.1 259 = (TS.length : Int) ∧ Sc.1 260 = Sr.1 4777 ∧ (0 ≤ Sr.1 4777 ∧ Sr.1 4777 ≤ B) ∧ ∀ i t : Nat, TS[i]? = some t → pr_TD B Sc Sr i t
def pr_O (B : Int) (Sc Sr : am_S) : Prop := pr_RT Sc Sr ∧ pr_RF Sc Sr ∧ pr_RK B Sc Sr ∧ pr_RN B Sc Sr ∧ pr_RI Sc Sr
def pr_GD (B : Int) (Sc Sr : am_S) (p : Nat) : Prop :=
  Sc.2 64 p = Sr.2 102 p ∧ (0 ≤ Sr.2 102 p ∧ Sr.2 102 p ≤ 3) ∧ (Sr.2 102 p = 0 ∨ Sr.2 102 p = 2 → Sc.2 66 p = Sr.2 105 p) ∧ am_r32 (Sc.2 66 p) ∧ (0 ≤ Sr.2 103 p ∧ Sr.2 103 p ≤ 5) ∧ (0 ≤ Sr.2 104 p ∧ Sr.2 104 p ≤ B) ∧ -B ≤ Sc.2 65 p
  ∧ (Sc.2 65 p = Sr.2 103 p - Sr.2 104 p ∨ ((Sr.2 78 p = 0 → Sr.2 81 p = 1) ∧ Sc.2 65 p ≤ Sr.2 103 p - Sr.2 104 p))
def pr_RG (B : Int) (Sc Sr : am_S) : Prop := ∀ p k : Nat, pr_live Sr k → Sr.2 84 k = 3 → Sr.2 87 k = (p : Int) → pr_GD B Sc Sr p
/-- cells of FUNCTIONS that are stopped -/
def pr_SP (Sc Sr : am_S) : Prop := ∀ r : Nat, (r : Int) < Sr.1 4745 → Sr.2 83 r = 1 → Sr.2 79 r = Sc.2 67 r ∧ Sr.2 80 r = Sc.2 68 r ∧ (0 ≤ Sc.2 67 r ∧ Sc.2 67 r < 10) ∧ (1 ≤ Sc.2 68 r ∧ Sc.2 68 r ≤ 10)
def pr_top (st : List Nat) : Int := match st with
  | [] => -1
  | a :: _ => (a : Int)
def pr_FR (Sc Sr : am_S) (a d : Nat) (rest : List Nat) : Prop :=
  Sr.2 120 d = (if a = 100 then -1 else (a : Int)) ∧ Sr.2 116 d = Sc.2 67 a ∧ (0 ≤ Sc.2 67 a ∧ Sc.2 67 a < 10) ∧ Sr.2 117 d = Sc.2 68 a ∧ (0 ≤ Sc.2 68 a ∧ Sc.2 68 a ≤ 10) ∧ Sc.2 69 a = pr_V (Sr.2 118 d) (Sr.2 119 d) ∧ pr_VV (Sr.1 4745) (Sr.2 118 d) (Sr.2 119 d)
  ∧ Sc.2 70 a = pr_top rest ∧ (a ≠ 100 → (a : Int) < Sr.1 4745 ∧ Sr.2 83 a = 0) ∧ (a = 100 → rest = [])
def pr_st (Sc Sr : am_S) : List Nat → Prop
  | [] => True
  | a :: rest => pr_FR Sc Sr a rest.length rest ∧ a ∉ rest ∧ a < 101 ∧ pr_st Sc Sr rest
def pr_FL (Sc Sr : am_S) : Prop := ∀ p : Nat, (p : Int) < Sr.1 4745 → Sc.2 71 p = Sr.2 83 p ∧ (Sr.2 83 p = 0 ∨ Sr.2 83 p = 1)
def pr_RX (Sc Sr : am_S) (st : List Nat) : Prop := pr_st Sc Sr st ∧ Sc.1 459 = pr_top st ∧ Sr.1 4788 = (st.length : Int) - 1 ∧ pr_SP Sc Sr ∧ pr_FL Sc Sr
def pr_Y (B : Int) (Sc Sr : am_S) : Prop := (∃ KS, pr_RB B Sc Sr KS) ∧ pr_O B Sc Sr ∧ pr_RG B Sc Sr
/-! what a step of the core leaves -/
def pr_kC (S S' : am_S) : Prop := (∀ a, 52 ≤ a → a ≤ 70 → S'.2 a = S.2 a) ∧ ∀ n, 79 ≤ n → S'.1 n = S.1 n
def pr_kR (S S' : am_S) : Prop := (∀ a, a = 79 ∨ a = 80 ∨ 93 ≤ a → S'.2 a = S.2 a) ∧ ∀ n, n ≠ 4745 → n ≠ 4755 → S'.1 n = S.1 n
theorem pr_kC_out {LI LA : List Nat} {S S' : am_S} (h : pr_out LI LA S S') (h1 : ∀ n ∈ LI, n < 79) (h2 : ∀ a ∈ LA, a < 52 ∨ 70 < a) : pr_kC S S' :=
  ⟨fun a ha hb => h.2 a (fun hm => by have := h2 a hm; omega), fun n hn => h.1 n (fun hm => by have := h1 n hm; omega)⟩
theorem pr_kR_out {LI LA : List Nat} {S S' : am_S} (h : pr_out LI LA S S') (h1 : ∀ n ∈ LI, n = 4745 ∨ n = 4755) (h2 : ∀ a ∈ LA, a < 93 ∧ a ≠ 79 ∧ a ≠ 80) : pr_kR S S' :=
  ⟨fun a ha => h.2 a (fun hm => by have := h2 a hm; omega), fun n hn hn2 => h.1 n (fun hm => by have := h1 n hm; omega)⟩
theorem pr_kC_trans {S S1 S2 : am_S} (h : pr_kC S S1) (h2 : pr_kC S1 S2) : pr_kC S S2 := ⟨fun a ha hb => (h2.1 a ha hb).trans (h.1 a ha hb), fun n hn => (h2.2 n hn).trans (h.2 n hn)⟩
theorem pr_kR_trans {S S1 S2 : am_S} (h : pr_kR S S1) (h2 : pr_kR S1 S2) : pr_kR S S2 := ⟨fun a ha => (h2.1 a ha).trans (h.1 a ha), fun n hn hn2 => (h2.2 n hn hn2).trans (h.2 n hn hn2)⟩
theorem pr_SD_same {Sc Sr Sc' Sr' : am_S} {k : Nat} (h : pr_SD Sc Sr k) (e56 : Sc'.2 56 k = Sc.2 56 k) (e57 : Sc'.2 57 k = Sc.2 57 k) (e99 : Sr'.2 99 k = Sr.2 99 k) (e100 : Sr'.2 100 k = Sr.2 100 k) (e101 : Sr'.2 101 k = Sr.2 101 k) : pr_SD Sc' Sr' k := by
  unfold pr_SD at h ⊢
  rw [e56, e57, e99, e100, e101]; exact h
theorem pr_O_keep {B : Int} {Sc Sr Sc' Sr' : am_S} (h : pr_O B Sc Sr) (hc : ∀ a, 52 ≤ a → a ≤ 63 → Sc'.2 a = Sc.2 a) (c259 : Sc'.1 259 = Sc.1 259) (c260 : Sc'.1 260 = Sc.1 260) (c322 : Sc'.1 322 = Sc.1 322) (c323 : Sc'.1 323 = Sc.1 323) (c389 : Sc'.1 389 = Sc.1 389)
    (hr : ∀ a, 93 ≤ a → a ≤ 115 → (a ≤ 101 ∨ 106 ≤ a) → Sr'.2 a = Sr.2 a) (f1 : Sr'.1 4771 = Sr.1 4771) (f2 : Sr'.1 4777 = Sr.1 4777) (f3 : Sr'.1 4778 = Sr.1 4778) (f4 : Sr'.1 4782 = Sr.1 4782) (hm : Sr.1 4745 ≤ Sr'.1 4745) (hcl : Sr.1 4755 ≤ Sr'.1 4755) : pr_O B Sc' Sr' := by
  obtain ⟨h1, h2, h3, h4, h5⟩ := h
  refine ⟨?_, ?_, ?_, ?_, ?_⟩
  · intro t ht
    obtain ⟨a1, a2, a3, a4⟩ := h1 t ht
    rw [hc 52 (by omega) (by omega), hc 53 (by omega) (by omega), hc 54 (by omega) (by omega), hr 93 (by omega) (by omega) (by omega), hr 94 (by omega) (by omega) (by omega), hr 95 (by omega) (by omega) (by omega), hr 96 (by omega) (by omega) (by omega), hr 97 (by omega) (by omega) (by omega)]
    exact ⟨a1, a2, a3, fun h => ⟨(a4 h).1, pr_VV_mono (a4 h).2.1 hm, (a4 h).2.2.1, pr_VV_mono (a4 h).2.2.2 hm⟩⟩
  · intro f hf
    obtain ⟨a1, a2, a3, a4⟩ := h2 f hf
    rw [hc 55 (by omega) (by omega), hr 98 (by omega) (by omega) (by omega)]
    exact ⟨a1, a2, a3, fun i hi => pr_SD_same (a4 i hi) (by rw [hc 56 (by omega) (by omega)]) (by rw [hc 57 (by omega) (by omega)]) (by rw [hr 99 (by omega) (by omega) (by omega)]) (by rw [hr 100 (by omega) (by omega) (by omega)]) (by rw [hr 101 (by omega) (by omega) (by omega)])⟩
  · obtain ⟨TS, a1, a2, a3, a4, a5, a6, a7⟩ := h3
    refine ⟨TS, ?_, ?_, ?_, by rw [c259]; exact a4, by rw [c260, f2]; exact a5, by rw [f2]; exact a6, ?_⟩
    · rw [hr 108 (by omega) (by omega) (by omega)]; exact a1
    · rw [hr 109 (by omega) (by omega) (by omega)]; exact a2
    · rw [hr 109 (by omega) (by omega) (by omega)]
      exact fun t ht => Int.le_trans (a3 t ht) hcl
    · intro i t hit
      obtain ⟨b1, b2, b3, b4, b5⟩ := a7 i t hit
      unfold pr_TD
      rw [hc 58 (by omega) (by omega), hc 59 (by omega) (by omega), hc 60 (by omega) (by omega), hr 108 (by omega) (by omega) (by omega), hr 110 (by omega) (by omega) (by omega), hr 111 (by omega) (by omega) (by omega), hr 112 (by omega) (by omega) (by omega)]
      exact ⟨b1, b2, b3, pr_VV_mono b4 hm, b5⟩
  · unfold pr_RN at h4 ⊢
    rw [c322, c323, f3, f4, hc 61 (by omega) (by omega), hc 62 (by omega) (by omega), hr 113 (by omega) (by omega) (by omega), hr 114 (by omega) (by omega) (by omega), hr 115 (by omega) (by omega) (by omega)]
    exact h4
  · obtain ⟨a1, a2, a3⟩ := h5
    refine ⟨by rw [c389, f1]; exact a1, by rw [f1]; exact a2, ?_⟩
    rw [f1, hc 63 (by omega) (by omega), hr 106 (by omega) (by omega) (by omega), hr 107 (by omega) (by omega) (by omega)]
    exact fun i hi hi2 => ⟨(a3 i hi hi2).1, pr_VV_mono (a3 i hi hi2).2 hm⟩
theorem pr_O_core {B : Int} {Sc Sr Sc' Sr' : am_S} (h : pr_O B Sc Sr) (hc : pr_kC Sc Sc') (hr : pr_kR Sr Sr') (hm : Sr.1 4745 ≤ Sr'.1 4745) (hcl : Sr.1 4755 ≤ Sr'.1 4755) : pr_O B Sc' Sr' :=
  pr_O_keep h (fun a h1 h2 => hc.1 a h1 (by omega)) (hc.2 _ (by omega)) (hc.2 _ (by omega)) (hc.2 _ (by omega)) (hc.2 _ (by omega)) (hc.2 _ (by omega)) (fun a h1 _ _ => hr.1 a (by omega)) (hr.2 _ (by omega) (by omega)) (hr.2 _ (by omega) (by omega)) (hr.2 _ (by omega) (by omega)) (hr.2 _ (by omega) (by omega)) hm hcl
theorem pr_O_mono {B B2 : Int} {Sc Sr : am_S} (h : pr_O B Sc Sr) (hb : B ≤ B2) : pr_O B2 Sc Sr := by
  obtain ⟨h1, h2, ⟨TS, a1, a2, a3, a4, a5, a6, a7⟩, h4, h5⟩ := h
  refine ⟨h1, h2, ⟨TS, a1, a2, a3, a4, a5, by omega, fun i t hit => ?_⟩, ?_, h5⟩
  · obtain ⟨b1, b2, b3, b4, b5, b6⟩ := a7 i t hit
    exact ⟨b1, b2, b3, b4, b5, by omega⟩
  · obtain ⟨b1, b2, b3⟩ := h4
    exact ⟨b1, by omega, b3⟩
theorem pr_GD_mono {B B2 : Int} {Sc Sr : am_S} {p : Nat} (h : pr_GD B Sc Sr p) (hb : B ≤ B2) : pr_GD B2 Sc Sr p := by
  obtain ⟨h1, h2, h3, h4, h5, h6, h7, h8⟩ := h
  exact ⟨h1, h2, h3, h4, h5, by omega, by omega, h8⟩
theorem pr_RG_mono {B B2 : Int} {Sc Sr : am_S} (h : pr_RG B Sc Sr) (hb : B ≤ B2) : pr_RG B2 Sc Sr := fun p k h1 h2 h3 => pr_GD_mono (h p k h1 h2 h3) hb
theorem pr_GD_keep {B : Int} {Sc Sr Sc' Sr' : am_S} {p : Nat} (h : pr_GD B Sc Sr p) (c64 : Sc'.2 64 p = Sc.2 64 p) (c65 : Sc'.2 65 p = Sc.2 65 p) (c66 : Sc'.2 66 p = Sc.2 66 p) (r2 : Sr'.2 102 p = Sr.2 102 p) (r3 : Sr'.2 103 p = Sr.2 103 p) (r4 : Sr'.2 104 p = Sr.2 104 p) (r5 : Sr'.2 105 p = Sr.2 105 p)
    (hs : (Sr.2 78 p = 0 → Sr.2 81 p = 1) → (Sr'.2 78 p = 0 → Sr'.2 81 p = 1)) : pr_GD B Sc' Sr' p := by
  obtain ⟨h1, h2, h3, h4, h5, h6, h7, h8⟩ := h
  unfold pr_GD
  rw [c64, c65, c66, r2, r3, r4, r5]
  refine ⟨h1, h2, h3, h4, h5, h6, h7, ?_⟩
  rcases h8 with h | h
  · exact Or.inl h
  · exact Or.inr ⟨hs h.1, h.2⟩
theorem pr_RG_core {B : Int} {Sc Sr Sc' Sr' : am_S} {w0 p0 : Int} (h : pr_RG B Sc Sr) (hc : pr_kC Sc Sc') (hr : pr_kR Sr Sr') (ho : pr_old Sr Sr' w0 p0) (hw : w0 = 3 → ∀ p : Nat, (p : Int) = p0 → pr_GD B Sc Sr p)
    (hs : ∀ p k : Nat, pr_live Sr' k → Sr'.2 84 k = 3 → Sr'.2 87 k = (p : Int) → (Sr.2 78 p = 0 → Sr.2 81 p = 1) → (Sr'.2 78 p = 0 → Sr'.2 81 p = 1)) : pr_RG B Sc' Sr' := by
  intro p k hk hk3 hkp
  have hG : pr_GD B Sc Sr p := by
    rcases ho k hk with ⟨a1, a2⟩ | ⟨a1, a2, a3, -⟩
    · have h3 : w0 = 3 := by omega
      rw [if_neg (by omega)] at a2
      exact hw h3 p (by omega)
    · exact h p k a1 (a2 ▸ hk3) (a3 ▸ hkp)
  · refine pr_GD_keep hG ?_ ?_ ?_ ?_ ?_ ?_ ?_ (hs p k hk hk3 hkp)
    · rw [hc.1 64 (by omega) (by omega)]
    · rw [hc.1 65 (by omega) (by omega)]
    · rw [hc.1 66 (by omega) (by omega)]
    · rw [hr.1 102 (by omega)]
    · rw [hr.1 103 (by omega)]
    · rw [hr.1 104 (by omega)]
    · rw [hr.1 105 (by omega)]
theorem pr_FR_keep {Sc Sr Sc' Sr' : am_S} {a d : Nat} {rest : List Nat} (h : pr_FR Sc Sr a d rest) (c67 : Sc'.2 67 a = Sc.2 67 a) (c68 : Sc'.2 68 a = Sc.2 68 a) (c69 : Sc'.2 69 a = Sc.2 69 a) (c70 : Sc'.2 70 a = Sc.2 70 a)
    (r16 : Sr'.2 116 d = Sr.2 116 d) (r17 : Sr'.2 117 d = Sr.2 117 d) (r18 : Sr'.2 118 d = Sr.2 118 d) (r19 : Sr'.2 119 d = Sr.2 119 d) (r20 : Sr'.2 120 d = Sr.2 120 d) (hm : Sr.1 4745 ≤ Sr'.1 4745) (h83 : a ≠ 100 → (a : Int) < Sr.1 4745 → Sr.2 83 a = 0 → Sr'.2 83 a = 0) : pr_FR Sc' Sr' a d rest := by
  obtain ⟨h1, h2, h3, h4, h5, h6, h7, h8, h9, h10⟩ := h
  unfold pr_FR
  rw [c67, c68, c69, c70, r16, r17, r18, r19, r20]
  exact ⟨h1, h2, h3, h4, h5, h6, pr_VV_mono h7 hm, h8, fun h => ⟨by have := (h9 h).1; omega, h83 h (h9 h).1 (h9 h).2⟩, h10⟩
theorem pr_st_keep {Sc Sr Sc' Sr' : am_S} (hm : Sr.1 4745 ≤ Sr'.1 4745) : ∀ {st : List Nat}, pr_st Sc Sr st → (∀ a ∈ st, Sc'.2 67 a = Sc.2 67 a ∧ Sc'.2 68 a = Sc.2 68 a ∧ Sc'.2 69 a = Sc.2 69 a ∧ Sc'.2 70 a = Sc.2 70 a)
    → (∀ d, d < st.length → Sr'.2 116 d = Sr.2 116 d ∧ Sr'.2 117 d = Sr.2 117 d ∧ Sr'.2 118 d = Sr.2 118 d ∧ Sr'.2 119 d = Sr.2 119 d ∧ Sr'.2 120 d = Sr.2 120 d) → (∀ a ∈ st, a ≠ 100 → (a : Int) < Sr.1 4745 → Sr.2 83 a = 0 → Sr'.2 83 a = 0) → pr_st Sc' Sr' st
  | [], _, _, _, _ => True.intro
  | a :: rest, h, hc, hr, h83 => by
    obtain ⟨h1, h2, h3, h4⟩ := h
    obtain ⟨c1, c2, c3, c4⟩ := hc a List.mem_cons_self
    obtain ⟨r1, r2, r3, r4, r5⟩ := hr rest.length (by simp)
    refine ⟨pr_FR_keep h1 c1 c2 c3 c4 r1 r2 r3 r4 r5 hm (h83 a List.mem_cons_self), h2, h3, pr_st_keep hm h4 (fun x hx => hc x (List.mem_cons_of_mem _ hx)) (fun d hd => hr d (by simp; omega)) (fun x hx => h83 x (List.mem_cons_of_mem _ hx))⟩
theorem pr_st_core {Sc Sr Sc' Sr' : am_S} {st : List Nat} (h : pr_st Sc Sr st) (hc : pr_kC Sc Sc') (hr : pr_kR Sr Sr') (hm : Sr.1 4745 ≤ Sr'.1 4745) (h83 : ∀ a ∈ st, a ≠ 100 → (a : Int) < Sr.1 4745 → Sr.2 83 a = 0 → Sr'.2 83 a = 0) : pr_st Sc' Sr' st := by
  refine pr_st_keep hm h (fun a _ => ?_) (fun d _ => ?_) h83
  · rw [hc.1 67 (by omega) (by omega), hc.1 68 (by omega) (by omega), hc.1 69 (by omega) (by omega), hc.1 70 (by omega) (by omega)]; exact ⟨rfl, rfl, rfl, rfl⟩
  · rw [hr.1 116 (by omega), hr.1 117 (by omega), hr.1 118 (by omega), hr.1 119 (by omega), hr.1 120 (by omega)]; exact ⟨rfl, rfl, rfl, rfl, rfl⟩
theorem pr_st_nodup {Sc Sr : am_S} : ∀ {st : List Nat}, pr_st Sc Sr st → st.Nodup ∧ ∀ a ∈ st, a < 101
  | [], _ => ⟨List.nodup_nil, fun a h => by cases h⟩
  | a :: rest, h => by
    have ih := pr_st_nodup h.2.2.2
    refine ⟨List.nodup_cons.mpr ⟨h.2.1, ih.1⟩, fun x hx => ?_⟩
    rcases List.mem_cons.mp hx with e | e
    · subst e; exact h.2.2.1
    · exact ih.2 x e
theorem pr_st_len {Sc Sr : am_S} {st : List Nat} (h : pr_st Sc Sr st) : st.length ≤ 101 := by
  have h1 := pr_st_nodup h
  rw [← pr_cnt_list (P := fun k => decide (k ∈ st)) 101 st h1.1 (fun k => ⟨fun hk => ⟨h1.2 k hk, by simpa using hk⟩, fun hk => by simpa using hk.2⟩)]
  exact pr_cnt_le _ _
theorem pr_SP_core {Sc Sr Sc' Sr' : am_S} (h : pr_SP Sc Sr) (hc : pr_kC Sc Sc') (hr : pr_kR Sr Sr') (h83 : ∀ r : Nat, (r : Int) < Sr'.1 4745 → Sr'.2 83 r = 1 → (r : Int) < Sr.1 4745 ∧ Sr.2 83 r = 1) : pr_SP Sc' Sr' := by
  intro r hr1 hr2
  obtain ⟨a1, a2⟩ := h83 r hr1 hr2
  rw [hc.1 67 (by omega) (by omega), hc.1 68 (by omega) (by omega), hr.1 79 (by omega), hr.1 80 (by omega)]
  exact h r a1 a2
theorem pr_FL_core {Sc Sr Sc' Sr' : am_S} (h : pr_FL Sc Sr) (h83 : ∀ q : Nat, (q : Int) < Sr.1 4745 → Sr'.2 83 q = Sr.2 83 q) (h83n : ∀ r : Nat, Sr.1 4745 ≤ (r : Int) → (r : Int) < Sr'.1 4745 → Sr'.2 83 r = 0 ∧ Sc'.2 71 r = 0) (h71 : Sc'.2 71 = Sc.2 71) : pr_FL Sc' Sr' := by
  intro p hp
  rcases Int.lt_or_le (p : Int) (Sr.1 4745) with h1 | h1
  · rw [h83 p h1, h71]; exact h p h1
  · obtain ⟨a, b⟩ := h83n p h1 hp
    rw [a, b]; exact ⟨rfl, Or.inl rfl⟩
theorem pr_RX_core {Sc Sr Sc' Sr' : am_S} {st : List Nat} (h : pr_RX Sc Sr st) (hc : pr_kC Sc Sc') (hr : pr_kR Sr Sr') (hm : Sr.1 4745 ≤ Sr'.1 4745) (h83 : ∀ q : Nat, (q : Int) < Sr.1 4745 → Sr'.2 83 q = Sr.2 83 q) (h83n : ∀ r : Nat, Sr.1 4745 ≤ (r : Int) → (r : Int) < Sr'.1 4745 → Sr'.2 83 r = 0 ∧ Sc'.2 71 r = 0) (h71 : Sc'.2 71 = Sc.2 71) : pr_RX Sc' Sr' st := by
  obtain ⟨h1, h2, h3, h4, h5⟩ := h
  refine ⟨pr_st_core h1 hc hr hm (fun a _ _ hl h0 => by rw [h83 a hl]; exact h0), by rw [hc.2 459 (by omega)]; exact h2, by rw [hr.2 4788 (by omega) (by omega)]; exact h3, pr_SP_core h4 hc hr (fun r hr1 hr2 => ?_), pr_FL_core h5 h83 h83n h71⟩
  rcases Int.lt_or_le (r : Int) (Sr.1 4745) with h | h
  · exact ⟨h, by rw [← h83 r h]; exact hr2⟩
  · have := (h83n r h hr1).1; omega
