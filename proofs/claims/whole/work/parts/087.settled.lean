/-! ALL OF A NETWORK SETTLED -/
theorem pp_NK_cg {S T : mm_S} {a : Nat} (h : pp_NK S a) (e1 : T.I a 10 = S.I a 10) (e2 : T.I a 11 = S.I a 11) (e3 : T.A (a + 1) = S.A (a + 1)) (e4 : T.A (a + 3) = S.A (a + 3)) (e5 : T.A (a + 4) = S.A (a + 4)) : pp_NK T a := by
  unfold pp_NK
  rw [e1, e2, e3, e4, e5]
  exact h
theorem pp_GK_cg {S T : mm_S} {a : Nat} (h : pp_GK S a) (e1 : T.I a 10 = S.I a 10) (e4 : T.A (a + 3) = S.A (a + 3)) (e5 : T.A (a + 4) = S.A (a + 4)) : pp_GK T a := by
  unfold pp_GK
  rw [e1, e4, e5]
  exact h
theorem pp_GK_self {S : mm_S} {a : Nat} (h : pp_GK S a) {s : Int} (h1 : 0 ≤ s) (h2 : s < 12) : mm_bt (S.A (a + 3) s) s = false := by
  cases e : mm_bt (S.A (a + 3) s) s with
  | false => rfl
  | true =>
    have g := h.1 s s h1 h2 h1 h2 e
    obtain ⟨rk, hr⟩ := h.2.2.2
    have q := hr s s (by rw [pp_Wf_eq ⟨h1, g.1, h1, g.2⟩]; exact e)
    omega
section SETTLED
variable {E : mm_E} {d B : Nat} {S : mm_S} {c : mm_N} {a : Nat}
/-- LONGEST of the first k of the order -/
def pp_L1 (n : Int) (T : Int → Int) (W : pp_W) (ord L : Int → Int) (k : Int) : Prop := (∀ i : Int, 0 ≤ i → i < k → L (ord i) = pp_gx (T (ord i * 7 + 2)) (fun j => W j (ord i)) L n.toNat + T (ord i * 7 + 0) ∧ L (ord i) ≤ 9 + 9 * (i + 1)) ∧ (∀ s : Int, 0 ≤ s → s < 12 → 0 ≤ L s ∧ L s ≤ 200)
theorem pp_L1_st {n : Int} {T : Int → Int} {W : pp_W} {ord L : Int → Int} {k : Int} (hn : n ≤ 12) (hW : pp_IN n W) (hO : pp_OR n W ord) (hT : ∀ s : Int, 0 ≤ s → s < 12 → pp_tR T s) (h : pp_L1 n T W ord L k) (h0 : 0 ≤ k) (h1 : k < n) :
    pp_L1 n T W ord (mm_u L (ord k) (pp_gx (T (ord k * 7 + 2)) (fun j => W j (ord k)) L n.toNat + T (ord k * 7 + 0))) (k + 1) := by
  obtain ⟨ho, hd, hs, hc⟩ := hO
  have hk := ho k h0 h1
  have t0 := hT (ord k) hk.1 (by omega)
  unfold pp_tR at t0
  have q1 := pp_gx_ge (T (ord k * 7 + 2)) (fun j => W j (ord k)) L n.toNat
  -- suppliers stand ahead: each is at most 9 + 9 k
  have q2 : pp_gx (T (ord k * 7 + 2)) (fun j => W j (ord k)) L n.toNat ≤ 9 + 9 * k := pp_gx_le _ (by omega) (fun j _ _ hj => by
    obtain ⟨i, i1, i2, i3⟩ := hs k j h0 h1 hj
    have g := (h.1 i i1 i2).2
    rw [i3] at g
    omega)
  -- what stands ahead is not changed
  have ne : ∀ i : Int, 0 ≤ i → i < k → ord i ≠ ord k := fun i i1 i2 => hd i k i1 i2 h1
  have same : ∀ i : Int, 0 ≤ i → i ≤ k → pp_gx (T (ord i * 7 + 2)) (fun j => W j (ord i)) (mm_u L (ord k) (pp_gx (T (ord k * 7 + 2)) (fun j => W j (ord k)) L n.toNat + T (ord k * 7 + 0))) n.toNat = pp_gx (T (ord i * 7 + 2)) (fun j => W j (ord i)) L n.toNat := by
    intro i i1 i2
    refine pp_gx_congr _ (fun j _ _ => ⟨rfl, fun hj => ?_⟩)
    obtain ⟨l, l1, l2, l3⟩ := hs i j i1 (by omega) hj
    rw [mm_u_ne]
    intro z
    exact ne l l1 (by omega) (l3.trans z)
  refine ⟨fun i i1 i2 => ?_, fun s s1 s2 => ?_⟩
  · rw [same i i1 (by omega)]
    by_cases e : i = k
    · rw [e, mm_u_eq]
      exact ⟨rfl, by omega⟩
    · rw [mm_u_ne (ne i i1 (by omega))]
      exact h.1 i i1 (by omega)
  · by_cases e : s = ord k
    · rw [e, mm_u_eq]
      omega
    · rw [mm_u_ne e]
      exact h.2 s s1 s2
theorem l_settle1 (hd : 2 ≤ d) (ha : a = 3 ∨ a = 14 ∨ a = 25) (hN : pp_NK S a) (hO : pp_OR (S.I a 10) (pp_Wf (S.I a 10) (S.A (a + 3))) (S.A (a + 7))) : ∀ (j k n : Nat) (L : Int → Int), (S.I a 10).toNat = k + j → j < n → pp_L1 (S.I a 10) (S.A (a + 1)) (pp_Wf (S.I a 10) (S.A (a + 3))) (S.A (a + 7)) L k →
    ∃ (m : Nat) (L' : Int → Int), n ≤ m + j + 1 ∧ pp_L1 (S.I a 10) (S.A (a + 1)) (pp_Wf (S.I a 10) (S.A (a + 3))) (S.A (a + 7)) L' (S.I a 10) ∧ mm_r43_16 E (mm_ev E d) n (mm_ad B a) (mm_i k) (mm_hp B (S.sA (a + 10) L) c) = mm_r43_47 E (mm_ev E d) m (mm_ad B a) (mm_i (S.I a 10 - 1)) (mm_hp B (S.sA (a + 10) L') c) := by
  have hN' := hN
  obtain ⟨⟨n0, n1⟩, -, hS, -, hT⟩ := hN
  intro j
  induction j with
  | zero =>
    intro k n L hk hn hI
    obtain ⟨n, rfl⟩ : ∃ m, n = m + 1 := ⟨n - 1, by omega⟩
    refine ⟨n, L, by omega, by rw [show S.I a 10 = (k : Int) by omega]; rw [show S.I a 10 = (k : Int) by omega] at hI; exact hI, ?_⟩
    rw [mm_e43_16]
    simp (disch := omega) only [mm_ptN, mm_gs, mm_br_le, mm_hm]
    rw [if_pos (by omega)]
  | succ j ih =>
    intro k n L hk hn hI
    obtain ⟨n, rfl⟩ : ∃ m, n = m + 1 := ⟨n - 1, by omega⟩
    have ho := hO.1 k (by omega) (by omega)
    obtain ⟨m, L', q1, q2, q3⟩ := ih (k + 1) n _ (by omega) (by omega) (by rw [Int.natCast_add, Int.natCast_one]; exact pp_L1_st n1 (pp_Wf_in _ _) hO hT hI (by omega) (by omega))
    refine ⟨m, L', by omega, q2, ?_⟩
    have hv := ((pp_L1_st n1 (pp_Wf_in _ _) hO hT hI (by omega) (by omega)).1 k (by omega) (by omega)).2
    rw [mm_u_eq] at hv
    rw [← q3, mm_e43_16]
    simp (disch := omega) only [mm_ptN, mm_gs, pp_ne, mm_br_le]
    rw [if_neg (by omega), c_settleLongest (S := S.sA (a + 10) L) hd ha (pp_NK_cg hN' rfl rfl (mm_gA_ne (by omega)) (mm_gA_ne (by omega)) (mm_gA_ne (by omega))) ho.1 ho.2 (by rw [mm_gs.2.2.2.2.2.2.2.2.1]; exact hI.2) (by
      simp (disch := omega) only [mm_gs, pp_ne]
      rw [pp_gx_congr (q := fun j => pp_Wf (S.I a 10) (S.A (a + 3)) j (S.A (a + 7) k)) (h := L) _ (fun i i1 i2 => ⟨(pp_Wf_eq ⟨i1, by omega, ho.1, ho.2⟩).symm, fun _ => rfl⟩)]
      omega)]
    simp (disch := omega) only [mm_hm, mm_gs, pp_ne]
    rw [Int.natCast_add, Int.natCast_one]
    rw [pp_gx_congr (q := fun j => pp_Wf (S.I a 10) (S.A (a + 3)) j (S.A (a + 7) k)) (h := L) _ (fun i i1 i2 => ⟨(pp_Wf_eq ⟨i1, by omega, ho.1, ho.2⟩).symm, fun _ => rfl⟩)]
/-- FLOW of those behind k in the order -/
def pp_F1 (n : Int) (g : Int → Int) (W : pp_W) (ord G : Int → Int) (k : Int) : Prop := ∀ i : Int, 0 ≤ i → k ≤ i → i < n → G (ord i) = g (ord i) + pp_sm (fun j => if W (ord i) j = true then G j else 0) n.toNat
theorem pp_behind {n : Int} {W : pp_W} {ord : Int → Int} (hW : pp_IN n W) (hO : pp_OR n W ord) {i j : Int} (h1 : 0 ≤ i) (h2 : i < n) (h : W (ord i) j = true) : ∃ k : Int, i < k ∧ k < n ∧ ord k = j := by
  obtain ⟨ho, hd, hs, hc⟩ := hO
  have g := hW _ _ h
  obtain ⟨k, k1, k2, k3⟩ := hc j g.2.2.1 g.2.2.2
  rw [← k3] at h
  obtain ⟨l, l1, l2, l3⟩ := hs k (ord i) k1 k2 h
  by_cases e : l = i
  · exact ⟨k, by omega, k2, k3⟩
  · exfalso
    by_cases f : l < i
    · exact hd l i l1 f h2 l3
    · exact hd i l h1 (by omega) (by omega) l3.symm
theorem pp_F1_st {n : Int} {g : Int → Int} {W : pp_W} {ord G : Int → Int} {k : Int} (hW : pp_IN n W) (hO : pp_OR n W ord) (h : pp_F1 n g W ord G (k + 1)) (h0 : 0 ≤ k) (h1 : k < n) :
    pp_F1 n g W ord (mm_u G (ord k) (g (ord k) + pp_sm (fun j => if W (ord k) j = true then G j else 0) n.toNat)) k := by
  have hd := hO.2.1
  intro i i1 i2 i3
  have same : ∀ i : Int, 0 ≤ i → k ≤ i → i < n → pp_sm (fun j => if W (ord i) j = true then mm_u G (ord k) (g (ord k) + pp_sm (fun j => if W (ord k) j = true then G j else 0) n.toNat) j else 0) n.toNat = pp_sm (fun j => if W (ord i) j = true then G j else 0) n.toNat := by
    intro i i1 i2 i3
    refine pp_sm_congr _ (fun j _ _ => ?_)
    by_cases e : W (ord i) j = true
    · rw [if_pos e, if_pos e, mm_u_ne]
      obtain ⟨l, l1, l2, l3⟩ := pp_behind hW hO i1 i3 e
      rw [← l3]
      exact (hd k l h0 (by omega) l2).symm
    · rw [if_neg e, if_neg e]
  rw [same i i1 i2 i3]
  by_cases e : i = k
  · rw [e, mm_u_eq]
  · rw [mm_u_ne (hd k i h0 (by omega) i3).symm]
    exact h i i1 (by omega) i3
theorem l_settle2 (hd : 2 ≤ d) (ha : a = 3 ∨ a = 14 ∨ a = 25) (hN : pp_NK S a) (hG : pp_GK S a) (hO : pp_OR (S.I a 10) (pp_Wf (S.I a 10) (S.A (a + 3))) (S.A (a + 7))) : ∀ (k n : Nat) (f g : Int → Int), (k : Int) ≤ S.I a 10 → k < n → pp_F1 (S.I a 10) (fun s => S.A (a + 1) (s * 7 + 3)) (pp_Wf (S.I a 10) (S.A (a + 3))) (S.A (a + 7)) f k → pp_F1 (S.I a 10) (fun s => S.A (a + 1) (s * 7 + 4)) (pp_Wf (S.I a 10) (S.A (a + 3))) (S.A (a + 7)) g k →
    ∃ (f' g' : Int → Int), pp_F1 (S.I a 10) (fun s => S.A (a + 1) (s * 7 + 3)) (pp_Wf (S.I a 10) (S.A (a + 3))) (S.A (a + 7)) f' 0 ∧ pp_F1 (S.I a 10) (fun s => S.A (a + 1) (s * 7 + 4)) (pp_Wf (S.I a 10) (S.A (a + 3))) (S.A (a + 7)) g' 0 ∧ mm_r43_47 E (mm_ev E d) n (mm_ad B a) (mm_i ((k : Int) - 1)) (mm_hp B ((S.sA (a + 8) f).sA (a + 9) g) c) = mm_oV (mm_hp B ((S.sA (a + 8) f').sA (a + 9) g') c) := by
  have hN' := hN
  obtain ⟨⟨n0, n1⟩, -, hS, -, hT⟩ := hN
  intro k
  induction k with
  | zero =>
    intro n f g hk hn hf hg
    obtain ⟨n, rfl⟩ : ∃ m, n = m + 1 := ⟨n - 1, by omega⟩
    refine ⟨f, g, hf, hg, ?_⟩
    rw [mm_e43_47]
    simp (disch := omega) only [mm_br_lt]
    rw [if_pos (by omega)]
  | succ k ih =>
    intro n f g hk hn hf hg
    obtain ⟨n, rfl⟩ : ∃ m, n = m + 1 := ⟨n - 1, by omega⟩
    rw [Int.natCast_add, Int.natCast_one] at hf hg
    have ho := hO.1 k (by omega) (by omega)
    obtain ⟨f', g', q1, q2, q3⟩ := ih n _ _ (by omega) (by omega) (pp_F1_st (pp_Wf_in _ _) hO hf (by omega) (by omega)) (pp_F1_st (pp_Wf_in _ _) hO hg (by omega) (by omega))
    refine ⟨f', g', q1, q2, ?_⟩
    rw [← q3, mm_e43_47]
    simp (disch := omega) only [mm_br_lt]
    rw [if_neg (by omega), show ((k + 1 : Nat) : Int) - 1 = (k : Int) by omega]
    simp (disch := omega) only [mm_ptN, mm_gs, pp_ne]
    rw [c_settleFlow (S := (S.sA (a + 8) f).sA (a + 9) g) hd ha (pp_NK_cg hN' rfl rfl (by rw [mm_gA_ne (by omega), mm_gA_ne (by omega)]) (by rw [mm_gA_ne (by omega), mm_gA_ne (by omega)]) (by rw [mm_gA_ne (by omega), mm_gA_ne (by omega)])) ho.1 ho.2 (by rw [mm_gA_ne (by omega), mm_gA_ne (by omega)]; exact pp_GK_self hG ho.1 (by omega))]
    simp (disch := omega) only [mm_hm, mm_gs, pp_ne, pp_cm]
    have e : ∀ G : Int → Int, pp_sm (fun j => if mm_bt (S.A (a + 3) j) (S.A (a + 7) k) = true then G j else 0) (S.I a 10).toNat = pp_sm (fun j => if pp_Wf (S.I a 10) (S.A (a + 3)) (S.A (a + 7) k) j = true then G j else 0) (S.I a 10).toNat := fun G => pp_sm_congr _ (fun j j1 j2 => by rw [pp_Wf_eq ⟨ho.1, ho.2, j1, by omega⟩])
    rw [e, e, show (k : Int) + -1 = k - 1 by omega]
/-- A Net settled -/
def pp_ST (n : Int) (T : Int → Int) (W : pp_W) (ord fl wd L : Int → Int) : Prop := pp_OR n W ord ∧ pp_FQ n (fun s => T (s * 7 + 3)) W fl ∧ pp_FQ n (fun s => T (s * 7 + 4)) W wd ∧ pp_LQ n T W L ∧ (∀ s : Int, 0 ≤ s → s < n → L s ≤ 117) ∧ (∀ s : Int, 0 ≤ s → s < 12 → 0 ≤ L s ∧ L s ≤ 200)
theorem c_settle (hd : 3 ≤ d) (ha : a = 3 ∨ a = 14 ∨ a = 25) (hN : pp_NK S a) (hG : pp_GK S a) (hL : ∀ s : Int, 0 ≤ s → s < 12 → 0 ≤ S.A (a + 10) s ∧ S.A (a + 10) s ≤ 200) : ∃ ord fl wd L, pp_ST (S.I a 10) (S.A (a + 1)) (pp_Wf (S.I a 10) (S.A (a + 3))) ord fl wd L
    ∧ mm_ev E d 43 [.ref (mm_ad B a)] (mm_hp B S c) = mm_oV (mm_hp B (((((S.sI a 12 (S.I a 12 + 1)).sA (a + 7) ord).sA (a + 8) fl).sA (a + 9) wd).sA (a + 10) L) c) := by
  obtain ⟨e, rfl⟩ : ∃ e, d = e + 1 := ⟨d - 1, by omega⟩
  obtain ⟨F, hF, h⟩ := mm_w43 E e B S c a ha
  have n0 := hN.1
  obtain ⟨ord, hO, h1⟩ := c_sort (E := E) (d := e) (B := B) (S := S.sI a 12 (S.I a 12 + 1)) (c := c) (by omega) ha (pp_NK_cg hN (mm_gI_ne (by omega)) (mm_gI_ne (by omega)) rfl rfl rfl) (pp_GK_cg hG (mm_gI_ne (by omega)) rfl rfl)
  have i10 : (S.sI a 12 (S.I a 12 + 1)).I a 10 = S.I a 10 := mm_gI_ne (by omega)
  rw [i10] at hO
  have hO : pp_OR (S.I a 10) (pp_Wf (S.I a 10) (S.A (a + 3))) ord := hO
  have hN1 : pp_NK ((S.sI a 12 (S.I a 12 + 1)).sA (a + 7) ord) a := pp_NK_cg hN (mm_gI_ne (by omega)) (mm_gI_ne (by omega)) (mm_gA_ne (by omega)) (mm_gA_ne (by omega)) (mm_gA_ne (by omega))
  have hG1 : pp_GK ((S.sI a 12 (S.I a 12 + 1)).sA (a + 7) ord) a := pp_GK_cg hG (mm_gI_ne (by omega)) (mm_gA_ne (by omega)) (mm_gA_ne (by omega))
  have j10 : ((S.sI a 12 (S.I a 12 + 1)).sA (a + 7) ord).I a 10 = S.I a 10 := i10
  have jA1 : ((S.sI a 12 (S.I a 12 + 1)).sA (a + 7) ord).A (a + 1) = S.A (a + 1) := mm_gA_ne (by omega)
  have jA3 : ((S.sI a 12 (S.I a 12 + 1)).sA (a + 7) ord).A (a + 3) = S.A (a + 3) := mm_gA_ne (by omega)
  have jA7 : ((S.sI a 12 (S.I a 12 + 1)).sA (a + 7) ord).A (a + 7) = ord := mm_gs.2.2.2.2.2.2.2.2.1 _ _ _
  have jA10 : ((S.sI a 12 (S.I a 12 + 1)).sA (a + 7) ord).A (a + 10) = S.A (a + 10) := mm_gA_ne (by omega)
  have hS : ∀ (S : mm_S) (b : Nat), S.sA b (S.A b) = S := fun S b => by
    apply pp_ext
    · intros; rfl
    · intros; rfl
    · intro x
      by_cases h : x = b
      · rw [h, mm_gs.2.2.2.2.2.2.2.2.1]
      · exact mm_gA_ne h
    · intros; rfl
  obtain ⟨m, L, q1, q2, q3⟩ := l_settle1 (E := E) (d := e) (B := B) (S := (S.sI a 12 (S.I a 12 + 1)).sA (a + 7) ord) (c := c) (by omega) ha hN1 (by rw [j10, jA3, jA7]; exact hO) (S.I a 10).toNat 0 (F + 99) (S.A (a + 10)) (by rw [j10]; omega) (by omega) ⟨fun i i1 i2 => by omega, hL⟩
  have q3 : mm_r43_16 E (mm_ev E e) (F + 99) (mm_ad B a) (mm_i 0) _ = _ := q3
  have hSS := hS ((S.sI a 12 (S.I a 12 + 1)).sA (a + 7) ord) (a + 10)
  rw [jA10] at hSS
  rw [hSS, j10] at q3
  rw [j10, jA1, jA3, jA7] at q2
  have k10 : (((S.sI a 12 (S.I a 12 + 1)).sA (a + 7) ord).sA (a + 10) L).I a 10 = S.I a 10 := i10
  have kA1 : (((S.sI a 12 (S.I a 12 + 1)).sA (a + 7) ord).sA (a + 10) L).A (a + 1) = S.A (a + 1) := by rw [mm_gA_ne (by omega), jA1]
  have kA3 : (((S.sI a 12 (S.I a 12 + 1)).sA (a + 7) ord).sA (a + 10) L).A (a + 3) = S.A (a + 3) := by rw [mm_gA_ne (by omega), jA3]
  have kA4 : (((S.sI a 12 (S.I a 12 + 1)).sA (a + 7) ord).sA (a + 10) L).A (a + 4) = S.A (a + 4) := by rw [mm_gA_ne (by omega), mm_gA_ne (by omega)]; rfl
  have kA7 : (((S.sI a 12 (S.I a 12 + 1)).sA (a + 7) ord).sA (a + 10) L).A (a + 7) = ord := by rw [mm_gA_ne (by omega), jA7]
  obtain ⟨f, g, r1, r2, r3⟩ := l_settle2 (E := E) (d := e) (B := B) (S := ((S.sI a 12 (S.I a 12 + 1)).sA (a + 7) ord).sA (a + 10) L) (c := c) (by omega) ha (pp_NK_cg hN k10 (mm_gI_ne (by omega)) kA1 kA3 kA4) (pp_GK_cg hG k10 kA3 kA4) (by rw [k10, kA3, kA7]; exact hO) (S.I a 10).toNat m (S.A (a + 8)) (S.A (a + 9)) (by rw [k10]; omega) (by omega) (fun i i1 i2 i3 => by rw [k10] at i3; omega) (fun i i1 i2 i3 => by rw [k10] at i3; omega)
  rw [k10, kA1, kA3, kA7] at r1 r2
  refine ⟨ord, f, g, L, ⟨hO, fun s s1 s2 => ?_, fun s s1 s2 => ?_, fun s s1 s2 => ?_, fun s s1 s2 => ?_, q2.2⟩, ?_⟩
  · obtain ⟨i, i1, i2, i3⟩ := hO.2.2.2 s s1 s2
    have z := r1 i i1 i1 i2
    rw [i3] at z
    exact z
  · obtain ⟨i, i1, i2, i3⟩ := hO.2.2.2 s s1 s2
    have z := r2 i i1 i1 i2
    rw [i3] at z
    exact z
  · obtain ⟨i, i1, i2, i3⟩ := hO.2.2.2 s s1 s2
    have z := (q2.1 i i1 i2).1
    rw [i3] at z
    exact z
  · obtain ⟨i, i1, i2, i3⟩ := hO.2.2.2 s s1 s2
    have z := (q2.1 i i1 i2).2
    rw [i3] at z
    omega
  · rw [h, mm_e43_0]
    simp (disch := omega) only [mm_ptN, mm_hm]
    rw [h1, mm_cV_ok, q3]
    rw [show ((S.I a 10).toNat : Int) = S.I a 10 by omega] at r3
    have e89 : ((((S.sI a 12 (S.I a 12 + 1)).sA (a + 7) ord).sA (a + 10) L).sA (a + 8) (S.A (a + 8))).sA (a + 9) (S.A (a + 9)) = ((S.sI a 12 (S.I a 12 + 1)).sA (a + 7) ord).sA (a + 10) L := by
      have z8 : (((S.sI a 12 (S.I a 12 + 1)).sA (a + 7) ord).sA (a + 10) L).A (a + 8) = S.A (a + 8) := by rw [mm_gA_ne (by omega), mm_gA_ne (by omega)]; rfl
      have z9 : (((S.sI a 12 (S.I a 12 + 1)).sA (a + 7) ord).sA (a + 10) L).A (a + 9) = S.A (a + 9) := by rw [mm_gA_ne (by omega), mm_gA_ne (by omega)]; rfl
      have y8 := hS (((S.sI a 12 (S.I a 12 + 1)).sA (a + 7) ord).sA (a + 10) L) (a + 8)
      have y9 := hS (((S.sI a 12 (S.I a 12 + 1)).sA (a + 7) ord).sA (a + 10) L) (a + 9)
      rw [z8] at y8
      rw [z9] at y9
      rw [y8, y9]
    rw [e89] at r3
    rw [r3]
    simp (disch := omega) only [pp_cm]
end SETTLED
