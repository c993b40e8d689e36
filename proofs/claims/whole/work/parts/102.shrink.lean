/-! A NET SHRINKS, BECOMES ANOTHER; small checks -/
section SHRINK
variable {E : mm_E} {d B : Nat} {S : mm_S} {c : mm_N} {a : Nat}
theorem pp_bt_u {f : Int → Int} {m k i j : Int} (hk : 0 ≤ k) (hi : 0 ≤ i) : mm_bt (mm_u f m (mm_idf (f m) (mm_pw k)) j) i = (mm_bt (f j) i && !decide (j = m ∧ i = k)) := by
  by_cases e : j = m
  · rw [e, mm_u_eq, mm_bt_df, mm_bt_pw hk hi]
    congr 2
    exact decide_eq_decide.mpr ⟨fun z => ⟨rfl, z⟩, fun z => z.2⟩
  · rw [mm_u_ne e, decide_eq_false (fun z => e z.1), Bool.not_false, Bool.and_true]
theorem pp_bR_u {f : Int → Int} {m k : Int} (hf : pp_bR f) (h1 : 0 ≤ m) (h2 : m < 12) : pp_bR (mm_u f m (mm_idf (f m) (mm_pw k))) := fun s s1 s2 => by
  by_cases e : s = m
  · rw [e, mm_u_eq]; exact ⟨mm_idf_nn _ _, mm_idf_lt (hf m h1 h2).2⟩
  · rw [mm_u_ne e]; exact hf s s1 s2
def pp_rm (m k i j : Int) : Bool := decide ((j = m ∧ i < k) ∨ (i = m ∧ j < k))
theorem pp_rm_st {x : Bool} {m k i j : Int} : (((x && !pp_rm m k i j) && !decide (j = m ∧ i = k)) && !decide (j = k ∧ i = m)) = (x && !pp_rm m (k + 1) i j) := by
  unfold pp_rm
  cases x with
  | false => rfl
  | true =>
    rw [Bool.eq_iff_iff]
    simp only [Bool.true_and, Bool.and_eq_true, Bool.not_eq_true', decide_eq_false_iff_not]
    omega
theorem l_shrink1 (hd : 1 ≤ d) (ha : a = 3 ∨ a = 14 ∨ a = 25) (h1 : 0 ≤ S.I a 10) (h2 : S.I a 10 < 12) (f0 g0 : Int → Int) : ∀ (j k n : Nat) (f g : Int → Int), k + j = 12 → j < n → pp_bR f → pp_bR g → (∀ i j : Int, 0 ≤ i → 0 ≤ j → mm_bt (f j) i = (mm_bt (f0 j) i && !pp_rm (S.I a 10) k i j)) → (∀ i j : Int, 0 ≤ i → 0 ≤ j → mm_bt (g i) j = (mm_bt (g0 i) j && !pp_rm (S.I a 10) k i j)) → ∃ m f' g', n ≤ m + j + 1 ∧ pp_bR f' ∧ pp_bR g' ∧ (∀ i j : Int, 0 ≤ i → 0 ≤ j → mm_bt (f' j) i = (mm_bt (f0 j) i && !pp_rm (S.I a 10) 12 i j)) ∧ (∀ i j : Int, 0 ≤ i → 0 ≤ j → mm_bt (g' i) j = (mm_bt (g0 i) j && !pp_rm (S.I a 10) 12 i j)) ∧ mm_r37_20 E (mm_ev E d) n (mm_ad B a) (mm_i k) (mm_hp B ((S.sA (a + 3) f).sA (a + 4) g) c) = mm_r37_52 E (mm_ev E d) m (mm_ad B a) (mm_i 0) (mm_hp B ((S.sA (a + 3) f').sA (a + 4) g') c) := by
  intro j
  induction j with
  | zero =>
    intro k n f g hk hn hf hg e1 e2
    obtain ⟨n, rfl⟩ : ∃ q, n = q + 1 := ⟨n - 1, by omega⟩
    have k12 : (k : Int) = 12 := by omega
    rw [k12] at e1 e2
    refine ⟨n, f, g, by omega, hf, hg, e1, e2, ?_⟩
    rw [mm_e37_20]
    simp (disch := omega) only [mm_br_le]
    rw [if_pos (by omega)]
  | succ j ih =>
    intro k n f g hk hn hf hg e1 e2
    obtain ⟨n, rfl⟩ : ∃ q, n = q + 1 := ⟨n - 1, by omega⟩
    have hf1 := pp_bR_u (k := k) hf h1 h2
    have hg1 := pp_bR_u (m := k) (k := S.I a 10) hg (by omega) (by omega)
    have hf2 := pp_bR_u (m := k) (k := S.I a 10) hf1 (by omega) (by omega)
    have hg2 := pp_bR_u (m := S.I a 10) (k := k) hg1 h1 h2
    obtain ⟨m, f', g', q1, q2, q3, q4, q5, q6⟩ := ih (k + 1) n _ _ (by omega) (by omega) hf2 hg2 (fun i j i0 j0 => by
      rw [pp_bt_u h1 i0, pp_bt_u (by omega) i0, e1 i j i0 j0, Int.natCast_add, Int.natCast_one]
      exact pp_rm_st) (fun i j i0 j0 => by
      rw [pp_bt_u (by omega) j0, pp_bt_u h1 j0, e2 i j i0 j0, Int.natCast_add, Int.natCast_one]
      have z := pp_rm_st (x := mm_bt (g0 i) j) (m := S.I a 10) (k := k) (i := i) (j := j)
      rw [← z]
      congr 2
      · congr 1
        exact decide_eq_decide.mpr ⟨fun z => ⟨z.2, z.1⟩, fun z => ⟨z.2, z.1⟩⟩
      · exact decide_eq_decide.mpr ⟨fun z => ⟨z.2, z.1⟩, fun z => ⟨z.2, z.1⟩⟩)
    refine ⟨m, f', g', by omega, q2, q3, q4, q5, ?_⟩
    rw [Int.natCast_add, Int.natCast_one] at q6
    have a3 : ∀ f g : Int → Int, ((S.sA (a + 3) f).sA (a + 4) g).A (a + 3) = f := fun f g => by rw [mm_gA_ne (by omega), mm_gs.2.2.2.2.2.2.2.2.1]
    have a4 : ∀ f g : Int → Int, ((S.sA (a + 3) f).sA (a + 4) g).A (a + 4) = g := fun f g => mm_gs.2.2.2.2.2.2.2.2.1 _ _ _
    have c1 := c_part (E := E) (d := d) (B := B) (S := (S.sA (a + 3) f).sA (a + 4) g) (c := c) (i := (k : Int)) (j := S.I a 10) hd ha (by omega) (by omega) h1 h2 (by rw [a3]; exact (hf _ h1 h2).1) (by rw [a4]; exact (hg k (by omega) (by omega)).1)
    rw [a3, a4] at c1
    simp (disch := omega) only [mm_gs, pp_cm] at c1
    have c2 := c_part (E := E) (d := d) (B := B) (S := (S.sA (a + 3) (mm_u f (S.I a 10) (mm_idf (f (S.I a 10)) (mm_pw k)))).sA (a + 4) (mm_u g k (mm_idf (g k) (mm_pw (S.I a 10))))) (c := c) (i := S.I a 10) (j := (k : Int)) hd ha h1 h2 (by omega) (by omega) (by rw [a3]; exact (hf1 k (by omega) (by omega)).1) (by rw [a4]; exact (hg1 _ h1 h2).1)
    rw [a3, a4] at c2
    simp (disch := omega) only [mm_gs, pp_cm] at c2
    rw [← q6, mm_e37_20]
    simp (disch := omega) only [mm_br_le]
    rw [if_neg (by omega)]
    simp (disch := omega) only [mm_ptN, mm_gs]
    rw [c1, mm_cV_ok]
    simp (disch := omega) only [mm_ptN, mm_gs]
    rw [c2, mm_cV_ok, mm_i_add]
theorem l_shrink2 {cl : mm_F} (ha : a = 3 ∨ a = 14 ∨ a = 25) (h1 : 0 ≤ S.I a 10) (h2 : S.I a 10 < 12) : ∀ (j k n : Nat) (f : Int → Int), k + j = 6 → j < n → (∀ i : Int, 0 ≤ i → i < k → f (S.I a 10 * 6 + i) = 0) → ∃ m f', n ≤ m + j + 1 ∧ (∀ i : Int, 0 ≤ i → i < 6 → f' (S.I a 10 * 6 + i) = 0) ∧ (∀ i : Int, ¬ (S.I a 10 * 6 ≤ i ∧ i < S.I a 10 * 6 + 6) → f' i = f i) ∧ mm_r37_52 E cl n (mm_ad B a) (mm_i k) (mm_hp B (S.sA (a + 2) f) c) = mm_r37_91 E cl m (mm_ad B a) (mm_i 0) (mm_hp B ((S.sA (a + 2) f').sA (a + 5) (mm_u (S.A (a + 5)) (S.I a 10) 0)) c) := by
  intro j
  induction j with
  | zero =>
    intro k n f hk hn hf
    obtain ⟨n, rfl⟩ : ∃ q, n = q + 1 := ⟨n - 1, by omega⟩
    refine ⟨n, f, by omega, fun i i1 i2 => hf i i1 (by omega), fun i _ => rfl, ?_⟩
    rw [mm_e37_52]
    simp (disch := omega) only [mm_br_le]
    rw [if_pos (by omega)]
    simp (disch := omega) only [mm_ptN, mm_gs, pp_ne]
  | succ j ih =>
    intro k n f hk hn hf
    obtain ⟨n, rfl⟩ : ∃ q, n = q + 1 := ⟨n - 1, by omega⟩
    obtain ⟨m, f', q1, q2, q3, q4⟩ := ih (k + 1) n (mm_u f (S.I a 10 * 6 + k) 0) (by omega) (by omega) (fun i i1 i2 => by
      by_cases e : i = k
      · rw [e, mm_u_eq]
      · rw [mm_u_ne (by omega)]; exact hf i i1 (by omega))
    refine ⟨m, f', by omega, q2, fun i hi => by rw [q3 i hi, mm_u_ne (by omega)], ?_⟩
    rw [Int.natCast_add, Int.natCast_one] at q4
    rw [← q4, mm_e37_52]
    simp (disch := omega) only [mm_br_le]
    rw [if_neg (by omega)]
    simp (disch := omega) only [mm_ptN, mm_gs, mm_hm]
theorem l_shrink3 {cl : mm_F} (ha : a = 3 ∨ a = 14 ∨ a = 25) (h1 : 0 ≤ S.I a 10) (h2 : S.I a 10 < 12) : ∀ (j k n : Nat) (f : Int → Int), k + j = 40 → j < n → (∀ i : Int, 0 ≤ i → i < k → f (S.I a 10 * 40 + i) = 0) → ∃ f', (∀ i : Int, 0 ≤ i → i < 40 → f' (S.I a 10 * 40 + i) = 0) ∧ (∀ i : Int, ¬ (S.I a 10 * 40 ≤ i ∧ i < S.I a 10 * 40 + 40) → f' i = f i) ∧ mm_r37_91 E cl n (mm_ad B a) (mm_i k) (mm_hp B (S.sA (a + 6) f) c) = mm_oV (mm_hp B (S.sA (a + 6) f') c) := by
  intro j
  induction j with
  | zero =>
    intro k n f hk hn hf
    obtain ⟨n, rfl⟩ : ∃ q, n = q + 1 := ⟨n - 1, by omega⟩
    refine ⟨f, fun i i1 i2 => hf i i1 (by omega), fun i _ => rfl, ?_⟩
    rw [mm_e37_91]
    simp (disch := omega) only [mm_br_le]
    rw [if_pos (by omega)]
  | succ j ih =>
    intro k n f hk hn hf
    obtain ⟨n, rfl⟩ : ∃ q, n = q + 1 := ⟨n - 1, by omega⟩
    obtain ⟨f', q2, q3, q4⟩ := ih (k + 1) n (mm_u f (S.I a 10 * 40 + k) 0) (by omega) (by omega) (fun i i1 i2 => by
      by_cases e : i = k
      · rw [e, mm_u_eq]
      · rw [mm_u_ne (by omega)]; exact hf i i1 (by omega))
    refine ⟨f', q2, fun i hi => by rw [q3 i hi, mm_u_ne (by omega)], ?_⟩
    rw [Int.natCast_add, Int.natCast_one] at q4
    rw [← q4, mm_e37_91]
    simp (disch := omega) only [mm_br_le]
    rw [if_neg (by omega)]
    simp (disch := omega) only [mm_ptN, mm_gs, mm_hm]
/-- the last stage goes -/
theorem c_shrink {m : Int} (hd : 2 ≤ d) (ha : a = 3 ∨ a = 14 ∨ a = 25) (hm : S.I a 10 = m + 1) (h1 : 0 ≤ m) (h2 : m < 12) (h3 : pp_bR (S.A (a + 3))) (h4 : pp_bR (S.A (a + 4))) : ∃ f g nm dm, pp_bR f ∧ pp_bR g ∧ (∀ i j : Int, 0 ≤ i → i < 12 → 0 ≤ j → j < 12 → mm_bt (f j) i = (mm_bt (S.A (a + 3) j) i && !decide (i = m ∨ j = m)) ∧ mm_bt (g i) j = (mm_bt (S.A (a + 4) i) j && !decide (i = m ∨ j = m))) ∧ (∀ i : Int, 0 ≤ i → i < 6 → nm (m * 6 + i) = 0) ∧ (∀ i : Int, ¬ (m * 6 ≤ i ∧ i < m * 6 + 6) → nm i = S.A (a + 2) i) ∧ (∀ i : Int, 0 ≤ i → i < 40 → dm (m * 40 + i) = 0) ∧ (∀ i : Int, ¬ (m * 40 ≤ i ∧ i < m * 40 + 40) → dm i = S.A (a + 6) i) ∧ mm_ev E d 37 [.ref (mm_ad B a)] (mm_hp B S c) = mm_oV (mm_hp B ((((((S.sI a 10 m).sA (a + 2) nm).sA (a + 3) f).sA (a + 4) g).sA (a + 5) (mm_u (S.A (a + 5)) m 0)).sA (a + 6) dm) c) := by
  obtain ⟨e, rfl⟩ : ∃ e, d = e + 1 := ⟨d - 1, by omega⟩
  obtain ⟨F, hF, h⟩ := mm_w37 E e B S c a ha
  have i1 : (S.sI a 10 m).I a 10 = m := mm_gs.1 _ _ _ _
  have r0 : ∀ (x : Bool) (i j : Int), 0 ≤ i → 0 ≤ j → x = (x && !pp_rm m ((0 : Nat) : Int) i j) := fun x i j i0 j0 => by
    unfold pp_rm
    rw [decide_eq_false (by omega), Bool.not_false, Bool.and_true]
  have r12 : ∀ (x : Bool) (i j : Int), 0 ≤ i → i < 12 → 0 ≤ j → j < 12 → (x && !pp_rm m 12 i j) = (x && !decide (i = m ∨ j = m)) := fun x i j i0 i2 j0 j2 => by
    unfold pp_rm
    congr 2
    exact decide_eq_decide.mpr (by omega)
  obtain ⟨m1, f, g, q1, q2, q3, q4, q5, q6⟩ := l_shrink1 (E := E) (d := e) (B := B) (S := S.sI a 10 m) (c := c) (by omega) ha (by rw [i1]; exact h1) (by rw [i1]; exact h2) (S.A (a + 3)) (S.A (a + 4)) 12 0 (F + 99) (S.A (a + 3)) (S.A (a + 4)) (by omega) (by omega) h3 h4 (fun i j i0 j0 => by rw [i1]; exact r0 _ i j i0 j0) (fun i j i0 j0 => by rw [i1]; exact r0 _ i j i0 j0)
  rw [i1] at q4 q5
  have id3 : ((S.sI a 10 m).sA (a + 3) (S.A (a + 3))).sA (a + 4) (S.A (a + 4)) = S.sI a 10 m := by
    have z3 := pp_sA_id (S.sI a 10 m) (a + 3)
    have z4 := pp_sA_id (S.sI a 10 m) (a + 4)
    have z3 : (S.sI a 10 m).sA (a + 3) (S.A (a + 3)) = _ := z3
    have z4 : (S.sI a 10 m).sA (a + 4) (S.A (a + 4)) = _ := z4
    rw [z3, z4]
  rw [id3] at q6
  have j1 : (((S.sI a 10 m).sA (a + 3) f).sA (a + 4) g).I a 10 = m := i1
  obtain ⟨m2, nm, n1, n2, n3, n4⟩ := l_shrink2 (E := E) (B := B) (S := ((S.sI a 10 m).sA (a + 3) f).sA (a + 4) g) (c := c) (cl := mm_ev E e) ha (by rw [j1]; exact h1) (by rw [j1]; exact h2) 6 0 m1 ((((S.sI a 10 m).sA (a + 3) f).sA (a + 4) g).A (a + 2)) (by omega) (by omega) (fun i i1 i2 => by omega)
  rw [pp_sA_id, j1] at n4
  rw [j1] at n2 n3
  obtain ⟨dm, d1, d2, d3⟩ := l_shrink3 (E := E) (B := B) (S := (((((S.sI a 10 m).sA (a + 3) f).sA (a + 4) g).sA (a + 2) nm).sA (a + 5) (mm_u ((((S.sI a 10 m).sA (a + 3) f).sA (a + 4) g).A (a + 5)) m 0))) (c := c) (cl := mm_ev E e) ha (by show 0 ≤ (S.sI a 10 m).I a 10; rw [i1]; exact h1) (by show (S.sI a 10 m).I a 10 < 12; rw [i1]; exact h2) 40 0 m2 ((((((S.sI a 10 m).sA (a + 3) f).sA (a + 4) g).sA (a + 2) nm).sA (a + 5) (mm_u ((((S.sI a 10 m).sA (a + 3) f).sA (a + 4) g).A (a + 5)) m 0)).A (a + 6)) (by omega) (by omega) (fun i i1 i2 => by omega)
  have k1 : (((((S.sI a 10 m).sA (a + 3) f).sA (a + 4) g).sA (a + 2) nm).sA (a + 5) (mm_u ((((S.sI a 10 m).sA (a + 3) f).sA (a + 4) g).A (a + 5)) m 0)).I a 10 = m := i1
  rw [pp_sA_id] at d3
  rw [k1] at d1 d2
  refine ⟨f, g, nm, dm, q2, q3, fun i j i0 i2 j0 j2 => ⟨by rw [q4 i j i0 j0, r12 _ i j i0 i2 j0 j2], by rw [q5 i j i0 j0, r12 _ i j i0 i2 j0 j2]⟩, n2, fun i hi => ?_, d1, fun i hi => ?_, ?_⟩
  · rw [n3 i hi]
    simp (disch := omega) only [mm_gs, pp_ne]
  · rw [d2 i hi]
    simp (disch := omega) only [mm_gs, pp_ne]
  · rw [h, mm_e37_0]
    simp (disch := omega) only [mm_ptN, mm_br_eq, mm_hm]
    rw [if_neg (by omega), show S.I a 10 - 1 = m by omega]
    have q6 : mm_r37_20 E (mm_ev E e) (F + 99) (mm_ad B a) (mm_i 0) (mm_hp B (S.sI a 10 m) c) = _ := q6
    have n4 : mm_r37_52 E (mm_ev E e) m1 (mm_ad B a) (mm_i 0) _ = _ := n4
    have d3 : mm_r37_91 E (mm_ev E e) m2 (mm_ad B a) (mm_i 0) _ = _ := d3
    rw [q6, n4, d3]
    simp (disch := omega) only [mm_gs, pp_ne, pp_cm]
/-- a Net becomes another one -/
theorem c_become {b : Nat} (hd : 5 ≤ d) (ha : a = 3 ∨ a = 14 ∨ a = 25) (hb : b = 3 ∨ b = 14 ∨ b = 25) (hab : a ≠ b) (hN : pp_NK S b) (hG : pp_GK S b) (hL : ∀ s : Int, 0 ≤ s → s < 12 → 0 ≤ S.A (a + 10) s ∧ S.A (a + 10) s ≤ 200) : ∃ T : mm_S, pp_NT T a ∧ T.I a 10 = S.I b 10 ∧ T.I a 11 = S.I b 11 ∧ T.I a 12 = S.I a 12 + 1 ∧ (∀ i : Int, 0 ≤ i → i < 84 → T.A (a + 1) i = S.A (b + 1) i) ∧ (∀ i : Int, 0 ≤ i → i < 72 → T.A (a + 2) i = S.A (b + 2) i) ∧ (∀ i : Int, 0 ≤ i → i < 12 → T.A (a + 3) i = S.A (b + 3) i ∧ T.A (a + 4) i = S.A (b + 4) i ∧ T.A (a + 5) i = S.A (b + 5) i) ∧ (∀ i : Int, 0 ≤ i → i < 480 → T.A (a + 6) i = S.A (b + 6) i) ∧ (∀ x k, x ≠ a → T.I x k = S.I x k) ∧ T.J = S.J ∧ T.L = S.L ∧ (∀ x, ¬ (a + 1 ≤ x ∧ x ≤ a + 10) → T.A x = S.A x) ∧ mm_ev E d 34 [.ref (mm_ad B a), .ref (mm_ad B b)] (mm_hp B S c) = mm_oV (mm_hp B T c) := by
  obtain ⟨e, rfl⟩ : ∃ e, d = e + 1 := ⟨d - 1, by omega⟩
  obtain ⟨F, hF, h⟩ := mm_w34 E e B S c a ha (mm_ad B b)
  obtain ⟨X, hT, x10, x11, x12, x1, x34, xI, xJ, xL, xA, ev⟩ := c_becomeN (E := E) (d := e) (B := B) (S := S) (c := c) (b := b) (by omega) ha hb hab hN hG hL
  have hY : ∃ Y : mm_S, Y = ((X.sA (a + 2) (fun j => if 0 ≤ j ∧ j < 72 then X.A (b + 2) j else X.A (a + 2) j)).sA (a + 5) (fun j => if 0 ≤ j ∧ j < 12 then X.A (b + 5) j else X.A (a + 5) j)).sA (a + 6) (fun j => if 0 ≤ j ∧ j < 480 then X.A (b + 6) j else X.A (a + 6) j) := ⟨_, rfl⟩
  obtain ⟨Y, eY⟩ := hY
  have y1 : Y.A (a + 1) = X.A (a + 1) := by rw [eY]; simp (disch := omega) only [mm_gs, pp_ne]
  have y2 : Y.A (a + 2) = fun j => if 0 ≤ j ∧ j < 72 then X.A (b + 2) j else X.A (a + 2) j := by rw [eY]; simp (disch := omega) only [mm_gs, pp_ne]
  have y3 : Y.A (a + 3) = X.A (a + 3) := by rw [eY]; simp (disch := omega) only [mm_gs, pp_ne]
  have y4 : Y.A (a + 4) = X.A (a + 4) := by rw [eY]; simp (disch := omega) only [mm_gs, pp_ne]
  have y5 : Y.A (a + 5) = fun j => if 0 ≤ j ∧ j < 12 then X.A (b + 5) j else X.A (a + 5) j := by rw [eY]; simp (disch := omega) only [mm_gs, pp_ne]
  have y6 : Y.A (a + 6) = fun j => if 0 ≤ j ∧ j < 480 then X.A (b + 6) j else X.A (a + 6) j := by rw [eY]; simp (disch := omega) only [mm_gs, pp_ne]
  have y7 : Y.A (a + 7) = X.A (a + 7) := by rw [eY]; simp (disch := omega) only [mm_gs, pp_ne]
  have y8 : Y.A (a + 8) = X.A (a + 8) := by rw [eY]; simp (disch := omega) only [mm_gs, pp_ne]
  have y9 : Y.A (a + 9) = X.A (a + 9) := by rw [eY]; simp (disch := omega) only [mm_gs, pp_ne]
  have y10 : Y.A (a + 10) = X.A (a + 10) := by rw [eY]; simp (disch := omega) only [mm_gs, pp_ne]
  have yI : Y.I = X.I := by rw [eY]; simp only [mm_gs]
  refine ⟨Y, ⟨pp_NK_cg hT.1 (by rw [yI]) (by rw [yI]) y1 y3 y4, pp_GK_cg hT.2.1 (by rw [yI]) y3 y4, ?_⟩, by rw [yI]; exact x10, by rw [yI]; exact x11, by rw [yI]; exact x12, fun i i1 i2 => by rw [y1]; exact x1 i i1 i2, fun i i1 i2 => ?_, fun i i1 i2 => ⟨by rw [y3]; exact (x34 i i1 i2).1, by rw [y4]; exact (x34 i i1 i2).2, ?_⟩, fun i i1 i2 => ?_, fun x k hx => by rw [yI]; exact xI x k hx, ?_, ?_, fun x hx => ?_, ?_⟩
  · rw [yI, y1, y3, y7, y8, y9, y10]; exact hT.2.2
  · rw [y2]
    show (if 0 ≤ i ∧ i < 72 then X.A (b + 2) i else X.A (a + 2) i) = _
    rw [if_pos ⟨i1, i2⟩, xA (b + 2) (by omega) (by omega) (by omega) (by omega) (by omega) (by omega) (by omega)]
  · rw [y5]
    show (if 0 ≤ i ∧ i < 12 then X.A (b + 5) i else X.A (a + 5) i) = _
    rw [if_pos ⟨i1, i2⟩, xA (b + 5) (by omega) (by omega) (by omega) (by omega) (by omega) (by omega) (by omega)]
  · rw [y6]
    show (if 0 ≤ i ∧ i < 480 then X.A (b + 6) i else X.A (a + 6) i) = _
    rw [if_pos ⟨i1, i2⟩, xA (b + 6) (by omega) (by omega) (by omega) (by omega) (by omega) (by omega) (by omega)]
  · rw [eY]; simp only [mm_gs]; exact xJ
  · rw [eY]; simp only [mm_gs]; exact xL
  · rw [eY]
    simp (disch := omega) only [mm_gs, pp_ne]
    exact xA x (by omega) (by omega) (by omega) (by omega) (by omega) (by omega) (by omega)
  · rw [h, mm_e34_0, ev, mm_cV_ok]
    simp (disch := omega) only [mm_ptN]
    rw [pp_pcp (m := 72) (mm_shN2 hb) (mm_shN2 ha) (by omega) rfl, mm_e34_23]
    simp (disch := omega) only [mm_ptN]
    rw [pp_pcp (m := 12) (mm_shN5 hb) (mm_shN5 ha) (by omega) rfl]
    simp (disch := omega) only [mm_ptN]
    rw [pp_pcp (m := 480) (mm_shN6 hb) (mm_shN6 ha) (by omega) rfl]
    simp (disch := omega) only [mm_gs, pp_ne]
    rw [← eY]
-- small checks
def pp_th (x : Nat) (S : mm_S) (c : mm_N) (B : Nat) : mm_R := some (.inr x, mm_hp B S (none, (c.2.1 + 1, c.2.2 + 6)))
theorem c_isStage {s : Int} (hd : 1 ≤ d) (h1 : -2147483648 ≤ s) (h2 : s < 2147483648) (h3 : 0 ≤ S.I 3 10 ∧ S.I 3 10 ≤ 12) : mm_ev E d 132 [.ref (mm_ad B 0), .int (mm_i s)] (mm_hp B S c) = mm_oI (mm_b1 (decide (0 ≤ s ∧ s < S.I 3 10))) (mm_hp B S c) := by
  refine mm_v132 (by omega) (fun F e hF he => ?_)
  simp (disch := omega) only [mm_e132_0, mm_br_lt, mm_br_le, mm_ptP, mm_ptN, mm_bz0, mm_bz1]
  by_cases f : s < 0
  · rw [if_pos f, decide_eq_false (by omega)]; rfl
  · rw [if_neg f]
    by_cases g : S.I 3 10 ≤ s
    · rw [if_pos g, decide_eq_false (by omega)]; rfl
    · rw [if_neg g, decide_eq_true (by omega)]; rfl
theorem c_checkStage {s : Int} (hd : 2 ≤ d) (h1 : -2147483648 ≤ s) (h2 : s < 2147483648) (h3 : 0 ≤ S.I 3 10 ∧ S.I 3 10 ≤ 12) : mm_ev E d 133 [.ref (mm_ad B 0), .int (mm_i s)] (mm_hp B S c) = if 0 ≤ s ∧ s < S.I 3 10 then mm_oV (mm_hp B S c) else pp_th 0 S c B := by
  refine mm_v133 (by omega) (fun F e hF he => ?_)
  rw [mm_e133_0, c_isStage (by omega) h1 h2 h3, mm_cI_ok, mm_br_b1]
  by_cases f : 0 ≤ s ∧ s < S.I 3 10
  · rw [if_pos f, if_pos (decide_eq_true f)]
  · rw [if_neg f, if_neg (fun z => f (of_decide_eq_true z))]; rfl
theorem c_checkWhat {w m : Int} (hd : 1 ≤ d) (h1 : -2147483648 ≤ w) (h2 : w < 2147483648) (h3 : 0 ≤ m ∧ m ≤ 1000) : mm_ev E d 134 [.int (mm_i w), .int (mm_i m)] (mm_hp B S c) = if 0 ≤ w ∧ w < m then mm_oV (mm_hp B S c) else pp_th 0 S c B := by
  refine mm_v134 (by omega) (fun F e hF he => ?_)
  simp (disch := omega) only [mm_e134_0, mm_br_lt]
  by_cases f : w < 0
  · rw [if_pos f, if_neg (by omega)]; rfl
  · rw [if_neg f]
    by_cases g : w < m
    · rw [if_pos g, if_pos (by omega)]
    · rw [if_neg g, if_neg (by omega)]; rfl
theorem c_checkDay {w : Int} (hd : 1 ≤ d) (h1 : -2147483648 ≤ w) (h2 : w < 2147483648) : mm_ev E d 135 [.int (mm_i w)] (mm_hp B S c) = if 0 ≤ w ∧ w < 40 then mm_oV (mm_hp B S c) else pp_th 0 S c B := by
  refine mm_v135 (by omega) (fun F e hF he => ?_)
  simp (disch := omega) only [mm_e135_0, mm_br_lt]
  by_cases f : w < 0
  · rw [if_pos f, if_neg (by omega)]; rfl
  · rw [if_neg f]
    by_cases g : w < 40
    · rw [if_pos g, if_pos (by omega)]
    · rw [if_neg g, if_neg (by omega)]; rfl
theorem c_checkTime {w : Int} (hd : 1 ≤ d) (h1 : -2147483648 ≤ w) (h2 : w < 2147483648) : mm_ev E d 136 [.int (mm_i w)] (mm_hp B S c) = if 0 ≤ w ∧ w < 120 then mm_oV (mm_hp B S c) else pp_th 1 S c B := by
  refine mm_v136 (by omega) (fun F e hF he => ?_)
  simp (disch := omega) only [mm_e136_0, mm_br_lt]
  by_cases f : w < 0
  · rw [if_pos f, if_neg (by omega)]; rfl
  · rw [if_neg f]
    by_cases g : w < 120
    · rw [if_pos g, if_pos (by omega)]
    · rw [if_neg g, if_neg (by omega)]; rfl
theorem l_supplyCount (hd : 1 ≤ d) (ha : a = 3 ∨ a = 14 ∨ a = 25) (hn : 0 ≤ S.I a 10 ∧ S.I a 10 ≤ 12) (h3 : pp_bR (S.A (a + 3))) : ∀ (j k n : Nat), (S.I a 10).toNat = k + j → j < n → mm_r41_4 E (mm_ev E d) n (mm_ad B a) (mm_i (pp_sm (fun s => mm_pc (S.A (a + 3) s)) k)) (mm_i k) (mm_hp B S c) = mm_oI (pp_sm (fun s => mm_pc (S.A (a + 3) s)) (S.I a 10).toNat) (mm_hp B S c) := by
  intro j
  induction j with
  | zero =>
    intro k n hk hj
    obtain ⟨n, rfl⟩ : ∃ m, n = m + 1 := ⟨n - 1, by omega⟩
    rw [mm_e41_4]
    simp (disch := omega) only [mm_ptN, mm_br_le]
    rw [if_pos (by omega), show (S.I a 10).toNat = k from hk]
  | succ j ih =>
    intro k n hk hj
    obtain ⟨n, rfl⟩ : ∃ m, n = m + 1 := ⟨n - 1, by omega⟩
    have ih := ih (k + 1) n (by omega) (by omega)
    rw [Int.natCast_add, Int.natCast_one] at ih
    have b := h3 k (by omega) (by omega)
    rw [mm_e41_4]
    simp (disch := omega) only [mm_ptN, mm_br_le, c_bitCount, mm_hm]
    rw [if_neg (by omega)]
    exact ih
theorem c_supplyCount (hd : 2 ≤ d) (ha : a = 3 ∨ a = 14 ∨ a = 25) (hn : 0 ≤ S.I a 10 ∧ S.I a 10 ≤ 12) (h3 : pp_bR (S.A (a + 3))) : mm_ev E d 41 [.ref (mm_ad B a)] (mm_hp B S c) = mm_oI (pp_sm (fun s => mm_pc (S.A (a + 3) s)) (S.I a 10).toNat) (mm_hp B S c) := by
  refine mm_v41 ha (by omega) (fun F e hF he => ?_)
  rw [mm_e41_0]
  exact l_supplyCount (by omega) ha hn h3 (S.I a 10).toNat 0 (F + 99) (by omega) (by omega)
theorem l_pinCount (hd : 1 ≤ d) (ha : a = 3 ∨ a = 14 ∨ a = 25) (hN : pp_NK S a) : ∀ (j k n : Nat), (S.I a 10).toNat = k + j → j < n → mm_r42_4 E (mm_ev E d) n (mm_ad B a) (mm_i (pp_sm (fun s => if S.A (a + 1) (s * 7 + 6) = -1 then 0 else 1) k)) (mm_i k) (mm_hp B S c) = mm_oI (pp_sm (fun s => if S.A (a + 1) (s * 7 + 6) = -1 then 0 else 1) (S.I a 10).toNat) (mm_hp B S c) := by
  have hn := hN.1
  intro j
  induction j with
  | zero =>
    intro k n hk hj
    obtain ⟨n, rfl⟩ : ∃ m, n = m + 1 := ⟨n - 1, by omega⟩
    rw [mm_e42_4]
    simp (disch := omega) only [mm_ptN, mm_br_le]
    rw [if_pos (by omega), show (S.I a 10).toNat = k from hk]
  | succ j ih =>
    intro k n hk hj
    obtain ⟨n, rfl⟩ : ∃ m, n = m + 1 := ⟨n - 1, by omega⟩
    have ih := ih (k + 1) n (by omega) (by omega)
    rw [Int.natCast_add, Int.natCast_one, pp_sm] at ih
    have t := hN.2.2.2.2 k (by omega) (by omega)
    unfold pp_tR at t
    rw [mm_e42_4]
    simp (disch := omega) only [mm_ptN, mm_br_le, c_told, mm_hm, mm_br_eq]
    rw [if_neg (by omega), ← ih]
    by_cases e : S.A (a + 1) ((k : Int) * 7 + 6) = -1
    · simp only [if_pos e]
    · simp only [if_neg e]
theorem c_pinCount (hd : 2 ≤ d) (ha : a = 3 ∨ a = 14 ∨ a = 25) (hN : pp_NK S a) : mm_ev E d 42 [.ref (mm_ad B a)] (mm_hp B S c) = mm_oI (pp_sm (fun s => if S.A (a + 1) (s * 7 + 6) = -1 then 0 else 1) (S.I a 10).toNat) (mm_hp B S c) := by
  refine mm_v42 ha (by omega) (fun F e hF he => ?_)
  have hn := hN.1
  rw [mm_e42_0]
  exact l_pinCount (by omega) ha hN (S.I a 10).toNat 0 (F + 99) (by omega) (by omega)
end SHRINK
