/-! ASK: the loop over the stages -/
section
variable {E : mm_E} {e e1 f B : Nat} {S S' T0 : mm_S} {c : mm_N} {n : Int}
theorem aq_tail {x2 x3 x4 : Int32} (hE : pp_OE E B) (n0 : 0 ≤ n) (n1 : n ≤ 200) (hB : ∀ i : Int, 0 ≤ i → i < n → T0.A 122 i = S.A 2 i ∧ 0 ≤ S.A 2 i ∧ S.A 2 i ≤ 255) (hN : aq_N S (T0.A 102) (T0.A 105)) (he1 : 26 ≤ e1) (hf : 54 ≤ f) (h63 : mm_ev E e1 63 [.ref (mm_ad B 97), .int (mm_i n)] (mm_hp B S c) = mm_oI 0 (mm_hp B S' c)) (hK : aq_K S n = 1) (hx : x4 ≠ mm_i (-1)) : ∀ (j : Nat) (s : Int) (T : mm_S) (o6 : Option Value) (m : Nat), s + j = S.I 3 10 → 0 ≤ s → j < m → T.A = T0.A → ∃ U : mm_S, mm_r261_71 E (mm_ev E f) m (mm_ad B 101) (mm_i n) x2 x3 x4 (mm_i s) o6 (mm_hp B T c) = some (.inl (some (.int x4)), mm_hp B U c) ∧ aq_fT T U := by
  have nn := hN.2.2.1.1.1
  have eN := hN.2.1.1
  intro j
  induction j with
  | zero =>
    intro s T o6 m hs s0 hm hA
    obtain ⟨m, rfl⟩ : ∃ q, m = q + 1 := ⟨m - 1, by omega⟩
    refine ⟨T, ?_, aq_fT_r T⟩
    rw [mm_e261_71, c_many (by omega), mm_cI_ok, hA, ← eN, mm_br_le (by omega) (by omega) (by omega) (by omega), if_pos (by omega)]
  | succ j ih =>
    intro s T o6 m hs s0 hm hA
    obtain ⟨m, rfl⟩ : ∃ q, m = q + 1 := ⟨m - 1, by omega⟩
    obtain ⟨v, T', st', r1, r2, r3, r4, r5⟩ := aq_one (E := E) (d := 19) (d1 := e1) (d' := f) (B := B) (S := S) (T := T) (c := c) (s := s) (n := n) (S' := S') hE n0 n1 (by rw [hA]; exact hB) (by rw [hA]; exact hN) s0 (by omega) he1 (by omega) hf h63 (fun _ => 0)
    obtain ⟨U, u1, u2⟩ := ih (s + 1) T' (some (.int v)) m (by omega) (by omega) (by omega) (by rw [r2.2.1]; exact hA)
    refine ⟨U, ?_, aq_fT_t r2 u2⟩
    rw [mm_e261_71, c_many (by omega), mm_cI_ok, hA, ← eN, mm_br_le (by omega) (by omega) (by omega) (by omega), if_neg (by omega), r1, mm_cI_ok]
    simp (disch := omega) only [mm_ptM]
    rw [r3, hK, mm_br_t rfl, mm_br_f hx]
    simp (disch := omega) only [mm_hm]
    exact u1
theorem aq_loop {x2 x3 : Int32} (hE : pp_OE E B) (n0 : 0 ≤ n) (n1 : n ≤ 200) (hB : ∀ i : Int, 0 ≤ i → i < n → T0.A 122 i = S.A 2 i ∧ 0 ≤ S.A 2 i ∧ S.A 2 i ≤ 255) (hN : aq_N S (T0.A 102) (T0.A 105)) (he1 : 26 ≤ e1) (he : 19 ≤ e) (hf : 54 ≤ f) (h63 : mm_ev E e1 63 [.ref (mm_ad B 97), .int (mm_i n)] (mm_hp B S c) = mm_oI 0 (mm_hp B S' c)) (hK : 0 ≤ aq_K S n ∧ aq_K S n ≤ 4) (hS5 : (aq_ed S').I 97 5 = aq_K S n) (hS3 : (aq_ed S').I 3 10 = S.I 3 10) : ∀ (j : Nat) (s : Int) (T : mm_S) (st : Int → Int) (x : Int32) (o3 o6 : Option Value) (m q : Nat), s + j = S.I 3 10 → 0 ≤ s → 4 * (j + 1) < m → j < q → T.A = T0.A → (aq_K S n = 1 → x = mm_i (-1)) → ∃ (U : mm_S) (v : Int32) (st' : Int → Int), mm_r71_16 E (mm_ev E e) q (mm_ad B 97) x (mm_i s) o3 (mm_hp B ((aq_ed S').sA 99 st) c) = some (.inl (some (.int v)), mm_hp B ((aq_ed S').sA 99 st') c) ∧ mm_r261_71 E (mm_ev E f) m (mm_ad B 101) (mm_i n) x2 x3 x (mm_i s) o6 (mm_hp B T c) = some (.inl (some (.int v)), mm_hp B U c) ∧ aq_fT T U := by
  have nn := hN.2.2.1.1.1
  have eN := hN.2.1.1
  have z5 : ∀ st : Int → Int, ((aq_ed S').sA 99 st).I 97 5 = aq_K S n := fun _ => hS5
  have z3 : ∀ st : Int → Int, ((aq_ed S').sA 99 st).I 3 10 = S.I 3 10 := fun _ => hS3
  intro j
  induction j with
  | zero =>
    intro s T st x o3 o6 m q hs s0 hm hq hA hx
    obtain ⟨m, rfl⟩ : ∃ r, m = r + 1 := ⟨m - 1, by omega⟩
    obtain ⟨q, rfl⟩ : ∃ r, q = r + 1 := ⟨q - 1, by omega⟩
    refine ⟨T, x, st, ?_, ?_, aq_fT_r T⟩
    · rw [mm_e71_16]
      simp (disch := omega) only [mm_ptQ]
      simp (disch := omega) only [mm_ptN]
      rw [z3, mm_br_le (by omega) (by omega) (by omega) (by omega), if_pos (by omega)]
    · rw [mm_e261_71, c_many (by omega), mm_cI_ok, hA, ← eN, mm_br_le (by omega) (by omega) (by omega) (by omega), if_pos (by omega)]
  | succ j ih =>
    intro s T st x o3 o6 m q hs s0 hm hq hA hx
    obtain ⟨m, rfl⟩ : ∃ r, m = r + 5 := ⟨m - 5, by omega⟩
    obtain ⟨q, rfl⟩ : ∃ r, q = r + 1 := ⟨q - 1, by omega⟩
    obtain ⟨v, T', st', r1, r2, r3, r4, r5⟩ := aq_one (E := E) (d := e) (d1 := e1) (d' := f) (B := B) (S := S) (T := T) (c := c) (s := s) (n := n) (S' := S') hE n0 n1 (by rw [hA]; exact hB) (by rw [hA]; exact hN) s0 (by omega) he1 he hf h63 st
    have hA' : T'.A = T0.A := by rw [r2.2.1]; exact hA
    rw [mm_e71_16, mm_e261_71, c_many (by omega), mm_cI_ok, hA, ← eN, r1, mm_cI_ok]
    simp (disch := omega) only [mm_ptQ]
    simp (disch := omega) only [mm_ptN]
    simp (disch := omega) only [mm_ptM]
    rw [z3, mm_br_le (by omega) (by omega) (by omega) (by omega), if_neg (by omega), mm_br_le (by omega) (by omega) (by omega) (by omega), if_neg (by omega), r5, mm_cI_ok]
    simp (disch := omega) only [mm_ptQ, mm_hm]
    rw [z5, r3]
    have go : ∀ (y : Int32) (m' : Nat), m + 1 ≤ m' → (aq_K S n = 1 → y = mm_i (-1)) → ∃ (U : mm_S) (v' : Int32) (st'' : Int → Int), mm_r71_16 E (mm_ev E e) q (mm_ad B 97) y (mm_i (s + 1)) (some (.int v)) (mm_hp B ((aq_ed S').sA 99 st') c) = some (.inl (some (.int v')), mm_hp B ((aq_ed S').sA 99 st'') c) ∧ mm_r261_71 E (mm_ev E f) m' (mm_ad B 101) (mm_i n) x2 x3 y (mm_i (s + 1)) (some (.int v)) (mm_hp B T' c) = some (.inl (some (.int v')), mm_hp B U c) ∧ aq_fT T U := fun y m' hm' hy => by
      obtain ⟨U, v', st'', u1, u2, u3⟩ := ih (s + 1) T' st' y (some (.int v)) (some (.int v)) m' q (by omega) (by omega) (by omega) (by omega) hA' hy
      exact ⟨U, v', st'', u1, u2, aq_fT_t r2 u3⟩
    have ne : ∀ {x y : Int} {X Y : mm_R}, 0 ≤ x → x < 19 → 0 ≤ y → y < 19 → x ≠ y → mm_br (mm_i x = mm_i y) X Y = Y := fun x0 x1 y0 y1 h => by rw [mm_br_eq (by omega) (by omega) (by omega) (by omega), if_neg h]
    rcases (by omega : aq_K S n = 1 ∨ aq_K S n = 0 ∨ aq_K S n = 2 ∨ aq_K S n = 3 ∨ aq_K S n = 4) with k1 | k1 | k1 | k1 | k1
    · rw [k1, mm_br_t rfl, mm_br_t rfl, mm_br_t (hx k1), mm_e261_104]
      rcases r4 (by omega) with rv | rv
      · rw [rv, mm_br_t rfl, ne (by omega) (by omega) (by omega) (by omega) (by omega)]
        simp (disch := omega) only [mm_hm]
        rw [rv] at go
        exact go x _ (by omega) hx
      · have hn1 : mm_i s ≠ mm_i (-1) := fun z => by
          rw [mm_i_inj (by omega) (by omega) (by omega) (by omega)] at z
          omega
        obtain ⟨U, u1, u2⟩ := aq_tail (E := E) (e1 := e1) (f := f) (B := B) (S := S) (S' := S') (T0 := T0) (c := c) (n := n) (x2 := x2) (x3 := x3) (x4 := mm_i s) hE n0 n1 hB hN he1 hf h63 k1 hn1 j (s + 1) T' (some (.int v)) (m + 3) (by omega) (by omega) (by omega) hA'
        rw [rv] at u1
        rw [rv, ne (by omega) (by omega) (by omega) (by omega) (by omega), mm_br_t rfl]
        simp (disch := omega) only [mm_hm]
        exact ⟨U, mm_i s, st', rfl, u1, aq_fT_t r2 u2⟩
    · rw [k1, ne (by omega) (by omega) (by omega) (by omega) (by omega), ne (by omega) (by omega) (by omega) (by omega) (by omega), ne (by omega) (by omega) (by omega) (by omega) (by omega), ne (by omega) (by omega) (by omega) (by omega) (by omega), ne (by omega) (by omega) (by omega) (by omega) (by omega), mm_e261_122]
      simp (disch := omega) only [mm_ptM, mm_hm]
      rw [r3, k1, mm_br_le (by omega) (by omega) (by omega) (by omega), if_neg (by omega)]
      exact go _ _ (by omega) (by omega)
    · rw [k1, ne (by omega) (by omega) (by omega) (by omega) (by omega), mm_br_t rfl, ne (by omega) (by omega) (by omega) (by omega) (by omega), mm_e261_122]
      simp (disch := omega) only [mm_ptM, mm_hm]
      rw [r3, k1, mm_br_le (by omega) (by omega) (by omega) (by omega), if_neg (by omega)]
      exact go _ _ (by omega) (by omega)
    · rw [k1, ne (by omega) (by omega) (by omega) (by omega) (by omega), ne (by omega) (by omega) (by omega) (by omega) (by omega), mm_br_t rfl, mm_br_eq (a := s) (b := 0) (by omega) (by omega) (by omega) (by omega), ne (by omega) (by omega) (by omega) (by omega) (by omega), mm_e261_122]
      simp (disch := omega) only [mm_ptM, mm_hm]
      rw [r3, k1, mm_br_le (by omega) (by omega) (by omega) (by omega), if_pos (show (3 : Int) ≤ 3 by omega), mm_e261_140, mm_br_eq (a := s) (b := 0) (by omega) (by omega) (by omega) (by omega)]
      by_cases sz : s = 0
      · rw [if_pos sz, if_pos sz]
        simp (disch := omega) only [mm_hm]
        exact go _ _ (by omega) (by omega)
      · rw [if_neg sz, if_neg sz, mm_e261_145]
        simp (disch := omega) only [mm_ptM, mm_hm]
        rw [r3, k1, mm_br_t rfl, aq_mx x v (fun z => mm_r261_71 E (mm_ev E f) _ (mm_ad B 101) (mm_i n) x2 x3 z (mm_i (s + 1)) (some (.int v)) (mm_hp B T' c))]
        exact go _ _ (by omega) (by omega)
    · rw [k1, ne (by omega) (by omega) (by omega) (by omega) (by omega), ne (by omega) (by omega) (by omega) (by omega) (by omega), ne (by omega) (by omega) (by omega) (by omega) (by omega), mm_br_t rfl, mm_br_eq (a := s) (b := 0) (by omega) (by omega) (by omega) (by omega), ne (by omega) (by omega) (by omega) (by omega) (by omega), mm_e261_122]
      simp (disch := omega) only [mm_ptM, mm_hm]
      rw [r3, k1, mm_br_le (by omega) (by omega) (by omega) (by omega), if_pos (show (3 : Int) ≤ 4 by omega), mm_e261_140, mm_br_eq (a := s) (b := 0) (by omega) (by omega) (by omega) (by omega)]
      by_cases sz : s = 0
      · rw [if_pos sz, if_pos sz]
        simp (disch := omega) only [mm_hm]
        exact go _ _ (by omega) (by omega)
      · rw [if_neg sz, if_neg sz, mm_e261_145]
        simp (disch := omega) only [mm_ptM, mm_hm]
        rw [r3, k1, ne (by omega) (by omega) (by omega) (by omega) (by omega), aq_mn x v (fun z => mm_r261_71 E (mm_ev E f) _ (mm_ad B 101) (mm_i n) x2 x3 z (mm_i (s + 1)) (some (.int v)) (mm_hp B T' c))]
        exact go _ _ (by omega) (by omega)
end
