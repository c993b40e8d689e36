/-! KEPT ROWS: keep, clear, copies -/
section KEEP
variable {E : mm_E} {d B : Nat} {S : mm_S} {c : mm_N} {a : Nat}
theorem l_keep1 {cl : mm_F} {P : Int → Int} : ∀ (j k n : Nat), 190 + k + j = 3800 → j < n → ∃ m, n ≤ m + j + 1 ∧ mm_r171_13 E cl n (mm_ad B 101) (mm_i ((190 + k : Nat) : Int)) (mm_hp B (S.sA 104 (pp_fl (fun i => P (i + 190)) P k)) c) = mm_r171_54 E cl m (mm_ad B 101) (mm_i 0) (mm_hp B ((S.sI 101 4 (S.I 101 4 - 1)).sA 104 (pp_fl (fun i => P (i + 190)) P 3610)) c) := by
  intro j
  induction j with
  | zero =>
    intro k n hk hn
    obtain ⟨n, rfl⟩ : ∃ q, n = q + 1 := ⟨n - 1, by omega⟩
    refine ⟨n, by omega, ?_⟩
    rw [mm_e171_13]
    simp (disch := omega) only [mm_br_le]
    rw [if_pos (by omega), show (k : Int) = 3610 by omega]
    simp (disch := omega) only [mm_ptM, mm_gs, mm_hm, pp_cm]
  | succ j ih =>
    intro k n hk hn
    obtain ⟨n, rfl⟩ : ∃ q, n = q + 1 := ⟨n - 1, by omega⟩
    obtain ⟨m, q1, q2⟩ := ih (k + 1) n (by omega) (by omega)
    refine ⟨m, by omega, ?_⟩
    have e1 : ((190 + (k + 1) : Nat) : Int) = ((190 + k : Nat) : Int) + 1 := by omega
    have e2 : ((k + 1 : Nat) : Int) = (k : Int) + 1 := by omega
    rw [e1, e2] at q2
    have e3 : pp_fl (fun i => P (i + 190)) P k ((190 + k : Nat) : Int) = P ((k : Int) + 190) := by rw [pp_fl_out (by omega), show ((190 + k : Nat) : Int) = (k : Int) + 190 by omega]
    rw [← q2, ← pp_fl_st (by omega), mm_e171_13]
    simp (disch := omega) only [mm_br_le]
    rw [if_neg (by omega)]
    simp (disch := omega) only [mm_ptM, mm_gs, mm_hm, e3]
    rw [show ((190 + k : Nat) : Int) - 190 = (k : Int) by omega]
theorem l_keep2 {cl : mm_F} (h0 : 0 ≤ S.I 101 4) (h1 : S.I 101 4 < 20) : ∀ (j k n : Nat) (P : Int → Int), k + j = 190 → j < n → (∀ i : Int, 0 ≤ i → i < k → P (190 * S.I 101 4 + i) = S.A 102 i) → ∃ P', (∀ i : Int, 0 ≤ i → i < 190 → P' (190 * S.I 101 4 + i) = S.A 102 i) ∧ (∀ i : Int, i < 190 * S.I 101 4 → P' i = P i) ∧ mm_r171_54 E cl n (mm_ad B 101) (mm_i k) (mm_hp B (S.sA 104 P) c) = mm_oV (mm_hp B ((S.sI 101 4 (S.I 101 4 + 1)).sA 104 P') c) := by
  intro j
  induction j with
  | zero =>
    intro k n P hk hn hP
    obtain ⟨n, rfl⟩ : ∃ q, n = q + 1 := ⟨n - 1, by omega⟩
    refine ⟨P, fun i i1 i2 => hP i i1 (by omega), fun i _ => rfl, ?_⟩
    rw [mm_e171_54]
    simp (disch := omega) only [mm_br_le]
    rw [if_pos (by omega)]
    simp (disch := omega) only [mm_ptM, mm_gs, mm_hm, pp_cm]
  | succ j ih =>
    intro k n P hk hn hP
    obtain ⟨n, rfl⟩ : ∃ q, n = q + 1 := ⟨n - 1, by omega⟩
    obtain ⟨P', q1, q2, q3⟩ := ih (k + 1) n (mm_u P (190 * S.I 101 4 + k) (S.A 102 k)) (by omega) (by omega) (fun i i1 i2 => by
      by_cases e : i = k
      · rw [e, mm_u_eq]
      · rw [mm_u_ne (by omega)]; exact hP i i1 (by omega))
    refine ⟨P', q1, fun i hi => ?_, ?_⟩
    · rw [q2 i hi, mm_u_ne (by omega)]
    · rw [Int.natCast_add, Int.natCast_one] at q3
      rw [← q3, mm_e171_54]
      simp (disch := omega) only [mm_br_le]
      rw [if_neg (by omega)]
      simp (disch := omega) only [mm_ptM, mm_gs, pp_ne, mm_hm]
/-- the rows that are kept, with one more -/
theorem m_keep (hd : 1 ≤ d) (h0 : 0 ≤ S.I 101 4) (h1 : S.I 101 4 ≤ 20) : ∃ P, (∀ i : Int, 0 ≤ i → i < 190 → P (190 * (min (S.I 101 4 + 1) 20 - 1) + i) = S.A 102 i) ∧ (∀ r i : Int, 0 ≤ r → r < min (S.I 101 4 + 1) 20 - 1 → 0 ≤ i → i < 190 → P (190 * r + i) = S.A 104 (190 * (r + (S.I 101 4 + 1 - min (S.I 101 4 + 1) 20)) + i)) ∧ mm_ev E d 171 [.ref (mm_ad B 101)] (mm_hp B S c) = mm_oV (mm_hp B ((S.sI 101 4 (min (S.I 101 4 + 1) 20)).sA 104 P) c) := by
  obtain ⟨e, rfl⟩ : ∃ e, d = e + 1 := ⟨d - 1, by omega⟩
  obtain ⟨F, hF, h⟩ := mm_w171 E e B S c
  by_cases f : S.I 101 4 = 20
  · obtain ⟨m, q1, q2⟩ := l_keep1 (E := E) (B := B) (S := S) (c := c) (cl := mm_ev E e) (P := S.A 104) 3610 0 (F + 99) (by omega) (by omega)
    rw [Int.natCast_zero, pp_fl_0, pp_sA_id] at q2
    have i4 : (S.sI 101 4 (S.I 101 4 - 1)).I 101 4 = S.I 101 4 - 1 := mm_gs.1 _ _ _ _
    obtain ⟨P, p1, p2, p3⟩ := l_keep2 (E := E) (B := B) (S := S.sI 101 4 (S.I 101 4 - 1)) (c := c) (cl := mm_ev E e) (by rw [i4]; omega) (by rw [i4]; omega) 190 0 m (pp_fl (fun i => S.A 104 (i + 190)) (S.A 104) 3610) (by omega) (by omega) (fun i i1 i2 => by omega)
    rw [i4] at p1 p2 p3
    have hm : min (S.I 101 4 + 1) 20 = 20 := by omega
    refine ⟨P, fun i i1 i2 => ?_, fun r i r1 r2 i1 i2 => ?_, ?_⟩
    · rw [hm]
      have := p1 i i1 i2
      rw [show S.I 101 4 - 1 = 20 - 1 by omega] at this
      exact this
    · rw [hm] at r2
      rw [hm, p2 (190 * r + i) (by omega), pp_fl_in (by omega) (by omega)]
      show S.A 104 (190 * r + i + 190) = _
      rw [show 190 * r + i + 190 = 190 * (r + (S.I 101 4 + 1 - 20)) + i by omega]
    · rw [h, mm_e171_0]
      simp (disch := omega) only [mm_ptM, mm_br_eq]
      rw [if_pos f]
      have q2 : mm_r171_13 E (mm_ev E e) (F + 99) (mm_ad B 101) (mm_i 190) (mm_hp B S c) = _ := q2
      rw [q2]
      have p3 : mm_r171_54 E (mm_ev E e) m (mm_ad B 101) (mm_i 0) _ = _ := p3
      rw [p3]
      simp (disch := omega) only [mm_gs]
      rw [hm, show S.I 101 4 - 1 + 1 = 20 by omega]
  · obtain ⟨P, p1, p2, p3⟩ := l_keep2 (E := E) (B := B) (S := S) (c := c) (cl := mm_ev E e) h0 (by omega) 190 0 (F + 99) (S.A 104) (by omega) (by omega) (fun i i1 i2 => by omega)
    rw [pp_sA_id] at p3
    have hm : min (S.I 101 4 + 1) 20 = S.I 101 4 + 1 := by omega
    refine ⟨P, fun i i1 i2 => ?_, fun r i r1 r2 i1 i2 => ?_, ?_⟩
    · rw [hm, show S.I 101 4 + 1 - 1 = S.I 101 4 by omega]
      exact p1 i i1 i2
    · rw [hm] at r2
      rw [hm, p2 (190 * r + i) (by omega), show r + (S.I 101 4 + 1 - (S.I 101 4 + 1)) = r by omega]
    · rw [h, mm_e171_0]
      simp (disch := omega) only [mm_ptM, mm_br_eq]
      rw [if_neg f, hm]
      exact p3
theorem l_clear {cl : mm_F} {s : Int} (h1 : 0 ≤ s) (h2 : s < 12) : ∀ (j k n : Nat) (f : Int → Int), k + j = 40 → j < n → (∀ i : Int, 0 ≤ i → i < k → f (40 * s + i) = 0) → ∃ f', (∀ i : Int, 0 ≤ i → i < 40 → f' (40 * s + i) = 0) ∧ (∀ i : Int, ¬ (40 * s ≤ i ∧ i < 40 * s + 40) → f' i = f i) ∧ mm_r177_9 E cl n (mm_ad B 101) (mm_i s) (mm_i k) (mm_hp B (S.sA 106 f) c) = mm_oV (mm_hp B (S.sA 106 f') c) := by
  intro j
  induction j with
  | zero =>
    intro k n f hk hn hf
    obtain ⟨n, rfl⟩ : ∃ q, n = q + 1 := ⟨n - 1, by omega⟩
    refine ⟨f, fun i i1 i2 => hf i i1 (by omega), fun i _ => rfl, ?_⟩
    rw [mm_e177_9]
    simp (disch := omega) only [mm_br_le]
    rw [if_pos (by omega)]
  | succ j ih =>
    intro k n f hk hn hf
    obtain ⟨n, rfl⟩ : ∃ q, n = q + 1 := ⟨n - 1, by omega⟩
    obtain ⟨f', q1, q2, q3⟩ := ih (k + 1) n (mm_u f (40 * s + k) 0) (by omega) (by omega) (fun i i1 i2 => by
      by_cases e : i = k
      · rw [e, mm_u_eq]
      · rw [mm_u_ne (by omega)]; exact hf i i1 (by omega))
    refine ⟨f', q1, fun i hi => by rw [q2 i hi, mm_u_ne (by omega)], ?_⟩
    rw [Int.natCast_add, Int.natCast_one] at q3
    rw [← q3, mm_e177_9]
    simp (disch := omega) only [mm_br_le]
    rw [if_neg (by omega)]
    simp (disch := omega) only [mm_ptM, mm_gs, mm_hm]
theorem m_clear {s : Int} (hd : 1 ≤ d) (h1 : 0 ≤ s) (h2 : s < 12) : ∃ f', (∀ i : Int, 0 ≤ i → i < 40 → f' (40 * s + i) = 0) ∧ (∀ i : Int, ¬ (40 * s ≤ i ∧ i < 40 * s + 40) → f' i = S.A 106 i) ∧ mm_ev E d 177 [.ref (mm_ad B 101), .int (mm_i s)] (mm_hp B S c) = mm_oV (mm_hp B ((S.sA 105 (mm_u (S.A 105) s 0)).sA 106 f') c) := by
  obtain ⟨e, rfl⟩ : ∃ e, d = e + 1 := ⟨d - 1, by omega⟩
  obtain ⟨F, hF, h⟩ := mm_w177 E e B S c (mm_i s)
  obtain ⟨f', q1, q2, q3⟩ := l_clear (E := E) (B := B) (S := S.sA 105 (mm_u (S.A 105) s 0)) (c := c) (cl := mm_ev E e) h1 h2 40 0 (F + 99) ((S.sA 105 (mm_u (S.A 105) s 0)).A 106) (by omega) (by omega) (fun i i1 i2 => by omega)
  rw [pp_sA_id] at q3
  rw [mm_gA_ne (by omega)] at q2
  refine ⟨f', q1, q2, ?_⟩
  rw [h, mm_e177_0]
  simp (disch := omega) only [mm_ptM]
  exact q3
/-- all from s on cleared -/
theorem l_clearAll {cl : Nat} (hd : 1 ≤ cl) : ∀ (j n : Nat) (s : Int) (t f : Int → Int), 0 ≤ s → s + j = 12 → j < n → ∃ t' f', (∀ i : Int, s ≤ i → i < 12 → t' i = 0) ∧ (∀ i : Int, i < s → t' i = t i) ∧ (∀ i : Int, 40 * s ≤ i → i < 480 → f' i = 0) ∧ (∀ i : Int, i < 40 * s → f' i = f i) ∧ mm_r178_65 E (mm_ev E cl) n (mm_ad B 101) (mm_i s) (mm_hp B ((S.sA 105 t).sA 106 f) c) = mm_oI (S.I 101 4) (mm_hp B ((S.sA 105 t').sA 106 f') c) := by
  intro j
  induction j with
  | zero =>
    intro n s t f s0 hs hn
    obtain ⟨n, rfl⟩ : ∃ q, n = q + 1 := ⟨n - 1, by omega⟩
    refine ⟨t, f, fun i i1 i2 => by omega, fun i _ => rfl, fun i i1 i2 => by omega, fun i _ => rfl, ?_⟩
    rw [mm_e178_65]
    simp (disch := omega) only [mm_br_le]
    rw [if_pos (by omega)]
    simp (disch := omega) only [mm_ptM, mm_gs]
  | succ j ih =>
    intro n s t f s0 hs hn
    obtain ⟨n, rfl⟩ : ∃ q, n = q + 1 := ⟨n - 1, by omega⟩
    obtain ⟨g, g1, g2, g3⟩ := m_clear (E := E) (d := cl) (B := B) (S := (S.sA 105 t).sA 106 f) (c := c) (s := s) hd s0 (by omega)
    have e1 : ((S.sA 105 t).sA 106 f).A 105 = t := by rw [mm_gA_ne (by omega), mm_gs.2.2.2.2.2.2.2.2.1]
    have e2 : ((S.sA 105 t).sA 106 f).A 106 = f := mm_gs.2.2.2.2.2.2.2.2.1 _ _ _
    rw [e1] at g3
    rw [e2] at g2
    obtain ⟨t', f', q1, q2, q3, q4, q5⟩ := ih n (s + 1) (mm_u t s 0) g (by omega) (by omega) (by omega)
    refine ⟨t', f', fun i i1 i2 => ?_, fun i hi => ?_, fun i i1 i2 => ?_, fun i hi => ?_, ?_⟩
    · by_cases e : i = s
      · rw [q2 i (by omega), e, mm_u_eq]
      · exact q1 i (by omega) i2
    · rw [q2 i (by omega), mm_u_ne (by omega)]
    · by_cases e : i < 40 * (s + 1)
      · rw [q4 i e]
        have z := g1 (i - 40 * s) (by omega) (by omega)
        rw [show 40 * s + (i - 40 * s) = i by omega] at z
        exact z
      · exact q3 i (by omega) i2
    · rw [q4 i (by omega), g2 i (by omega)]
    · rw [← q5, mm_e178_65]
      simp (disch := omega) only [mm_br_le]
      rw [if_neg (by omega), g3]
      simp (disch := omega) only [mm_hm, mm_gs, pp_cm]
theorem l_copy {cl : mm_F} {x y n : Nat} (hx : mm_sh x = some (.inr (.inl n))) (hy : mm_sh y = some (.inr (.inl n))) (hn : n ≤ 4000) (hxy : x ≠ y) : ∀ (j k m : Nat), k + j = n → j < m → mm_r225_2 E cl m (mm_ad B x) (mm_ad B y) (mm_i k) (mm_hp B (S.sA x (pp_fl (S.A y) (S.A x) k)) c) = mm_oV (mm_hp B (S.sA x (pp_fl (S.A y) (S.A x) n)) c) := by
  intro j
  induction j with
  | zero =>
    intro k m hk hm
    obtain ⟨m, rfl⟩ : ∃ q, m = q + 1 := ⟨m - 1, by omega⟩
    rw [mm_e225_2, mm_plI hx, mm_br_le (by omega) (by omega) (by omega) (by omega), if_pos (by omega), show (k : Int) = n by omega]
  | succ j ih =>
    intro k m hk hm
    obtain ⟨m, rfl⟩ : ∃ q, m = q + 1 := ⟨m - 1, by omega⟩
    have ih := ih (k + 1) m (by omega) (by omega)
    rw [Int.natCast_add, Int.natCast_one] at ih
    rw [mm_e225_2, mm_plI hx, mm_br_le (by omega) (by omega) (by omega) (by omega), if_neg (by omega), mm_prI hy (by omega) (by omega) (by omega), mm_pwI hx (by omega) (by omega) (by omega), ← ih, ← pp_fl_st (by omega), mm_gA_ne hxy.symm, mm_gs.2.2.2.2.2.2.2.2.1, mm_gs.2.2.2.2.2.2.2.2.2.2.2.2.2.2.2.2.1, mm_i_add]
theorem m_copy {x y n : Nat} (hd : 1 ≤ d) (hx : mm_sh x = some (.inr (.inl n))) (hy : mm_sh y = some (.inr (.inl n))) (hn : n ≤ 4000) (hxy : x ≠ y) : mm_ev E d 225 [.ref (mm_ad B x), .ref (mm_ad B y)] (mm_hp B S c) = mm_oV (mm_hp B (S.sA x (pp_fl (S.A y) (S.A x) n)) c) := by
  refine mm_v225 (by omega) (fun F e hF he => ?_)
  rw [mm_e225_0]
  have l := l_copy (E := E) (B := B) (S := S) (c := c) (cl := mm_ev E e) hx hy hn hxy n 0 (F + 99) (by omega) (by omega)
  rw [Int.natCast_zero, pp_fl_0, pp_sA_id] at l
  exact l
end KEEP
