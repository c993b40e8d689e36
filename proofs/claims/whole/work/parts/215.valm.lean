/-! ASK: the values of the words, the model -/
theorem aq_gA (T S : mm_S) (j : Nat) : (aq_gh T S).A (1000 + j) = S.A (3 + j) := (aq_ghA T S (by omega)).trans (congrArg (fun z => S.A z) (show 1000 + j - 997 = 3 + j by omega))
section
variable {E : mm_E} {d B : Nat} {S T : mm_S} {c : mm_N} {s : Int}
theorem aq_gT (h : aq_N S (T.A 102) (T.A 105)) : pp_NT (aq_gh T S) 1000 ∧ pp_RL (aq_gh T S) 1000 ((aq_gh T S).A 102) ∧ pp_TM (aq_gh T S) 1000 ∧ (∀ s : Int, 0 ≤ s → s < (aq_gh T S).I 1000 10 → (aq_gh T S).A 105 s = (aq_gh T S).A (1000 + 5) s) := by
  obtain ⟨h1, h2, h3, h4, h5⟩ := h
  have hR := pp_EQ_RL h1 h2
  have nn := h3.1.1
  refine ⟨?_, ?_, ?_, fun s s0 s1 => ?_⟩
  · unfold pp_NT pp_NK pp_GK at h3 ⊢
    simp only [aq_ghI, aq_gA]
    exact h3
  · unfold pp_RL at hR ⊢
    rw [aq_gh_A T S (show ¬ 1000 ≤ 102 by omega)]
    simp only [aq_ghI, aq_gA]
    exact hR
  · unfold pp_TM at h4 ⊢
    simp only [aq_gA]
    exact h4
  · rw [aq_ghI] at s1
    rw [aq_gh_A T S (show ¬ 1000 ≤ 105 by omega), aq_gA]
    exact h5 s s0 (by omega)
theorem aq_gw (T S : mm_S) (s : Int) : pp_wt (aq_gh T S) 1000 s = pp_wt S 3 s := by
  unfold pp_wt
  simp only [aq_ghI, aq_gA]
theorem aq_gn (T S : mm_S) (s : Int) : pp_nd (aq_gh T S) 1000 s = pp_nd S 3 s := by
  unfold pp_nd
  rw [aq_gw]
  simp only [aq_gA]
theorem aq_gd (T S : mm_S) (s : Int) : pp_hd (aq_gh T S) 1000 s = pp_hd S 3 s := by
  unfold pp_hd
  rw [aq_gn, aq_ghI, aq_gA]
theorem aq_q1 (h : aq_N S (T.A 102) (T.A 105)) (hd : 15 ≤ d) (h0 : 0 ≤ s) (h1 : s < S.I 3 10) : mm_ev E d 162 [.ref (mm_ad B 101), .int (mm_i s), .int (mm_i 3)] (mm_hp B T c) = mm_oI (S.A (3 + 8) s) (mm_hp B T c) := by
  obtain ⟨g1, g2, g3, g4⟩ := aq_gT h
  have z := m_flow (E := E) (d := d) (B := B) (c := c) g1 g2 hd h0 (by rw [aq_ghI]; exact h1)
  rw [aq_gA, ← aq_gh_hp T S B c] at z
  exact z
theorem aq_q2 (h : aq_N S (T.A 102) (T.A 105)) (hd : 15 ≤ d) (h0 : 0 ≤ s) (h1 : s < S.I 3 10) : mm_ev E d 162 [.ref (mm_ad B 101), .int (mm_i s), .int (mm_i 4)] (mm_hp B T c) = mm_oI (S.A (3 + 9) s) (mm_hp B T c) := by
  obtain ⟨g1, g2, g3, g4⟩ := aq_gT h
  have z := m_width (E := E) (d := d) (B := B) (c := c) g1 g2 hd h0 (by rw [aq_ghI]; exact h1)
  rw [aq_gA, ← aq_gh_hp T S B c] at z
  exact z
theorem aq_q3 (h : aq_N S (T.A 102) (T.A 105)) (hd : 15 ≤ d) (h0 : 0 ≤ s) (h1 : s < S.I 3 10) : mm_ev E d 163 [.ref (mm_ad B 101), .int (mm_i s)] (mm_hp B T c) = mm_oI (S.A (3 + 10) s) (mm_hp B T c) := by
  obtain ⟨g1, g2, g3, g4⟩ := aq_gT h
  have z := m_longest (E := E) (d := d) (B := B) (c := c) g1 g2 hd h0 (by rw [aq_ghI]; exact h1)
  rw [aq_gA, ← aq_gh_hp T S B c] at z
  exact z
theorem aq_q4 (h : aq_N S (T.A 102) (T.A 105)) (hd : 3 ≤ d) (h0 : 0 ≤ s) (h1 : s < S.I 3 10) : mm_ev E d 179 [.ref (mm_ad B 101), .int (mm_i s)] (mm_hp B T c) = mm_oI (pp_wt S 3 s) (mm_hp B T c) := by
  obtain ⟨g1, g2, g3, g4⟩ := aq_gT h
  have z := m_waitOf (E := E) (d := d) (B := B) (c := c) hd g1.1 g2 g3 g4 h0 (by rw [aq_ghI]; exact h1)
  rw [aq_gw, ← aq_gh_hp T S B c] at z
  exact z
theorem aq_q5 (h : aq_N S (T.A 102) (T.A 105)) (hd : 4 ≤ d) (h0 : 0 ≤ s) (h1 : s < S.I 3 10) : mm_ev E d 180 [.ref (mm_ad B 101), .int (mm_i s)] (mm_hp B T c) = mm_oI (pp_nd S 3 s) (mm_hp B T c) := by
  obtain ⟨g1, g2, g3, g4⟩ := aq_gT h
  have z := m_netOf (E := E) (d := d) (B := B) (c := c) hd g1.1 g2 g3 g4 h0 (by rw [aq_ghI]; exact h1)
  rw [aq_gn, ← aq_gh_hp T S B c] at z
  exact z
theorem aq_q6 (h : aq_N S (T.A 102) (T.A 105)) (hd : 17 ≤ d) (h0 : 0 ≤ s) (h1 : s < S.I 3 10) : mm_ev E d 183 [.ref (mm_ad B 101), .int (mm_i s)] (mm_hp B T c) = mm_oI (pp_hd S 3 s) (mm_hp B T c) := by
  obtain ⟨g1, g2, g3, g4⟩ := aq_gT h
  have z := m_heldOf (E := E) (d := d) (B := B) (c := c) hd g1 g2 g3 g4 h0 (by rw [aq_ghI]; exact h1)
  rw [aq_gd, ← aq_gh_hp T S B c] at z
  exact z
theorem aq_q7 (h : aq_N S (T.A 102) (T.A 105)) (hd : 17 ≤ d) (h0 : 0 ≤ s) (h1 : s < S.I 3 10) {n : Int} (hn : 0 ≤ n ∧ n ≤ 999) : mm_ev E d 166 [.ref (mm_ad B 101), .int (mm_i s), .int (mm_i n)] (mm_hp B T c) = mm_oI (n * S.A (3 + 8) s + pp_rt (pp_qd (S.I 3 11) (S.A (3 + 9) s) n)) (mm_hp B T c) := by
  obtain ⟨g1, g2, g3, g4⟩ := aq_gT h
  have z := m_bound (E := E) (d := d) (B := B) (c := c) g1 g2 hd h0 (by rw [aq_ghI]; exact h1) hn
  rw [aq_gA, aq_gA, aq_ghI, ← aq_gh_hp T S B c] at z
  exact z
theorem aq_q8 (h : aq_N S (T.A 102) (T.A 105)) (hd : 1 ≤ d) (h0 : 0 ≤ s) (h1 : s < S.I 3 10) {w : Int} (w0 : 0 ≤ w) (w1 : w < 7) : mm_ev E d 152 [.ref (mm_ad B 101), .int (mm_i s), .int (mm_i w)] (mm_hp B T c) = mm_oI (S.A (3 + 1) (s * 7 + w)) (mm_hp B T c) := by
  have nn := h.2.2.1.1.1
  have hR := pp_EQ_RL h.1 h.2.1
  rw [c_of hd h0 (by omega) w0 w1, hR.2.2.2.1 s w h0 h1 w0 w1]
theorem aq_q9 (h : aq_N S (T.A 102) (T.A 105)) (hd : 2 ≤ d) (h0 : 0 ≤ s) (h1 : s < S.I 3 10) (κ : Int32 → mm_H → mm_R) : mm_cI [] (mm_ev E d 157 [.ref (mm_ad B 101), .int (mm_i s)] (mm_hp B T c)) (fun v H => mm_cI [] (mm_ev E d 160 [.int v] H) κ) = κ (mm_i (mm_pc (S.A (3 + 3) s))) (mm_hp B T c) ∧ mm_cI [] (mm_ev E d 158 [.ref (mm_ad B 101), .int (mm_i s)] (mm_hp B T c)) (fun v H => mm_cI [] (mm_ev E d 160 [.int v] H) κ) = κ (mm_i (mm_pc (S.A (3 + 4) s))) (mm_hp B T c) := by
  have nn := h.2.2.1.1.1
  have hR := pp_EQ_RL h.1 h.2.1
  have q := h.2.1.2.2.1 s h0 (by omega)
  have b3 := h.2.2.1.1.2.2.1 s h0 (by omega)
  have b4 := h.2.2.1.1.2.2.2.1 s h0 (by omega)
  constructor
  · rw [c_suppliersOf hd hR.2.2.1 (by omega) (by omega), mm_cI_ok, ← q.1, c_bitsOf (by omega) b3.1 b3.2, mm_cI_ok]
  · rw [c_customersOf hd hR.2.2.1 (by omega) (by omega), mm_cI_ok, ← q.2, c_bitsOf (by omega) b4.1 b4.2, mm_cI_ok]
end
section
variable {E : mm_E} {d B : Nat} {S S0 T : mm_S} {c : mm_N} {s : Int}
/-- how the model answers a word -/
def aq_wv (E : mm_E) (B d : Nat) (S0 T : mm_S) (c : mm_N) (J : Nat) (s X : Int) : Prop := (X ≠ -1 → mm_ev E d J [.ref (mm_ad B 101)] (mm_hp B T c) = mm_oI (aq_W S0 s X) (mm_hp B T c)) ∧ (X = -1 → mm_ev E d J [.ref (mm_ad B 101)] (mm_hp B T c) = mm_oI (-1) (mm_hp B (rd_w T 1) c))
theorem aq_w251 (hE : pp_OE E B) (h : aq_N S0 (T.A 102) (T.A 105)) (hT : rd_T S T) (hd : 22 ≤ d) (h0 : 0 ≤ s) (h1 : s < S0.I 3 10) (h36 : T.I 101 36 = s) : aq_wv E B d S0 T c 251 s (aq_find S [48, 49, 50, 51, 52, 53] 13) := by
  have nn := h.2.2.1.1.1
  have h32 := hT.2.2.1
  have tm := h.2.2.2.2 s h0 (by omega)
  have tt := h.2.2.2.1 s h0 (by omega)
  have nr := pp_nd_r h.2.2.1.1 h.2.2.2.1 h0 h1
  have bw := (rd_wB hT (v := 1) (by omega) (by omega))
  have bw1 : (rd_w T 1).I 101 32 = 1 := bw.2.1
  suffices H : mm_ev E d 251 [.ref (mm_ad B 101)] (mm_hp B T c) = if aq_find S [48, 49, 50, 51, 52, 53] 13 = -1 then mm_oI (-1) (mm_hp B (rd_w T 1) c) else mm_oI (aq_W S0 s (aq_find S [48, 49, 50, 51, 52, 53] 13)) (mm_hp B T c) from ⟨fun q => by rw [H, if_neg q], fun q => by rw [H, if_pos q]⟩
  refine mm_v251 (by omega) (fun F e hF he => ?_)
  have w : ∀ i, i < 56 → mm_ev E e 235 [.ref (mm_ad B 101), .ref (E.2.2.1 i)] (mm_hp B T c) = mm_oI (mm_b1 (rd_is S (pp_tx i))) (mm_hp B T c) := fun i hi => rd_isW hE hT (by omega) hi
  have W0 : ∀ m : Int, 13 ≤ m → aq_W S0 s m = pp_bp S0 3 s (m - 13) := fun m hm => by
    unfold aq_W
    rw [if_neg (by omega), if_neg (by omega), if_neg (by omega), if_neg (by omega), if_neg (by omega), if_neg (by omega), if_neg (by omega)]
  have y99 : ∀ (n : Nat) (x1 : Int32) (b1 b2 : Bool), mm_r251_99 E (mm_ev E e) (n + 1) (mm_ad B 101) x1 (mm_i (mm_b1 b1)) (mm_i (mm_b1 b2)) (mm_hp B T c) = mm_oI (pp_bp S0 3 s (if b1 = true then 3 else if b2 = true then 4 else 5)) (mm_hp B T c) := fun n x1 b1 b2 => by
    rw [mm_e251_99]
    simp (disch := omega) only [mm_ptM]
    rw [h32, mm_br_t rfl, h36, aq_q5 h (by omega) h0 h1, mm_cI_ok, mm_br_le (by omega) (by omega) (by omega) (by omega)]
    unfold pp_bp
    by_cases z : 0 ≤ pp_nd S0 3 s
    · rw [if_pos z, mm_br_b1, mm_br_b1]
      by_cases e1 : b1 = true
      · rw [if_pos e1, if_pos e1]
        simp (disch := omega) only [mm_ptM]
        rw [h36, aq_q6 h (by omega) h0 h1, mm_cI_ok, if_neg (by omega), if_neg (by omega), if_neg (by omega), if_pos trivial]
      rw [if_neg e1, if_neg e1]
      by_cases e2 : b2 = true
      · rw [if_pos e2, if_pos e2]
        simp (disch := omega) only [mm_ptM]
        rw [h36, aq_q5 h (by omega) h0 h1, mm_cI_ok, aq_q7 h (by omega) h0 h1 (by omega), mm_cI_ok, if_neg (by omega), if_neg (by omega), if_neg (by omega), if_neg (by omega), if_pos trivial, if_neg (by omega)]
      rw [if_neg e2, if_neg e2]
      simp (disch := omega) only [mm_ptM]
      rw [h36, aq_q8 h (by omega) h0 h1 (by omega) (by omega), mm_cI_ok]
      simp (disch := omega) only [mm_ptM]
      rw [h36, aq_q6 h (by omega) h0 h1, mm_cI_ok, mm_i_mul, if_neg (by omega), if_neg (by omega), if_neg (by omega), if_neg (by omega), if_neg (by omega), if_neg (by omega)]
    · have hh : pp_hd S0 3 s = -1 := by unfold pp_hd; rw [if_pos (by omega)]
      rw [if_neg z]
      by_cases e1 : b1 = true
      · rw [if_pos e1, if_neg (by omega), if_neg (by omega), if_neg (by omega), if_pos rfl, hh]
      rw [if_neg e1]
      by_cases e2 : b2 = true
      · rw [if_pos e2, if_neg (by omega), if_neg (by omega), if_neg (by omega), if_neg (by omega), if_pos rfl, if_pos (by omega)]
      rw [if_neg e2, if_neg (by omega), if_neg (by omega), if_neg (by omega), if_neg (by omega), if_neg (by omega), if_pos (by omega)]
  obtain ⟨X, hX⟩ : ∃ X, X = aq_find S [48, 49, 50, 51, 52, 53] 13 := ⟨_, rfl⟩
  rw [← hX]
  simp only [aq_find] at hX
  rw [mm_e251_0, w 48 (by omega), mm_cI_ok, mm_br_b1]
  by_cases q1 : rd_is S (pp_tx 48) = true
  · rw [if_pos q1] at hX
    rw [if_pos q1, hX, if_neg (by omega), W0 13 (by omega)]
    simp (disch := omega) only [mm_ptM]
    rw [h36, tm]
    rfl
  rw [if_neg q1] at hX
  rw [if_neg q1, w 49 (by omega), mm_cI_ok, mm_br_b1]
  by_cases q2 : rd_is S (pp_tx 49) = true
  · rw [if_pos q2] at hX
    rw [if_pos q2, hX, if_neg (by omega), W0 _ (by omega)]
    simp (disch := omega) only [mm_ptM]
    rw [h36, aq_q4 h (by omega) h0 h1, mm_cI_ok]
    rfl
  rw [if_neg q2] at hX
  rw [if_neg q2, w 50 (by omega), mm_cI_ok, w 51 (by omega), mm_cI_ok, w 52 (by omega), mm_cI_ok, mm_br_b1]
  by_cases q3 : rd_is S (pp_tx 50) = true
  · rw [if_pos q3] at hX
    rw [if_pos q3, hX, if_neg (by omega), W0 _ (by omega), mm_e251_67]
    simp (disch := omega) only [mm_ptM]
    rw [h36, aq_q5 h (by omega) h0 h1, mm_cI_ok]
    rfl
  rw [if_neg q3] at hX
  rw [if_neg q3, mm_e251_76, mm_br_b1, mm_br_b1]
  by_cases q4 : rd_is S (pp_tx 51) = true
  · rw [if_pos q4] at hX
    rw [if_pos q4, hX, if_neg (by omega), W0 _ (by omega), y99, if_pos q4]
    rfl
  rw [if_neg q4] at hX
  rw [if_neg q4]
  by_cases q5 : rd_is S (pp_tx 52) = true
  · rw [if_pos q5] at hX
    rw [if_pos q5, hX, if_neg (by omega), W0 _ (by omega), y99, if_neg q4, if_pos q5]
    rfl
  rw [if_neg q5] at hX
  rw [if_neg q5, w 53 (by omega), mm_cI_ok, mm_br_b1]
  by_cases q6 : rd_is S (pp_tx 53) = true
  · rw [if_pos q6] at hX
    rw [if_pos q6, hX, if_neg (by omega), W0 _ (by omega), y99, if_neg q4, if_neg q5]
    rfl
  rw [if_neg q6] at hX
  rw [if_neg q6, if_pos hX, rd_wrg hT.2.1 h32 (by omega), mm_cV_ok, mm_e251_99]
  simp (disch := omega) only [mm_ptM]
  rw [bw1, mm_br_eq (by omega) (by omega) (by omega) (by omega), if_neg (by omega)]
end
