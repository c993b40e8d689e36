/-! ASK: the values of the words, the model's chain -/
theorem aq_W0 (S : mm_S) (s : Int) : aq_W S s 0 = s := by
  unfold aq_W
  rw [if_pos rfl]
theorem aq_Wt (S : mm_S) (s w m : Int) (hm : m = w + 1) (h0 : 0 ≤ w) (h1 : w < 7) : aq_W S s m = S.A (3 + 1) (s * 7 + w) := by
  unfold aq_W
  rw [if_neg (by omega), if_pos (by omega), show m - 1 = w by omega]
theorem aq_W8 (S : mm_S) (s : Int) : aq_W S s 8 = S.A (3 + 8) s ∧ aq_W S s 9 = S.A (3 + 9) s ∧ aq_W S s 10 = S.A (3 + 10) s ∧ aq_W S s 11 = mm_pc (S.A (3 + 3) s) ∧ aq_W S s 12 = mm_pc (S.A (3 + 4) s) := by
  unfold aq_W
  refine ⟨?_, ?_, ?_, ?_, ?_⟩
  · rw [if_neg (by omega), if_neg (by omega), if_pos rfl]
  · rw [if_neg (by omega), if_neg (by omega), if_neg (by omega), if_pos rfl]
  · rw [if_neg (by omega), if_neg (by omega), if_neg (by omega), if_neg (by omega), if_pos rfl]
  · rw [if_neg (by omega), if_neg (by omega), if_neg (by omega), if_neg (by omega), if_neg (by omega), if_pos rfl]
  · rw [if_neg (by omega), if_neg (by omega), if_neg (by omega), if_neg (by omega), if_neg (by omega), if_neg (by omega), if_pos rfl]
section
variable {E : mm_E} {d B : Nat} {S S0 T : mm_S} {c : mm_N} {s : Int}
theorem aq_w250 (hE : pp_OE E B) (h : aq_N S0 (T.A 102) (T.A 105)) (hT : rd_T S T) (hd : 23 ≤ d) (h0 : 0 ≤ s) (h1 : s < S0.I 3 10) (h36 : T.I 101 36 = s) : aq_wv E B d S0 T c 250 s (aq_find S [43, 44, 45, 46, 47, 48, 49, 50, 51, 52, 53] 8) := by
  have nn := h.2.2.1.1.1
  suffices H : mm_ev E d 250 [.ref (mm_ad B 101)] (mm_hp B T c) = if aq_find S [43, 44, 45, 46, 47, 48, 49, 50, 51, 52, 53] 8 = -1 then mm_oI (-1) (mm_hp B (rd_w T 1) c) else mm_oI (aq_W S0 s (aq_find S [43, 44, 45, 46, 47, 48, 49, 50, 51, 52, 53] 8)) (mm_hp B T c) from ⟨fun q => by rw [H, if_neg q], fun q => by rw [H, if_pos q]⟩
  refine mm_v250 (by omega) (fun F e hF he => ?_)
  have w : ∀ i, i < 56 → mm_ev E e 235 [.ref (mm_ad B 101), .ref (E.2.2.1 i)] (mm_hp B T c) = mm_oI (mm_b1 (rd_is S (pp_tx i))) (mm_hp B T c) := fun i hi => rd_isW hE hT (by omega) hi
  have k := aq_w251 (E := E) (B := B) (d := e) (c := c) hE h hT (by omega) h0 h1 h36
  obtain ⟨Y, hY⟩ : ∃ Y, Y = aq_find S [48, 49, 50, 51, 52, 53] 13 := ⟨_, rfl⟩
  rw [← hY] at k
  obtain ⟨X, hX⟩ : ∃ X, X = aq_find S [43, 44, 45, 46, 47, 48, 49, 50, 51, 52, 53] 8 := ⟨_, rfl⟩
  rw [← hX]
  simp only [aq_find] at hX hY
  rw [mm_e250_0, w 43 (by omega), mm_cI_ok, mm_br_b1]
  by_cases q1 : rd_is S (pp_tx 43) = true
  · rw [if_pos q1] at hX
    have hX : X = 8 := hX
    rw [if_pos q1, hX, if_neg (by omega), (aq_W8 S0 s).1]
    simp (disch := omega) only [mm_ptM]
    rw [h36, aq_q1 h (by omega) h0 h1, mm_cI_ok]
  rw [if_neg q1] at hX
  rw [if_neg q1, w 44 (by omega), mm_cI_ok, mm_br_b1]
  by_cases q2 : rd_is S (pp_tx 44) = true
  · rw [if_pos q2] at hX
    have hX : X = 9 := hX
    rw [if_pos q2, hX, if_neg (by omega), (aq_W8 S0 s).2.1]
    simp (disch := omega) only [mm_ptM]
    rw [h36, aq_q2 h (by omega) h0 h1, mm_cI_ok]
  rw [if_neg q2] at hX
  rw [if_neg q2, w 45 (by omega), mm_cI_ok, mm_br_b1]
  by_cases q3 : rd_is S (pp_tx 45) = true
  · rw [if_pos q3] at hX
    have hX : X = 10 := hX
    rw [if_pos q3, hX, if_neg (by omega), (aq_W8 S0 s).2.2.1]
    simp (disch := omega) only [mm_ptM]
    rw [h36, aq_q3 h (by omega) h0 h1, mm_cI_ok]
  rw [if_neg q3] at hX
  rw [if_neg q3, w 46 (by omega), mm_cI_ok, mm_br_b1]
  by_cases q4 : rd_is S (pp_tx 46) = true
  · rw [if_pos q4] at hX
    have hX : X = 11 := hX
    rw [if_pos q4, hX, if_neg (by omega), (aq_W8 S0 s).2.2.2.1]
    simp (disch := omega) only [mm_ptM]
    rw [h36, (aq_q9 h (by omega) h0 h1 _).1]
  rw [if_neg q4] at hX
  rw [if_neg q4, w 47 (by omega), mm_cI_ok, mm_br_b1]
  by_cases q5 : rd_is S (pp_tx 47) = true
  · rw [if_pos q5] at hX
    have hX : X = 12 := hX
    rw [if_pos q5, hX, if_neg (by omega), (aq_W8 S0 s).2.2.2.2]
    rw [mm_e250_91]
    simp (disch := omega) only [mm_ptM]
    rw [h36, (aq_q9 h (by omega) h0 h1 _).2]
  rw [if_neg q5] at hX
  have hX : X = Y := hX.trans hY.symm
  rw [if_neg q5, mm_e250_103, hX]
  by_cases z : Y = -1
  · rw [if_pos z, k.2 z, mm_cI_ok]
  · rw [if_neg z, k.1 z, mm_cI_ok]
theorem aq_modW (hE : pp_OE E B) (h : aq_N S0 (T.A 102) (T.A 105)) (h0 : 0 ≤ s) (h1 : s < S0.I 3 10) : aq_M E B s (aq_W S0 s) T := fun S U d c hd hT hA h36 => by
  have h : aq_N S0 (U.A 102) (U.A 105) := by rw [hA]; exact h
  have nn := h.2.2.1.1.1
  suffices H : mm_ev E d 249 [.ref (mm_ad B 101)] (mm_hp B U c) = if aq_wd S = -1 then mm_oI (-1) (mm_hp B (rd_w U 1) c) else mm_oI (aq_W S0 s (aq_wd S)) (mm_hp B U c) from by
    rcases aq_find_r (S := S) aq_vl 0 (by omega) with z | z
    · exact Or.inr ⟨z, -1, H.trans (if_pos z)⟩
    · have z1 : 0 ≤ aq_wd S := z.1
      exact Or.inl ⟨z1, H.trans (if_neg (by omega))⟩
  refine mm_v249 (by omega) (fun F e hF he => ?_)
  have w : ∀ i, i < 56 → mm_ev E e 235 [.ref (mm_ad B 101), .ref (E.2.2.1 i)] (mm_hp B U c) = mm_oI (mm_b1 (rd_is S (pp_tx i))) (mm_hp B U c) := fun i hi => rd_isW hE hT (by omega) hi
  have k := aq_w250 (E := E) (B := B) (d := e) (c := c) hE h hT (by omega) h0 h1 h36
  obtain ⟨Y, hY⟩ : ∃ Y, Y = aq_find S [43, 44, 45, 46, 47, 48, 49, 50, 51, 52, 53] 8 := ⟨_, rfl⟩
  rw [← hY] at k
  obtain ⟨X, hX⟩ : ∃ X, X = aq_wd S := ⟨_, rfl⟩
  rw [← hX]
  unfold aq_wd aq_vl at hX
  simp only [aq_find] at hX hY
  rw [mm_e249_0, w 37 (by omega), mm_cI_ok, mm_br_b1]
  by_cases q1 : rd_is S (pp_tx 37) = true
  · rw [if_pos q1] at hX
    have hX : X = 0 := hX
    rw [if_pos q1, hX, if_neg (by omega), aq_W0]
    simp (disch := omega) only [mm_ptM]
    rw [h36]
  rw [if_neg q1] at hX
  rw [if_neg q1, w 38 (by omega), mm_cI_ok, mm_br_b1]
  by_cases q2 : rd_is S (pp_tx 38) = true
  · rw [if_pos q2] at hX
    have hX : X = 1 := hX
    rw [if_pos q2, hX, if_neg (by omega), aq_Wt S0 s 0 1 (by omega) (by omega) (by omega)]
    simp (disch := omega) only [mm_ptM]
    rw [h36, aq_q8 h (by omega) h0 h1 (by omega) (by omega), mm_cI_ok]
  rw [if_neg q2] at hX
  rw [if_neg q2, w 39 (by omega), mm_cI_ok, mm_br_b1]
  by_cases q3 : rd_is S (pp_tx 39) = true
  · rw [if_pos q3] at hX
    have hX : X = 2 := hX
    rw [if_pos q3, hX, if_neg (by omega), aq_Wt S0 s 1 2 (by omega) (by omega) (by omega)]
    simp (disch := omega) only [mm_ptM]
    rw [h36, aq_q8 h (by omega) h0 h1 (by omega) (by omega), mm_cI_ok]
  rw [if_neg q3] at hX
  rw [if_neg q3, w 26 (by omega), mm_cI_ok, mm_br_b1]
  by_cases q4 : rd_is S (pp_tx 26) = true
  · rw [if_pos q4] at hX
    have hX : X = 3 := hX
    rw [if_pos q4, hX, if_neg (by omega), aq_Wt S0 s 2 3 (by omega) (by omega) (by omega)]
    simp (disch := omega) only [mm_ptM]
    rw [h36, aq_q8 h (by omega) h0 h1 (by omega) (by omega), mm_cI_ok]
  rw [if_neg q4] at hX
  rw [if_neg q4, w 40 (by omega), mm_cI_ok, mm_br_b1]
  by_cases q5 : rd_is S (pp_tx 40) = true
  · rw [if_pos q5] at hX
    have hX : X = 4 := hX
    rw [if_pos q5, hX, if_neg (by omega), aq_Wt S0 s 3 4 (by omega) (by omega) (by omega)]
    rw [mm_e249_85]
    simp (disch := omega) only [mm_ptM]
    rw [h36, aq_q8 h (by omega) h0 h1 (by omega) (by omega), mm_cI_ok]
  rw [if_neg q5] at hX
  rw [if_neg q5, mm_e249_95, w 41 (by omega), mm_cI_ok, mm_br_b1]
  by_cases q6 : rd_is S (pp_tx 41) = true
  · rw [if_pos q6] at hX
    have hX : X = 5 := hX
    rw [if_pos q6, hX, if_neg (by omega), aq_Wt S0 s 4 5 (by omega) (by omega) (by omega)]
    simp (disch := omega) only [mm_ptM]
    rw [h36, aq_q8 h (by omega) h0 h1 (by omega) (by omega), mm_cI_ok]
  rw [if_neg q6] at hX
  rw [if_neg q6, w 28 (by omega), mm_cI_ok, mm_br_b1]
  by_cases q7 : rd_is S (pp_tx 28) = true
  · rw [if_pos q7] at hX
    have hX : X = 6 := hX
    rw [if_pos q7, hX, if_neg (by omega), aq_Wt S0 s 5 6 (by omega) (by omega) (by omega)]
    simp (disch := omega) only [mm_ptM]
    rw [h36, aq_q8 h (by omega) h0 h1 (by omega) (by omega), mm_cI_ok]
  rw [if_neg q7] at hX
  rw [if_neg q7, w 42 (by omega), mm_cI_ok, mm_br_b1]
  by_cases q8 : rd_is S (pp_tx 42) = true
  · rw [if_pos q8] at hX
    have hX : X = 7 := hX
    rw [if_pos q8, hX, if_neg (by omega), aq_Wt S0 s 6 7 (by omega) (by omega) (by omega)]
    simp (disch := omega) only [mm_ptM]
    rw [h36, aq_q8 h (by omega) h0 h1 (by omega) (by omega), mm_cI_ok]
  rw [if_neg q8] at hX
  have hX : X = Y := hX.trans hY.symm
  rw [if_neg q8, hX]
  by_cases z : Y = -1
  · rw [if_pos z, k.2 z, mm_cI_ok]
  · rw [if_neg z, k.1 z, mm_cI_ok]
end
