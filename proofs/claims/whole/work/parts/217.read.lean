/-! ASK: a question read, class and model -/
/-- the class at its first token -/
def aq_op1 (S : mm_S) (n : Int) : mm_S := pp_tT ((((S.sI 97 6 0).sI 97 4 0).sI 1 2 n).sI 1 4 0) 0
def aq_op2 (T : mm_S) (n s k : Int) : mm_S := pp_tM ((((((T.sI 101 36 s).sI 101 37 k).sI 101 27 n).sI 101 28 0).sI 101 32 0).sI 101 35 0) 0
/-- which of the five is asked -/
def aq_K (S : mm_S) (n : Int) : Int := aq_find (aq_op1 S n) aq_al 0
theorem aq_o1I {S : mm_S} {n : Int} {x k : Nat} (h1 : ¬ (x = 97 ∧ (k = 4 ∨ k = 6))) (h2 : ¬ (x = 1 ∧ 2 ≤ k ∧ k ≤ 5)) : (aq_op1 S n).I x k = S.I x k := by
  unfold aq_op1 pp_tT
  rw [mm_gI_ne (by omega), mm_gI_ne (by omega), mm_gI_ne (by omega), mm_gI_ne (by omega), mm_gI_ne (by omega), mm_gI_ne (by omega), mm_gI_ne (by omega)]
theorem aq_o14 (S : mm_S) (n : Int) : (aq_op1 S n).I 97 4 = 0 := by
  unfold aq_op1 pp_tT
  rw [mm_gI_ne (by omega), mm_gI_ne (by omega), mm_gI_ne (by omega), mm_gI_ne (by omega), mm_gI_ne (by omega)]
  exact mm_gs.1 _ _ _ _
theorem aq_o16 (S : mm_S) (n : Int) : (aq_op1 S n).I 97 6 = 0 := by
  unfold aq_op1 pp_tT
  rw [mm_gI_ne (by omega), mm_gI_ne (by omega), mm_gI_ne (by omega), mm_gI_ne (by omega), mm_gI_ne (by omega), mm_gI_ne (by omega)]
  exact mm_gs.1 _ _ _ _
theorem aq_o12 (S : mm_S) (n : Int) : (aq_op1 S n).I 1 2 = n := by
  unfold aq_op1 pp_tT
  rw [mm_gI_ne (by omega), mm_gI_ne (by omega), mm_gI_ne (by omega), mm_gI_ne (by omega)]
  exact mm_gs.1 _ _ _ _
theorem aq_o2I {T : mm_S} {n s k : Int} {x l : Nat} (h : ¬ (x = 101 ∧ ((27 ≤ l ∧ l ≤ 32) ∨ (35 ≤ l ∧ l ≤ 37)))) : (aq_op2 T n s k).I x l = T.I x l := by
  unfold aq_op2 pp_tM
  rw [mm_gI_ne (by omega), mm_gI_ne (by omega), mm_gI_ne (by omega), mm_gI_ne (by omega), mm_gI_ne (by omega), mm_gI_ne (by omega), mm_gI_ne (by omega), mm_gI_ne (by omega), mm_gI_ne (by omega), mm_gI_ne (by omega)]
theorem aq_o235 (T : mm_S) (n s k : Int) : (aq_op2 T n s k).I 101 35 = 0 ∧ (aq_op2 T n s k).I 101 36 = s ∧ (aq_op2 T n s k).I 101 37 = k := by
  unfold aq_op2 pp_tM
  refine ⟨?_, ?_, ?_⟩
  · rw [mm_gI_ne (by omega), mm_gI_ne (by omega), mm_gI_ne (by omega), mm_gI_ne (by omega)]
    exact mm_gs.1 _ _ _ _
  · rw [mm_gI_ne (by omega), mm_gI_ne (by omega), mm_gI_ne (by omega), mm_gI_ne (by omega), mm_gI_ne (by omega), mm_gI_ne (by omega), mm_gI_ne (by omega), mm_gI_ne (by omega), mm_gI_ne (by omega)]
    exact mm_gs.1 _ _ _ _
  · rw [mm_gI_ne (by omega), mm_gI_ne (by omega), mm_gI_ne (by omega), mm_gI_ne (by omega), mm_gI_ne (by omega), mm_gI_ne (by omega), mm_gI_ne (by omega), mm_gI_ne (by omega)]
    exact mm_gs.1 _ _ _ _
section
variable {E : mm_E} {d d' e f B : Nat} {S T : mm_S} {c c' : mm_N} {k s : Int} {W : Int → Int}
theorem aq_oT {n : Int} (n0 : 0 ≤ n) (n1 : n ≤ 200) (hB : ∀ i : Int, 0 ≤ i → i < n → T.A 122 i = S.A 2 i ∧ 0 ≤ S.A 2 i ∧ S.A 2 i ≤ 255) : rd_T (aq_op1 S n) (aq_op2 T n s k) := by
  have e2 : ((((S.sI 97 6 0).sI 97 4 0).sI 1 2 n).sI 1 4 0).I 1 2 = n := by
    rw [mm_gI_ne (by omega)]
    exact mm_gs.1 _ _ _ _
  have e27 : ((((((T.sI 101 36 s).sI 101 37 k).sI 101 27 n).sI 101 28 0).sI 101 32 0).sI 101 35 0).I 101 27 = n := by
    rw [mm_gI_ne (by omega), mm_gI_ne (by omega), mm_gI_ne (by omega)]
    exact mm_gs.1 _ _ _ _
  refine rd_first ?_ ?_ ?_ ?_ ?_
  · rw [e2]; omega
  · rw [e2]; exact fun i i0 i1 => (hB i i0 i1).2
  · rw [e2, e27]
  · rw [e2]; exact fun i i0 i1 => (hB i i0 i1).1
  · rw [mm_gI_ne (by omega)]; exact mm_gs.1 _ _ _ _
/-- the end of a reading -/
theorem aq_fin {S' T' : mm_S} {v x1 y1 y2 y3 : Int32} {o4 : Option Value} {n m : Nat} {C : mm_R} {P : Prop} (he : 1 ≤ f) (hC : (C = mm_oI 1 (mm_hp B S' c) ∧ aq_G S' T' k s 0 ∧ P) ∨ (C = mm_oI 0 (mm_hp B S' c) ∧ aq_X S' T')) : ∃ (S2 T2 : mm_S) (g : Int), mm_cI [] C (fun v_5 h_4 => mm_br (v_5 = (mm_i 0)) (mm_r63_89 E (mm_ev E e) (n + 1) (mm_ad B 97) x1 v_5 h_4) (mm_gR h_4 (mm_ad B 97) 4 0 fun p_6 => mm_gI h_4 p_6 7 5 fun v_7 => (mm_br (v_7 = (mm_i 0)) (mm_r63_89 E (mm_ev E e) (n + 1) (mm_ad B 97) x1 v_5 h_4) (mm_pF h_4 (mm_ad B 97) 4 6 (.int (mm_i 1)) fun h_8 => mm_r63_89 E (mm_ev E e) (n + 1) (mm_ad B 97) x1 v_5 h_8)))) = mm_oI g (mm_hp B S2 c) ∧ mm_r260_130 E (mm_ev E f) (m + 1) (mm_ad B 101) y1 y2 y3 o4 v (mm_hp B T' c') = some (.inl (some (.int v)), mm_hp B T2 c') ∧ (S2 = S' ∨ S2 = S'.sI 97 6 1) ∧ (T2 = T' ∨ T2 = rd_w T' 1) ∧ T2.I 101 32 = g ∧ (0 ≤ g ∧ g ≤ 5) ∧ (g ≠ 0 → T2.I 101 33 = S2.I 1 3) ∧ (g = 0 → S2 = S' ∧ T2 = T' ∧ aq_G S' T' k s 0 ∧ P) := by
  rcases hC with ⟨h1, h2, h3⟩ | ⟨h1, h2⟩
  · have k5 := h2.1.1.2.2.2.2.2
    have t29 : T'.I 101 29 = S'.I 1 5 := h2.1.2.2.2.2.2.2.2.1
    have t32 : T'.I 101 32 = 0 := h2.1.2.2.1
    have s6 : S'.I 97 6 = 0 := h2.2.1
    rw [h1, mm_cI_ok, mm_br_eq (by omega) (by omega) (by omega) (by omega), if_neg (by omega), mm_e260_130]
    simp (disch := omega) only [mm_ptQ]
    simp (disch := omega) only [mm_ptT]
    simp (disch := omega) only [mm_ptM]
    rw [t32, mm_br_t rfl, t29, mm_br_eq (by omega) (by omega) (by omega) (by omega), mm_br_eq (by omega) (by omega) (by omega) (by omega)]
    by_cases q : S'.I 1 5 = 0
    · rw [if_pos q, if_pos q, mm_e63_89]
      simp (disch := omega) only [mm_ptQ]
      exact ⟨S', T', S'.I 97 6, rfl, rfl, Or.inl rfl, Or.inl rfl, by omega, by omega, fun z => absurd s6 z, fun _ => ⟨rfl, rfl, h2, h3⟩⟩
    · have w := aq_wX h2.1 (v := 1) (by omega) (by omega)
      obtain ⟨v1, ⟨b1, b2, b3, b4⟩, b5⟩ := w
      have b5 : (1 : Int) = v1 := by rw [← b5]; exact (mm_gs.1 _ _ _ _).symm
      rw [if_neg q, if_neg q, mm_e63_89, rd_wrg h2.1.2.1 t32 he, mm_cV_ok]
      simp (disch := omega) only [mm_ptQ, mm_gs]
      exact ⟨S'.sI 97 6 1, rd_w T' 1, 1, rfl, rfl, Or.inr rfl, Or.inr rfl, by omega, by omega, fun _ => b4, fun z => by omega⟩
  · obtain ⟨v1, ⟨b1, b2, b3, b4⟩, b5⟩ := h2
    rw [h1, mm_cI_ok, mm_br_t rfl, mm_e63_89, mm_e260_130]
    simp (disch := omega) only [mm_ptQ]
    simp (disch := omega) only [mm_ptM]
    rw [b2, mm_br_eq (by omega) (by omega) (by omega) (by omega), if_neg (by omega)]
    exact ⟨S', T', S'.I 97 6, rfl, rfl, Or.inl rfl, Or.inl rfl, by omega, by omega, fun _ => b4, fun z => by omega⟩
/-- which is asked, the model -/
theorem aq_kind {x1 x2 x3 : Int32} {m : Nat} (hE : pp_OE E B) (h : rd_T S T) (he : 1 ≤ f) : mm_cI [] (mm_ev E f 235 [.ref (mm_ad B 101), .ref (E.2.2.1 31)] (mm_hp B T c')) (fun v_5 h_4 => (mm_br (v_5 = (mm_i 0)) (mm_cI [] (mm_ev E f 235 [.ref (mm_ad B 101), .ref (E.2.2.1 32)] h_4) fun v_7 h_6 => (mm_br (v_7 = (mm_i 0)) (mm_cI [] (mm_ev E f 235 [.ref (mm_ad B 101), .ref (E.2.2.1 33)] h_6) fun v_9 h_8 => (mm_br (v_9 = (mm_i 0)) (mm_cI [] (mm_ev E f 235 [.ref (mm_ad B 101), .ref (E.2.2.1 34)] h_8) fun v_11 h_10 => (mm_br (v_11 = (mm_i 0)) (mm_r260_73 E (mm_ev E f) (m + 1) (mm_ad B 101) x1 x2 x3 none (mm_ad B 101) (mm_i 4) h_10) (mm_r260_73 E (mm_ev E f) (m + 1) (mm_ad B 101) x1 x2 x3 none (mm_ad B 101) (mm_i 3) h_10))) (mm_r260_73 E (mm_ev E f) (m + 1) (mm_ad B 101) x1 x2 x3 none (mm_ad B 101) (mm_i 2) h_8))) (mm_r260_73 E (mm_ev E f) (m + 1) (mm_ad B 101) x1 x2 x3 none (mm_ad B 101) (mm_i 1) h_6))) (mm_r260_73 E (mm_ev E f) (m + 1) (mm_ad B 101) x1 x2 x3 none (mm_ad B 101) (mm_i 0) h_4))) = mm_r260_99 E (mm_ev E f) m (mm_ad B 101) x1 x2 x3 none (mm_hp B (if aq_find S aq_al 0 = -1 then rd_w (T.sI 101 38 4) 1 else T.sI 101 38 (aq_find S aq_al 0)) c') := by
  have w : ∀ i, i < 56 → mm_ev E f 235 [.ref (mm_ad B 101), .ref (E.2.2.1 i)] (mm_hp B T c') = mm_oI (mm_b1 (rd_is S (pp_tx i))) (mm_hp B T c') := fun i hi => rd_isW hE h he hi
  have g4 : rd_T S (T.sI 101 38 4) := rd_T_c (S := S) (T := T) (fun _ _ => rfl) rfl (fun k hk => mm_gI_ne (by omega)) rfl h
  have y : ∀ v : Int, 0 ≤ v → v < 4 → mm_r260_73 E (mm_ev E f) (m + 1) (mm_ad B 101) x1 x2 x3 none (mm_ad B 101) (mm_i v) (mm_hp B T c') = mm_r260_99 E (mm_ev E f) m (mm_ad B 101) x1 x2 x3 none (mm_hp B (T.sI 101 38 v) c') := fun v v0 v1 => by
    rw [mm_e260_73]
    simp (disch := omega) only [mm_ptM, mm_gs]
    rw [mm_br_eq (by omega) (by omega) (by omega) (by omega), if_neg (by omega)]
  obtain ⟨K, hK⟩ : ∃ K, K = aq_find S aq_al 0 := ⟨_, rfl⟩
  rw [← hK]
  unfold aq_al at hK
  simp only [aq_find] at hK
  rw [w 31 (by omega), mm_cI_ok, mm_br_b1]
  by_cases q1 : rd_is S (pp_tx 31) = true
  · rw [if_pos q1] at hK
    have hK : K = 0 := hK
    rw [if_pos q1, hK, if_neg (by omega), y 0 (by omega) (by omega)]
  rw [if_neg q1] at hK
  rw [if_neg q1, w 32 (by omega), mm_cI_ok, mm_br_b1]
  by_cases q2 : rd_is S (pp_tx 32) = true
  · rw [if_pos q2] at hK
    have hK : K = 1 := hK
    rw [if_pos q2, hK, if_neg (by omega), y 1 (by omega) (by omega)]
  rw [if_neg q2] at hK
  rw [if_neg q2, w 33 (by omega), mm_cI_ok, mm_br_b1]
  by_cases q3 : rd_is S (pp_tx 33) = true
  · rw [if_pos q3] at hK
    have hK : K = 2 := hK
    rw [if_pos q3, hK, if_neg (by omega), y 2 (by omega) (by omega)]
  rw [if_neg q3] at hK
  rw [if_neg q3, w 34 (by omega), mm_cI_ok, mm_br_b1]
  by_cases q4 : rd_is S (pp_tx 34) = true
  · rw [if_pos q4] at hK
    have hK : K = 3 := hK
    rw [if_pos q4, hK, if_neg (by omega), y 3 (by omega) (by omega)]
  rw [if_neg q4] at hK
  rw [if_neg q4, mm_e260_73]
  simp (disch := omega) only [mm_ptM, mm_gs]
  rw [mm_br_t trivial, rd_isW hE g4 he (by omega), mm_cI_ok, mm_br_b1]
  by_cases q5 : rd_is S (pp_tx 35) = true
  · rw [if_pos q5] at hK
    have hK : K = 4 := hK
    rw [if_pos q5, hK, if_neg (by omega)]
  · rw [if_neg q5] at hK
    rw [if_neg q5, if_pos hK, rd_wrg g4.2.1 g4.2.2.1 he, mm_cV_ok]
end
