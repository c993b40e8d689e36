/-! READING: a stage, behind its name -/
def rd_ok (B : Nat) (c c' : mm_N) (S T : mm_S) (C M : mm_R) : Prop := ∃ S' T', rd_FS S S' ∧ rd_FT T T' ∧ M = mm_oV (mm_hp B T' c') ∧ ((C = mm_oI 1 (mm_hp B S' c) ∧ rd_G S' T' ∧ S.I 1 3 ≤ S'.I 1 3) ∨ (C = mm_oI 0 (mm_hp B S' c) ∧ rd_X S' T'))
theorem rd_ok_t {B : Nat} {c c' : mm_N} {S T S1 T1 : mm_S} {C M : mm_R} (hS : rd_FS S S1) (hT : rd_FT T T1) (hp : S.I 1 3 ≤ S1.I 1 3) (h : rd_ok B c c' S1 T1 C M) : rd_ok B c c' S T C M := by
  obtain ⟨S', T', h1, h2, h3, h4⟩ := h
  refine ⟨S', T', rd_FS_t hS h1, rd_FT_t hT h2, h3, ?_⟩
  rcases h4 with ⟨a, b, g⟩ | h4
  · exact Or.inl ⟨a, b, by omega⟩
  · exact Or.inr h4
theorem rd_X_A {S T : mm_S} (h : rd_X S T) (g : Int → Int) : rd_X S (T.sA 103 g) := by
  obtain ⟨⟨v, ⟨h1, h2, h3, h4⟩, h5⟩, h6⟩ := h
  exact ⟨⟨v, ⟨rd_M_c (fun _ _ => rfl) rfl h1, h2, h3, h4⟩, h5⟩, h6⟩
theorem rd_X_0 {S T : mm_S} (h : rd_X S T) : rd_M T ∧ T.I 101 32 ≠ 0 := by
  obtain ⟨⟨v, ⟨h1, h2, h3, h4⟩, h5⟩, h6⟩ := h
  exact ⟨h1, by omega⟩
theorem rd_H_s {S T : mm_S} (h : rd_H S T) : rd_H (rd_s S) (rd_m T) := by
  obtain ⟨h1, h2, h3, h4⟩ := h
  exact ⟨(rd_next h1).1, by rw [rd_sI (by omega)]; exact h2, h3, rd_D_c (fun k _ => rd_sI (by omega)) (fun x _ _ => rfl) h4⟩
theorem rd_H_p {S T : mm_S} (h : rd_T S T) : S.I 1 3 ≤ (rd_s S).I 1 3 := by
  have a := (rd_next h).2
  have b := h.1.2.2.2.1
  omega
theorem rd_H_G {S T : mm_S} (h : rd_H S T) : rd_G S (T.sA 103 (mm_u (T.A 103) 0 (T.A 103 0 + 1))) := by
  obtain ⟨h1, h2, h3, h4⟩ := h
  exact ⟨rd_T_c (S := S) (T := T) (fun _ _ => rfl) rfl (fun _ _ => rfl) rfl h1, h2, h4⟩
theorem rd_H_n {S T : mm_S} (h : rd_H S T) : S.I 14 10 = T.A 103 0 + 1 := by
  have z := h.2.2.2.2.1.1
  rw [z, mm_u_eq]
theorem rd_H_u {S T : mm_S} {w N : Int} (h : rd_H S T) (w0 : 0 ≤ w) (w1 : w < 6) (n0 : 0 ≤ N ∧ N ≤ pp_mo w) : rd_H (rd_tl S w N) ((rd_m T).sA 103 (mm_u (T.A 103) (3 + 7 * T.A 103 0 + w) N)) := by
  have hn := rd_H_n h
  obtain ⟨h1, h2, h3, h4⟩ := h
  have ml := rd_ml w0 (by omega : w < 7)
  have e0 : mm_u (T.A 103) (3 + 7 * T.A 103 0 + w) N 0 = T.A 103 0 := mm_u_ne (by omega)
  have eI : ∀ x k, x ≠ 1 → (rd_tl S w N).I x k = S.I x k := fun x k hx => rd_sI (by omega)
  refine ⟨rd_T_c (S := rd_tl S w N) (T := rd_m T) (fun _ _ => rfl) rfl (fun _ _ => rfl) rfl (rd_tlT h1 w N).1, ?_, ?_, ?_⟩
  · rw [eI 96 2 (by omega)]; exact h2
  · show 0 ≤ mm_u (T.A 103) (3 + 7 * T.A 103 0 + w) N 0 ∧ mm_u (T.A 103) (3 + 7 * T.A 103 0 + w) N 0 < 12
    rw [e0]; exact h3
  · show rd_D _ (mm_u (mm_u (T.A 103) (3 + 7 * T.A 103 0 + w) N) 0 (mm_u (T.A 103) (3 + 7 * T.A 103 0 + w) N 0 + 1))
    rw [e0, rd_u0 (by omega)]
    refine rd_D_u (S := S) h4 (eI 14 10 (by omega)) (eI 14 11 (by omega)) ?_ rfl rfl rfl h3.1 (by rw [mm_u_eq]; omega) w0 (by omega) (by omega) n0.2
    show mm_u (S.A 15) ((S.I 14 10 - 1) * 7 + w) N = _
    rw [hn, show T.A 103 0 + 1 - 1 = T.A 103 0 by omega]
section
variable {E : mm_E} {d e e' B : Nat} {S T : mm_S} {c c' : mm_N}
theorem m_255 {cl : mm_F} {n : Nat} {x1 x2 x3 : Int32} : mm_r245_255 E cl (n + 1) (mm_ad B 101) x1 x2 x3 (mm_hp B T c) = mm_oV (mm_hp B (T.sA 103 (mm_u (T.A 103) 0 (T.A 103 0 + 1))) c) := by
  rw [mm_e245_255]
  simp (disch := omega) only [mm_ptM, mm_hm]
theorem m_227b {n : Nat} {x1 x2 x3 : Int32} (hE : pp_OE E B) (h : rd_M T) (hb : T.I 101 32 ≠ 0) (hd : 1 ≤ e) : mm_r245_227 E (mm_ev E e) (n + 2) (mm_ad B 101) x1 x2 x3 (mm_hp B T c) = mm_oV (mm_hp B (T.sA 103 (mm_u (T.A 103) 0 (T.A 103 0 + 1))) c) := by
  rw [mm_e245_227, rd_isWb hE h hb hd (by omega), mm_cI_ok, mm_br_t rfl]
  exact m_255
/-- a number told: both -/
theorem rd_step (hE : pp_OE E B) (h : rd_H S T) {w : Int} (w0 : 0 ≤ w) (w1 : w < 6) (he : 4 ≤ e) (he' : 4 ≤ e') (c : mm_N) : ∃ S' T', rd_FS S S' ∧ rd_FT T T' ∧ S.I 1 3 ≤ S'.I 1 3 ∧ T'.A 103 0 = T.A 103 0 ∧ (∀ (c' : mm_N) (κ : mm_H → mm_R), mm_cI [] (mm_ev E e' 239 [.ref (mm_ad B 101), .int (mm_i (pp_mo w))] (mm_hp B T c')) (fun v h2 => mm_wI h2 (mm_ad B 103) (mm_i (3 + 7 * T.A 103 0) + mm_i w) v κ) = κ (mm_hp B T' c')) ∧ ((mm_ev E e 84 [.ref (mm_ad B 96), .int (mm_i w)] (mm_hp B S c) = mm_oI 1 (mm_hp B S' c) ∧ rd_H S' T') ∨ (mm_ev E e 84 [.ref (mm_ad B 96), .int (mm_i w)] (mm_hp B S c) = mm_oI 0 (mm_hp B S' c) ∧ rd_X S' T')) := by
  have hn := rd_H_n h
  have h3 := h.2.2.1
  obtain ⟨N, z⟩ := rd_told (E := E) (d := e) (B := B) (c := c) hE h.1 (w := w) (by omega) w0 w1 he
  have y2 := h.1.1.2.2.2.1
  rcases z with ⟨z1, z2, z3⟩ | ⟨v, v1, z1, z3⟩
  · have y := (rd_tlT h.1 w N).2
    refine ⟨rd_tl S w N, (rd_m T).sA 103 (mm_u (T.A 103) (3 + 7 * T.A 103 0 + w) N), rd_tlF S w N, rd_FT_t (rd_FT_m _) (rd_FT_A _ _), by omega, mm_u_ne (by omega), fun c' κ => ?_, Or.inl ⟨z1, rd_H_u h w0 w1 z2⟩⟩
    rw [z3 e' c' he', mm_cI_ok]
    simp (disch := omega) only [mm_hm]
    simp (disch := omega) only [mm_ptM]
    rfl
  · refine ⟨S.sI 96 2 v, (rd_w T v).sA 103 (mm_u (T.A 103) (3 + 7 * T.A 103 0 + w) N), rd_FS_f S v, rd_FT_t (rd_FT_w _ _) (rd_FT_A _ _), by rw [mm_gI_ne (by omega)]; omega, mm_u_ne (by omega), fun c' κ => ?_, Or.inr ⟨z1, rd_X_A (rd_wX ⟨_, h.2.2.2.1, h.2.2.2.2.1⟩ h.1 v1.1 v1.2) _⟩⟩
    rw [z3 e' c' he', mm_cI_ok]
    simp (disch := omega) only [mm_hm]
    simp (disch := omega) only [mm_ptM]
    rfl
theorem rd_stepb (h : rd_X S T) {w x n : Int} (w0 : 0 ≤ w) (w1 : w < 7) (hx : 0 ≤ x ∧ x ≤ 10000) (hn : 0 ≤ n ∧ n < 12) (he : 4 ≤ e) (c' : mm_N) (κ : mm_H → mm_R) : mm_cI [] (mm_ev E e 239 [.ref (mm_ad B 101), .int (mm_i x)] (mm_hp B T c')) (fun v h2 => mm_wI h2 (mm_ad B 103) (mm_i (3 + 7 * n) + mm_i w) v κ) = κ (mm_hp B (T.sA 103 (mm_u (T.A 103) (3 + 7 * n + w) 0)) c') := by
  have b := rd_X_0 h
  rw [rd_rnb b.1 b.2 he hx, mm_cI_ok]
  simp (disch := omega) only [mm_hm]
  simp (disch := omega) only [mm_ptM]
/-- the class, where a promise may stand -/
noncomputable def rd_c3 (E : mm_E) (e B n : Nat) (H : mm_H) : mm_R := mm_cI [] (mm_ev E e 97 [.ref (mm_ad B 1), .ref (E.2.2.1 5)] H) (fun v h => mm_br (v = mm_i 0) (mm_bz (mm_i 1) (some (.inl (some (.int (mm_i 1))), h))) (mm_r82_108 E (mm_ev E e) n (mm_ad B 96) h))
theorem rd_p3 (hE : pp_OE E B) (h : rd_H S T) (he : 5 ≤ e) (he' : 5 ≤ e') (n m : Nat) {x1 x2 x3 : Int32} (hx : x3 = mm_i (3 + 7 * T.A 103 0)) : rd_ok B c c' S T (rd_c3 E e B (n + 1) (mm_hp B S c)) (mm_r245_227 E (mm_ev E e') (m + 2) (mm_ad B 101) x1 x2 x3 (mm_hp B T c')) := by
  have hT := h.1
  have o5 : pp_mo 5 = 20 := by decide
  unfold rd_c3
  rw [hx, mm_e245_227, rd_isW hE hT (by omega) (by omega), mm_cI_ok, mm_br_b1, c_skipWord hE (by omega) (by omega) hT.1 rd_tx3.2.2 (rd_t32 28 (by omega) (by omega))]
  by_cases q : rd_is S (pp_tx 28) = true
  · rw [if_pos q, if_pos (show (decide (S.I 1 5 = 1) && pp_wd (S.A 2) (S.I 1 3) (S.I 1 4) (pp_tx 28)) = true from q), mm_cI_ok, mm_br_eq (by omega) (by omega) (by omega) (by omega), if_neg (by omega), mm_e82_108, rd_pas hT.2.1 hT.2.2.1 (by omega), mm_cV_ok, show pp_tT S (S.I 1 4) = rd_s S from rfl]
    have hs := rd_H_s h
    refine rd_ok_t (rd_FS_s S) (rd_FT_m T) (rd_H_p hT) ?_
    simp (disch := omega) only [mm_ptM]
    obtain ⟨S', T', f1, f2, f3, f4, f5, f6⟩ := rd_step (e := e) (e' := e') hE hs (w := 5) (by omega) (by omega) (by omega) (by omega) c
    rw [o5] at f5
    refine rd_ok_t f1 f2 f3 ?_
    have f5 := f5 c'
    rw [show (rd_m T).A 103 0 = T.A 103 0 from rfl] at f5
    rw [f5, m_255]
    rcases f6 with ⟨g1, g2⟩ | ⟨g1, g2⟩
    · rw [g1, mm_cI_ok, mm_br_eq (by omega) (by omega) (by omega) (by omega), if_neg (by omega), mm_bz1]
      exact ⟨S', _, rd_FS_r S', rd_FT_A T' _, rfl, Or.inl ⟨rfl, rd_H_G g2, by omega⟩⟩
    · rw [g1, mm_cI_ok, mm_br_t rfl, mm_bz0]
      exact ⟨S', _, rd_FS_r S', rd_FT_A T' _, rfl, Or.inr ⟨rfl, rd_X_A g2 _⟩⟩
  · rw [if_neg q, if_neg (show ¬ (decide (S.I 1 5 = 1) && pp_wd (S.A 2) (S.I 1 3) (S.I 1 4) (pp_tx 28)) = true from q), mm_cI_ok, mm_br_t rfl, mm_bz1, m_255]
    exact ⟨S, _, rd_FS_r S, rd_FT_A T _, rfl, Or.inl ⟨rfl, rd_H_G h, by omega⟩⟩
/-- the model, where a demand may stand -/
noncomputable def rd_m2 (E : mm_E) (e B m : Nat) (x1 x2 x3 : Int32) (H : mm_H) : mm_R := mm_cI [] (mm_ev E e 235 [.ref (mm_ad B 101), .ref (E.2.2.1 27)] H) (fun v h => mm_br (v = mm_i 0) (mm_r245_227 E (mm_ev E e) m (mm_ad B 101) x1 x2 x3 h) (mm_cV [] (mm_ev E e 236 [.ref (mm_ad B 101)] h) (fun h => mm_r245_198 E (mm_ev E e) m (mm_ad B 101) x1 x2 x3 h)))
theorem rd_m2b {m : Nat} {x1 x2 x3 : Int32} (hE : pp_OE E B) (h : rd_M T) (hb : T.I 101 32 ≠ 0) (hd : 1 ≤ e) : rd_m2 E e B (m + 2) x1 x2 x3 (mm_hp B T c) = mm_oV (mm_hp B (T.sA 103 (mm_u (T.A 103) 0 (T.A 103 0 + 1))) c) := by
  unfold rd_m2
  rw [rd_isWb hE h hb hd (by omega), mm_cI_ok, mm_br_t rfl]
  exact m_227b hE h hb hd
theorem rd_p2 (hE : pp_OE E B) (h : rd_H S T) (he : 5 ≤ e) (he' : 5 ≤ e') (n m : Nat) {x1 x2 x3 : Int32} (hx : x3 = mm_i (3 + 7 * T.A 103 0)) : rd_ok B c c' S T (mm_r82_68 E (mm_ev E e) (n + 2) (mm_ad B 96) (mm_hp B S c)) (rd_m2 E e' B (m + 3) x1 x2 x3 (mm_hp B T c')) := by
  have hT := h.1
  have o3 : pp_mo 3 = 99 := by decide
  have o4 : pp_mo 4 = 9999 := by decide
  unfold rd_m2
  rw [rd_isW hE hT (by omega) (by omega), mm_cI_ok, mm_br_b1, mm_e82_68]
  simp (disch := omega) only [mm_ptG]
  rw [c_skipWord hE (by omega) (by omega) hT.1 rd_tx3.2.1 (rd_t32 27 (by omega) (by omega))]
  by_cases q : rd_is S (pp_tx 27) = true
  · rw [if_pos q, if_pos (show (decide (S.I 1 5 = 1) && pp_wd (S.A 2) (S.I 1 3) (S.I 1 4) (pp_tx 27)) = true from q), mm_cI_ok, mm_br_eq (by omega) (by omega) (by omega) (by omega), if_neg (by omega), rd_pas hT.2.1 hT.2.2.1 (by omega), mm_cV_ok, mm_e245_198, show pp_tT S (S.I 1 4) = rd_s S from rfl]
    have hs := rd_H_s h
    refine rd_ok_t (rd_FS_s S) (rd_FT_m T) (rd_H_p hT) ?_
    simp (disch := omega) only [mm_ptM]
    obtain ⟨S1, T1, f1, f2, f3, f4, f5, f6⟩ := rd_step (e := e) (e' := e') hE hs (w := 3) (by omega) (by omega) (by omega) (by omega) c
    rw [o3] at f5
    have f5 := f5 c'
    rw [show (rd_m T).A 103 0 = T.A 103 0 from rfl] at f5 f4
    refine rd_ok_t f1 f2 f3 ?_
    rw [hx, f5]
    simp (disch := omega) only [mm_ptM]
    rcases f6 with ⟨g1, g2⟩ | ⟨g1, g2⟩
    · rw [g1, mm_cI_ok, mm_br_eq (by omega) (by omega) (by omega) (by omega), if_neg (by omega)]
      obtain ⟨S2, T2, k1, k2, k3, k4, k5, k6⟩ := rd_step (e := e) (e' := e') hE g2 (w := 4) (by omega) (by omega) (by omega) (by omega) c
      rw [o4] at k5
      have k5 := k5 c'
      rw [f4] at k5 k4
      refine rd_ok_t k1 k2 k3 ?_
      rw [k5]
      rcases k6 with ⟨l1, l2⟩ | ⟨l1, l2⟩
      · rw [l1, mm_cI_ok, mm_br_eq (by omega) (by omega) (by omega) (by omega), if_neg (by omega)]
        simp (disch := omega) only [mm_ptG]
        exact rd_p3 hE l2 he he' n m (by rw [k4])
      · have b := rd_X_0 l2
        rw [l1, mm_cI_ok, mm_br_t rfl, mm_bz0, m_227b hE b.1 b.2 (by omega)]
        exact ⟨S2, _, rd_FS_r S2, rd_FT_A T2 _, rfl, Or.inr ⟨rfl, rd_X_A l2 _⟩⟩
    · have h3 := h.2.2.1
      have g3 := rd_X_A g2 (mm_u (T1.A 103) (3 + 7 * T.A 103 0 + 4) 0)
      have b := rd_X_0 g3
      rw [rd_stepb g2 (by omega) (by omega) (by omega) h3 (by omega), g1, mm_cI_ok, mm_br_t rfl, mm_bz0, m_227b hE b.1 b.2 (by omega)]
      exact ⟨S1, _, rd_FS_r S1, rd_FT_t (rd_FT_A T1 _) (rd_FT_A _ _), rfl, Or.inr ⟨rfl, rd_X_A g3 _⟩⟩
  · rw [if_neg q, if_neg (show ¬ (decide (S.I 1 5 = 1) && pp_wd (S.A 2) (S.I 1 3) (S.I 1 4) (pp_tx 27)) = true from q), mm_cI_ok, mm_br_t rfl]
    simp (disch := omega) only [mm_ptG]
    exact rd_p3 hE h he he' n (m + 1) hx
theorem rd_p1 (hE : pp_OE E B) (h : rd_H S T) (he : 5 ≤ e) (he' : 5 ≤ e') (n m : Nat) {x1 x2 x3 : Int32} (hx : x3 = mm_i (3 + 7 * T.A 103 0)) : rd_ok B c c' S T (mm_r82_48 E (mm_ev E e) (n + 3) (mm_ad B 96) (mm_hp B S c)) (mm_r245_156 E (mm_ev E e') (m + 4) (mm_ad B 101) x1 x2 x3 (mm_hp B T c')) := by
  have hT := h.1
  have o2 : pp_mo 2 = 9 := by decide
  rw [mm_e245_156, rd_isW hE hT (by omega) (by omega), mm_cI_ok, mm_br_b1, mm_e82_48]
  simp (disch := omega) only [mm_ptG]
  rw [c_skipWord hE (by omega) (by omega) hT.1 rd_tx3.1 (rd_t32 26 (by omega) (by omega))]
  by_cases q : rd_is S (pp_tx 26) = true
  · rw [if_pos q, if_pos (show (decide (S.I 1 5 = 1) && pp_wd (S.A 2) (S.I 1 3) (S.I 1 4) (pp_tx 26)) = true from q), mm_cI_ok, mm_br_eq (by omega) (by omega) (by omega) (by omega), if_neg (by omega), rd_pas hT.2.1 hT.2.2.1 (by omega), mm_cV_ok, show pp_tT S (S.I 1 4) = rd_s S from rfl]
    have hs := rd_H_s h
    refine rd_ok_t (rd_FS_s S) (rd_FT_m T) (rd_H_p hT) ?_
    simp (disch := omega) only [mm_ptM]
    obtain ⟨S1, T1, f1, f2, f3, f4, f5, f6⟩ := rd_step (e := e) (e' := e') hE hs (w := 2) (by omega) (by omega) (by omega) (by omega) c
    rw [o2] at f5
    have f5 := f5 c'
    rw [show (rd_m T).A 103 0 = T.A 103 0 from rfl] at f5 f4
    refine rd_ok_t f1 f2 f3 ?_
    rw [hx, f5]
    rcases f6 with ⟨g1, g2⟩ | ⟨g1, g2⟩
    · rw [g1, mm_cI_ok, mm_br_eq (by omega) (by omega) (by omega) (by omega), if_neg (by omega)]
      exact rd_p2 hE g2 he he' n m (by rw [f4])
    · have b := rd_X_0 g2
      have z := rd_m2b (E := E) (e := e') (B := B) (T := T1) (c := c') (m := m + 1) (x1 := x1) (x2 := x2) (x3 := mm_i (3 + 7 * T.A 103 0)) hE b.1 b.2 (by omega)
      unfold rd_m2 at z
      rw [g1, mm_cI_ok, mm_br_t rfl, mm_bz0, z]
      exact ⟨S1, _, rd_FS_r S1, rd_FT_A T1 _, rfl, Or.inr ⟨rfl, rd_X_A g2 _⟩⟩
  · rw [if_neg q, if_neg (show ¬ (decide (S.I 1 5 = 1) && pp_wd (S.A 2) (S.I 1 3) (S.I 1 4) (pp_tx 26)) = true from q), mm_cI_ok, mm_br_t rfl]
    exact rd_p2 hE h he he' n m hx
end
