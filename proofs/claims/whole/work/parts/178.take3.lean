/-! TAKE BEST -/
section
variable {E : mm_E} {d B : Nat} {S : mm_S} {k : Nat}
theorem i_take2 (h : iv S k) (hd : 23 ≤ d) : iv_ok0 E B d S k 114 [.ref (mm_ad B 0), .int (mm_i 2)] 190 [.ref (mm_ad B 101), .int (mm_i 2)] := by
  intro c
  have nn := iv_nn h
  have eN := iv_N h
  have hR := h.2.1.1
  obtain ⟨e, rfl⟩ : ∃ e, d = e + 1 := ⟨d - 1, by omega⟩
  obtain ⟨F, hF, he⟩ := mm_w114 E e B S c (mm_i 2)
  obtain ⟨T1, v, a1, a2, a3, a4⟩ := iv_cL (E := E) (d := e) (B := B) (by omega) hR h.2.1.2.1 h.2.1.2.2 c
  have r := iv_bp_r E S hR a2
  have i1 := iv_FR h a1
  have b1 := bb_BS_lx hR h.2.1.2.1 h.2.1.2.2 a4
  rw [mm_e114_0, mm_br_lt (by omega) (by omega) (by omega) (by omega), mm_br_le (by omega) (by omega) (by omega) (by omega), if_neg (by omega), if_pos (by omega), mm_br_t rfl] at he
  simp (disch := omega) only [mm_ptP] at he
  rw [a3, mm_cI_ok, mm_br_eq (by omega) (by omega) (by omega) (by omega)] at he
  by_cases v1 : v = -1
  · rw [if_pos v1] at he
    obtain ⟨G, hG, ge⟩ := mm_w190 E e B T1 c (mm_i 2)
    obtain ⟨U, w, u1, u2, u3, u4⟩ := iv_mL (E := E) (d := e) (B := B) (S := T1.sI 101 0 0) (f := T1.A 102) (by omega) rfl i1.2.1.1 c
    rw [a1.2.1 102 (by omega) (by omega)] at u2
    have ew := iv_bp_one a2 u2
    refine ⟨T1, U, -1, he, ?_, iv_up (iv_PG (iv_sc i1 0) u1) (by omega)⟩
    rw [ge, mm_e190_0]
    simp (disch := omega) only [mm_ptM]
    rw [iv_MI (by omega) ⟨by omega, by omega⟩ (by omega) (by omega), if_pos (by omega), mm_br_t trivial, u4, mm_cI_ok, ← ew, mm_br_eq (by omega) (by omega) (by omega) (by omega), if_pos v1]
  · obtain ⟨t, t1, t2, t3⟩ := b1.2 v1
    have v0 : 0 ≤ v ∧ v ≤ 1000000000 := by rcases r with g | g <;> omega
    have n1 : T1.I 3 10 = S.I 3 10 := by rw [a1.1]
    have tb := c_takeBest (E := E) (d := e) (B := B) (S := T1) (c := c) (n := S.A 102 0) (v := v) (t := t) (by omega) (fun u u0 => bb_dg_r hR h.2.1.2.1 h.2.1.2.2 t1.1 u0) v0 t2 t3 (by omega)
    have s8 : T1.A 8 = S.A 8 := a1.2.1 8 (by omega) (by omega)
    rw [n1, s8] at tb
    rw [if_neg v1, mm_br_eq (by omega) (by omega) (by omega) (by omega), if_neg (by omega), mm_br_t trivial, tb, mm_cV_ok] at he
    obtain ⟨T, hT⟩ : ∃ T, T = T1.sA 8 (pp_fl (bb_dg (S.A 102 0) t) (S.A 8) (S.I 3 10)) := ⟨_, rfl⟩
    rw [← hT] at he
    have tI : ∀ x k, iv_rI x k → T.I x k = S.I x k := fun x k _ => by rw [hT]; show T1.I x k = _; rw [a1.1]
    have tA : ∀ x, iv_rA x → x ≠ 8 → T.A x = S.A x := fun x hx x8 => by
      unfold iv_rA at hx
      rw [hT, mm_gA_ne x8]
      exact a1.2.1 x (by omega) (by omega)
    have t8 : T.A 8 = pp_fl (bb_dg (S.A 102 0) t) (S.A 8) (S.I 3 10) := by rw [hT]; exact mm_gs.2.2.2.2.2.2.2.2.1 _ _ _
    have t102 : T.A 102 = S.A 102 := tA 102 (by unfold iv_rA; omega) (by omega)
    have t105 : T.A 105 = S.A 105 := tA 105 (by unfold iv_rA; omega) (by omega)
    obtain ⟨G, hG, ge⟩ := mm_w190 E e B T c (mm_i 2)
    obtain ⟨U1, w, u1, u2, u3, u4⟩ := iv_mL (E := E) (d := e) (B := B) (S := T.sI 101 0 0) (f := S.A 102) (by omega) t102 hR c
    have ew := iv_bp_one a2 u2
    obtain ⟨U, w1, w2, w3, w4, w5, w6⟩ := m_layBest (E := E) (d := e) (B := B) (c := c) (S := U1) (f := S.A 102) (by omega) (by rw [u1.2.2.2 102 (by omega)]; exact t102) hR (bb_RS_of hR h.2.1.2.1 h.2.1.2.2) t1
    have u105 : U1.A 105 = S.A 105 := by rw [u1.2.2.2 105 (by omega)]; exact t105
    rw [u105] at w5
    have hS := bb_RS_of hR h.2.1.2.1 h.2.1.2.2
    obtain ⟨f1, y, f2, f3⟩ := iv_tkF (E := E) (d := e) (B := B) (T := T) (U := U) h (by omega) (mm_i 2) tI tA (fun x k hx => by
      unfold iv_rI at hx
      rw [w1 x k (by omega), u1.1 x k (by omega)]
      exact mm_gI_ne (by omega)) (fun x hx x5 => by
      unfold iv_rA at hx
      rw [w4 x x5 (by omega), u1.2.2.2 x (by omega)]
      rfl) (fun s s0 s1 => by
      rw [t8, pp_fl_in s0 s1]
      unfold bb_dg
      rw [if_pos (by omega)]
      have z1 := (t1.1 s s0 (by omega)).1
      have z2 := bb_F_le hS t1.1 s s0 (by omega)
      have z3 := (hS.2.2.1 s s0 (by omega)).1.2
      omega) (fun s s1 => by rw [t8]; exact pp_fl_out (by omega)) (fun s s0 s1 => by
      rw [t8, w5, pp_fl_in s0 s1, pp_fl_in s0 (by omega)]
      unfold bb_dg
      rw [if_pos (by omega)]) (fun s s1 => by rw [w5]; exact pp_fl_out (by omega))
    refine ⟨T, U, y, he.trans (f2 _ _), ?_, iv_up f1 (by omega)⟩
    rw [ge, mm_e190_0]
    simp (disch := omega) only [mm_ptM]
    rw [iv_MI (by omega) ⟨by omega, by omega⟩ (by omega) (by omega), if_pos (by omega), mm_br_t trivial, u4, mm_cI_ok, ← ew, mm_br_eq (by omega) (by omega) (by omega) (by omega), if_neg v1, mm_br_eq (by omega) (by omega) (by omega) (by omega), if_neg (by omega), mm_br_eq (by omega) (by omega) (by omega) (by omega), if_neg (by omega), mm_e190_71, mm_br_t rfl, w6, mm_cV_ok]
    exact f3 _ _ _
theorem i_take (h : iv S k) (hd : 23 ≤ d) {x : Int} (hx : iv_n x) : iv_ok0 E B d S k 114 [.ref (mm_ad B 0), .int (mm_i x)] 190 [.ref (mm_ad B 101), .int (mm_i x)] := by
  have x1 := hx.1
  have x2 := hx.2
  by_cases q : 0 ≤ x ∧ x ≤ 3
  · by_cases z : x = 2
    · rw [z]; exact i_take2 h hd
    · exact i_take1 h (by omega) q z
  · intro c
    refine ⟨S, S.sI 101 0 0, -1, mm_v114 (by omega) (fun F e hF he => ?_), mm_v190 (by omega) (fun F e hF he => ?_), iv_up (iv_sc h 0) (by omega)⟩
    · rw [mm_e114_0, mm_br_lt (by omega) (by omega) (by omega) (by omega), mm_br_le (by omega) (by omega) (by omega) (by omega)]
      by_cases z : x < 0
      · rw [if_pos z]
      · rw [if_neg z, if_neg (by omega)]
    · rw [mm_e190_0]
      simp (disch := omega) only [mm_ptM]
      rw [iv_MI (by omega) hx (by omega) (by omega), if_neg q]
end
