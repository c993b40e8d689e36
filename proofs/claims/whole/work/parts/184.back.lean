/-! BACK -/
section
variable {E : mm_E} {d B : Nat} {S : mm_S} {k : Nat}
theorem i_back (h : iv S k) (hd : 7 ≤ d) : iv_ok0 E B d S k 131 [.ref (mm_ad B 0)] 227 [.ref (mm_ad B 101)] := by
  intro c
  have nn := iv_nn h
  obtain ⟨k1, k2, k3⟩ := h.2.2.2.1
  have hs := h.2.2.2.2.2.2.2.2.2.1
  obtain ⟨e, rfl⟩ : ∃ e, d = e + 1 := ⟨d - 1, by omega⟩
  obtain ⟨F, hF, he⟩ := mm_w131 E e B S c
  rw [mm_e131_0] at he
  simp (disch := omega) only [mm_ptP, mm_br_eq, mm_bz0, mm_bz1] at he
  by_cases q : S.I 0 12 = 0
  · rw [if_pos q] at he
    refine ⟨S, S.sI 101 0 0, 0, he, mm_v227 (by omega) (fun F e hF he => ?_), iv_up (iv_sc h 0) (by omega)⟩
    have z : (S.sI 101 0 0).I 101 24 = 0 := by rw [mm_gI_ne (by omega), k2, q]
    rw [mm_e227_0]
    simp (disch := omega) only [mm_ptM]
    rw [z, mm_br_t rfl, mm_bz_i (by omega) (by omega)]
  · have q1 : S.I 0 12 = 1 := by omega
    obtain ⟨hR, hQ, hD⟩ := k3 q1
    have h2 := h.2.2.2.2.2.2.2.2.2.2.2 q1
    have m := hR.1
    rw [if_neg q] at he
    obtain ⟨T1, t1, t2, t3, t4, t5, t6, t7, t8, t9, t10, t11, t12, t13⟩ := c_become (E := E) (d := e) (B := B) (c := c) (S := S) (a := 3) (b := 25) (by omega) (by omega) (by omega) (by omega) (pp_EQ_NK hR hQ) (pp_EQ_GK hR hQ) h.2.1.2.2.2.2.2.2.2.2.2
    rw [t13, mm_cV_ok] at he
    simp (disch := omega) only [mm_ptP] at he
    rw [c_forget (by omega), mm_cV_ok] at he
    obtain ⟨T, hT⟩ : ∃ T, T = T1.sI 36 3 0 := ⟨_, rfl⟩
    rw [← hT] at he
    have TA : T.A = T1.A := by rw [hT]; rfl
    have TI : ∀ x k, ¬ (x = 36 ∧ k = 3) → T.I x k = T1.I x k := fun x k hx => by rw [hT]; exact mm_gI_ne hx
    obtain ⟨G, hG, ge⟩ := mm_w227 E e B T c
    have z : (T.sI 101 0 0).I 101 24 = 1 := by rw [mm_gI_ne (by omega), TI 101 24 (by omega), t9 101 24 (by omega), k2, q1]
    rw [mm_e227_0] at ge
    simp (disch := omega) only [mm_ptM] at ge
    rw [z, mm_br_eq (by omega) (by omega) (by omega) (by omega), if_neg (by omega)] at ge
    rw [m_copy (n := 190) (by omega) rfl rfl (by omega) (by omega), mm_cV_ok] at ge
    simp (disch := omega) only [mm_ptM] at ge
    rw [m_copy (n := 12) (by omega) rfl rfl (by omega) (by omega), mm_cV_ok] at ge
    simp (disch := omega) only [mm_ptM] at ge
    rw [m_copy (n := 480) (by omega) rfl rfl (by omega) (by omega), mm_cV_ok, mm_e227_47] at ge
    simp (disch := omega) only [mm_ptM, mm_bz1] at ge
    obtain ⟨U, hU⟩ : ∃ U, U = ((((T.sI 101 0 0).sA 102 (pp_fl (T.A 119) (T.A 102) 190)).sA 105 (pp_fl (T.A 120) (T.A 105) 12)).sA 106 (pp_fl (T.A 121) (T.A 106) 480)).sI 101 4 0 := ⟨_, rfl⟩
    have ge : mm_ev E (e + 1) 227 [.ref (mm_ad B 101)] (mm_hp B T c) = mm_oI 1 (mm_hp B U c) := by rw [hU]; exact ge
    have uI : ∀ x k, ¬ (x = 36 ∧ k = 3) → ¬ (x = 101 ∧ (k = 0 ∨ k = 4)) → U.I x k = T1.I x k := fun x k hx hy => by
      rw [hU]
      show ((T.sI 101 0 0).sI 101 4 0).I x k = _
      rw [mm_gI_ne (by omega), mm_gI_ne (by omega)]
      exact TI x k hx
    have uA : ∀ x, x ≠ 102 → x ≠ 105 → x ≠ 106 → U.A x = T1.A x := fun x h1 h2 h3 => by
      rw [hU]
      show ((((T.sI 101 0 0).sA 102 _).sA 105 _).sA 106 _).A x = _
      rw [mm_gA_ne h3, mm_gA_ne h2, mm_gA_ne h1, ← TA]
      rfl
    have y19 : T.A 119 = S.A 119 := by rw [TA]; exact t12 119 (by omega)
    have y20 : T.A 120 = S.A 120 := by rw [TA]; exact t12 120 (by omega)
    have y21 : T.A 121 = S.A 121 := by rw [TA]; exact t12 121 (by omega)
    have u102 : U.A 102 = pp_fl (S.A 119) (T.A 102) 190 := by rw [hU, ← y19]; rfl
    have u105 : U.A 105 = pp_fl (S.A 120) (T.A 105) 12 := by rw [hU, ← y20]; rfl
    have u106 : U.A 106 = pp_fl (S.A 121) (T.A 106) 480 := by rw [hU, ← y21]; rfl
    have row : ∀ i : Int, 0 ≤ i → i < 190 → U.A 102 i = S.A 119 i := fun i i0 i1 => by rw [u102]; exact pp_fl_in i0 i1
    have n10 : U.I 3 10 = S.I 25 10 := by rw [uI 3 10 (by omega) (by omega)]; exact t2
    have n11 : U.I 3 11 = S.I 25 11 := by rw [uI 3 11 (by omega) (by omega)]; exact t3
    have n12 : U.I 3 12 = S.I 3 12 + 1 := by rw [uI 3 12 (by omega) (by omega)]; exact t4
    have qE : pp_EQ U 3 (S.A 119) := by
      refine ⟨by rw [n10]; exact hQ.1, by rw [n11]; exact hQ.2.1, fun s s0 s1 => ?_, fun s w s0 s1 w0 w1 => ?_, fun s s0 s1 => ?_, fun s i s0 s1 i0 i1 => ?_, fun s i s0 s1 i0 i1 => ?_⟩
      · have z := t7 s s0 s1
        rw [uA (3 + 3) (by omega) (by omega) (by omega), uA (3 + 4) (by omega) (by omega) (by omega), z.1, z.2.1]
        exact hQ.2.2.1 s s0 s1
      · rw [uA (3 + 1) (by omega) (by omega) (by omega), t5 (s * 7 + w) (by omega) (by omega)]
        exact hQ.2.2.2.1 s w s0 s1 w0 w1
      · rw [uA (3 + 1) (by omega) (by omega) (by omega)]
        exact t1.1.2.2.2.2 s s0 s1
      · rw [uA (3 + 2) (by omega) (by omega) (by omega), t6 (s * 6 + i) (by omega) (by omega)]
        exact hQ.2.2.2.2.2.1 s i s0 s1 i0 i1
      · rw [uA (3 + 2) (by omega) (by omega) (by omega), t6 (s * 6 + i) (by omega) (by omega)]
        exact hQ.2.2.2.2.2.2 s i s0 s1 i0 i1
    have qT : pp_NT U 3 := by
      unfold pp_NT pp_NK pp_GK at t1 ⊢
      rw [uI 3 10 (by omega) (by omega), uI 3 11 (by omega) (by omega), uA (3 + 1) (by omega) (by omega) (by omega), uA (3 + 3) (by omega) (by omega) (by omega), uA (3 + 4) (by omega) (by omega) (by omega), uA (3 + 7) (by omega) (by omega) (by omega), uA (3 + 8) (by omega) (by omega) (by omega), uA (3 + 9) (by omega) (by omega) (by omega), uA (3 + 10) (by omega) (by omega) (by omega)]
      exact t1
    have ac := h.2.2.2.2.2.1
    have u363 : U.I 36 3 = 0 := by
      rw [hU]
      show ((T.sI 101 0 0).sI 101 4 0).I 36 3 = _
      rw [mm_gI_ne (by omega), mm_gI_ne (by omega), hT]
      exact mm_gs.1 _ _ _ _
    have u364 : U.I 36 4 = S.I 36 4 := by rw [uI 36 4 (by omega) (by omega)]; exact t9 36 4 (by omega)
    have u4 : U.I 101 4 = 0 := by rw [hU]; exact mm_gs.1 _ _ _ _
    refine ⟨T, U, 1, he, ge, iv_net h (fun x k hx hn => ?_) (fun x hx hn => ?_) ⟨iv_RO_c row hR, iv_EQ_c row hR qE, qT⟩ ?_ ⟨by rw [u4, u363], by rw [u363]; omega, by rw [u364]; exact ac.2.2.1, fun r r0 r1 => by omega⟩ (by omega) (iv_R2_c row hR h2)⟩
    · unfold iv_rI at hx
      unfold iv_nI at hn
      rw [uI x k (by omega) (by omega)]
      exact t9 x k (by omega)
    · unfold iv_rA at hx
      unfold iv_nA at hn
      rw [uA x (by omega) (by omega) (by omega)]
      exact t12 x (by omega)
    · rw [n10, u105, u106, uA 8 (by omega) (by omega) (by omega), uA 9 (by omega) (by omega) (by omega)]
      refine ⟨fun s s0 s1 => ?_, fun i i0 i1 => ?_⟩
      · have z := (t7 s s0 s1).2.2
        have z : T1.A 8 s = S.A 30 s := z
        rw [pp_fl_in s0 s1, z]
        exact hD.1 s s0 s1
      · have z := t8 i i0 i1
        have z : T1.A 9 i = S.A 31 i := z
        rw [pp_fl_in i0 i1, z]
        exact hD.2 i i0 i1
end
