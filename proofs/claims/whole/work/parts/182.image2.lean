/-! IMAGE, both sides -/
section
variable {E : mm_E} {d B : Nat} {S : mm_S} {k : Nat}
theorem i_image (h : iv S k) (hd : 7 ≤ d) : iv_okV E B d S k 130 [.ref (mm_ad B 0)] 226 [.ref (mm_ad B 101)] := by
  intro c
  have nn := iv_nn h
  have eN := iv_N h
  have hR := h.2.1.1
  have hQ := h.2.1.2.1
  obtain ⟨e, rfl⟩ : ∃ e, d = e + 1 := ⟨d - 1, by omega⟩
  obtain ⟨F, hF, he⟩ := mm_w130 E e B S c
  obtain ⟨T1, t1, t2, t3, t4, t5, t6, t7, t8, t9, t10, t11, t12, t13⟩ := c_become (E := E) (d := e) (B := B) (c := c) (S := S) (a := 25) (b := 3) (by omega) (by omega) (by omega) (by omega) h.2.1.2.2.1 h.2.1.2.2.2.1 (fun s s0 s1 => (h.2.2.2.2.1 s s0 s1).2.2)
  rw [mm_e130_0] at he
  simp (disch := omega) only [mm_ptP] at he
  rw [t13, mm_cV_ok, mm_bz_i (by omega) (by omega)] at he
  simp (disch := omega) only [mm_ptP] at he
  obtain ⟨T, hT⟩ : ∃ T, T = T1.sI 0 12 1 := ⟨_, rfl⟩
  rw [← hT] at he
  have TA : T.A = T1.A := by rw [hT]; rfl
  have TI : ∀ x k, ¬ (x = 0 ∧ k = 12) → T.I x k = T1.I x k := fun x k hx => by rw [hT]; exact mm_gI_ne hx
  obtain ⟨G, hG, ge⟩ := mm_w226 E e B T c
  rw [mm_e226_0] at ge
  simp (disch := omega) only [mm_ptM] at ge
  rw [mm_bz_i (by omega) (by omega)] at ge
  rw [m_copy (n := 190) (by omega) rfl rfl (by omega) (by omega), mm_cV_ok] at ge
  simp (disch := omega) only [mm_ptM] at ge
  rw [m_copy (n := 12) (by omega) rfl rfl (by omega) (by omega), mm_cV_ok] at ge
  simp (disch := omega) only [mm_ptM] at ge
  rw [m_copy (n := 480) (by omega) rfl rfl (by omega) (by omega), mm_cV_ok] at ge
  obtain ⟨U, hU⟩ : ∃ U, U = ((((T.sI 101 0 0).sI 101 24 1).sA 119 (pp_fl (T.A 102) (T.A 119) 190)).sA 120 (pp_fl (T.A 105) (T.A 120) 12)).sA 121 (pp_fl (T.A 106) (T.A 121) 480) := ⟨_, rfl⟩
  have ge : mm_ev E (e + 1) 226 [.ref (mm_ad B 101)] (mm_hp B T c) = mm_oV (mm_hp B U c) := by rw [hU]; exact ge
  have uI : ∀ x k, ¬ (x = 0 ∧ k = 12) → ¬ (x = 101 ∧ (k = 0 ∨ k = 24)) → U.I x k = T1.I x k := fun x k hx hy => by
    rw [hU]
    show ((T.sI 101 0 0).sI 101 24 1).I x k = _
    rw [mm_gI_ne (by omega), mm_gI_ne (by omega)]
    exact TI x k hx
  have uA : ∀ x, ¬ (119 ≤ x ∧ x ≤ 121) → U.A x = T1.A x := fun x hx => by
    rw [hU, mm_gA_ne (by omega), mm_gA_ne (by omega), mm_gA_ne (by omega), ← TA]
    rfl
  have u119 : U.A 119 = pp_fl (S.A 102) (T.A 119) 190 := by
    have z : T.A 102 = S.A 102 := by rw [TA]; exact t12 102 (by omega)
    rw [hU, ← z]
    rfl
  have u120 : U.A 120 = pp_fl (S.A 105) (T.A 120) 12 := by
    have z : T.A 105 = S.A 105 := by rw [TA]; exact t12 105 (by omega)
    rw [hU, ← z]
    rfl
  have u121 : U.A 121 = pp_fl (S.A 106) (T.A 121) 480 := by
    have z : T.A 106 = S.A 106 := by rw [TA]; exact t12 106 (by omega)
    rw [hU, ← z]
    rfl
  have u12 : U.I 0 12 = 1 := by
    rw [hU]
    show ((T.sI 101 0 0).sI 101 24 1).I 0 12 = _
    rw [mm_gI_ne (by omega), mm_gI_ne (by omega), hT]
    exact mm_gs.1 _ _ _ _
  have u24 : U.I 101 24 = 1 := by rw [hU]; exact mm_gs.1 _ _ _ _
  have row : ∀ i : Int, 0 ≤ i → i < 190 → U.A 119 i = S.A 102 i := fun i i0 i1 => by rw [u119]; exact pp_fl_in i0 i1
  have q25 : pp_EQ U 25 (S.A 102) := by
    have n10 : U.I 25 10 = S.I 3 10 := by rw [uI 25 10 (by omega) (by omega)]; exact t2
    have n11 : U.I 25 11 = S.I 3 11 := by rw [uI 25 11 (by omega) (by omega)]; exact t3
    refine ⟨by rw [n10]; exact hQ.1, by rw [n11]; exact hQ.2.1, fun s s0 s1 => ?_, fun s w s0 s1 w0 w1 => ?_, fun s s0 s1 => ?_, fun s i s0 s1 i0 i1 => ?_, fun s i s0 s1 i0 i1 => ?_⟩
    · have z := t7 s s0 s1
      rw [uA (25 + 3) (by omega), uA (25 + 4) (by omega), z.1, z.2.1]
      exact hQ.2.2.1 s s0 s1
    · rw [uA (25 + 1) (by omega), t5 (s * 7 + w) (by omega) (by omega)]
      exact hQ.2.2.2.1 s w s0 s1 w0 w1
    · rw [uA (25 + 1) (by omega)]
      exact t1.1.2.2.2.2 s s0 s1
    · rw [uA (25 + 2) (by omega), t6 (s * 6 + i) (by omega) (by omega)]
      exact hQ.2.2.2.2.2.1 s i s0 s1 i0 i1
    · rw [uA (25 + 2) (by omega), t6 (s * 6 + i) (by omega) (by omega)]
      exact hQ.2.2.2.2.2.2 s i s0 s1 i0 i1
  refine ⟨T, U, he, ge, iv_up (iv_kp h (fun x k hx hn => ?_) (fun x hx hn => ?_) ⟨Or.inr u12, by rw [u24, u12], fun _ => ⟨iv_RO_c row hR, iv_EQ_c row hR q25, ?_⟩⟩ (fun s s0 s1 => ?_) (fun _ => iv_R2_c row hR h.2.2.2.2.2.2.2.2.2.2.1)) (by omega)⟩
  · unfold iv_rI at hx
    unfold iv_kI at hn
    rw [uI x k (by omega) (by omega)]
    exact t9 x k (by omega)
  · unfold iv_rA at hx
    unfold iv_kA at hn
    rw [uA x (by omega)]
    exact t12 x (by omega)
  · have n10 : U.I 25 10 = S.I 3 10 := by rw [uI 25 10 (by omega) (by omega)]; exact t2
    rw [n10, u120, u121, uA 30 (by omega), uA 31 (by omega)]
    refine ⟨fun s s0 s1 => ?_, fun i i0 i1 => ?_⟩
    · have z := (t7 s s0 s1).2.2
      have z : T1.A 30 s = S.A 8 s := z
      rw [pp_fl_in s0 s1, z]
      exact h.2.2.1.1 s s0 s1
    · have z := t8 i i0 i1
      have z : T1.A 31 i = S.A 9 i := z
      rw [pp_fl_in i0 i1, z]
      exact h.2.2.1.2 i i0 i1
  · rw [uA 35 (by omega)]
    exact t1.2.2.2.2.2.2.2 s s0 s1
end
