/-! UNDO, both -/
section
variable {E : mm_E} {d B : Nat} {S : mm_S} {k : Nat} {c : mm_N}
theorem l_undo {cl : mm_F} {g : Int → Int} (h0 : 0 ≤ S.I 101 4) (h1 : S.I 101 4 < 20) (hg : ∀ i : Int, 0 ≤ i → i < 190 → g i = S.A 104 (190 * S.I 101 4 + i)) : ∀ (j k n : Nat), k + j = 190 → j < n → ∃ m, n ≤ m + j ∧ mm_r178_26 E cl n (mm_ad B 101) (mm_i k) (mm_hp B (S.sA 102 (pp_fl g (S.A 102) k)) c) = mm_r178_26 E cl m (mm_ad B 101) (mm_i 190) (mm_hp B (S.sA 102 (pp_fl g (S.A 102) 190)) c) := by
  intro j
  induction j with
  | zero =>
    intro k n hk hn
    obtain rfl : k = 190 := by omega
    exact ⟨n, by omega, rfl⟩
  | succ j ih =>
    intro k n hk hn
    obtain ⟨n, rfl⟩ : ∃ q, n = q + 1 := ⟨n - 1, by omega⟩
    obtain ⟨m, q0, q1⟩ := ih (k + 1) n (by omega) (by omega)
    refine ⟨m, by omega, ?_⟩
    rw [Int.natCast_add, Int.natCast_one] at q1
    rw [← q1, mm_e178_26]
    simp (disch := omega) only [mm_br_le]
    rw [if_neg (by omega)]
    simp (disch := omega) only [mm_ptM, mm_gs, mm_hm]
    simp (disch := omega) only [mm_ptM, mm_gs, mm_hm, mm_gA_ne]
    rw [← hg k (by omega) (by omega), pp_fl_st (by omega)]
theorem i_undo (h : iv S k) (hd : 6 ≤ d) : iv_ok0 E B d S k 113 [.ref (mm_ad B 0)] 178 [.ref (mm_ad B 101)] := by
  have nn := iv_nn h
  have eN := iv_N h
  have hR := h.2.1.1
  have hQ := h.2.1.2.1
  have h2 := h.2.2.2.2.2.2.2.2.2.2.1
  have tD := h.2.2.1
  obtain ⟨c1, c2, c3, c4⟩ := h.2.2.2.2.2.1
  obtain ⟨e, rfl⟩ : ∃ e, d = e + 1 := ⟨d - 1, by omega⟩
  intro c
  by_cases q : S.I 36 3 = 0
  · refine ⟨S, S.sI 101 0 0, -1, mm_v113 (by omega) (fun F e' hF he => ?_), mm_v178 (by omega) (fun F e' hF he => ?_), iv_up (iv_sc h 0) (by omega)⟩
    · rw [mm_e113_0]
      simp (disch := omega) only [mm_ptP, mm_ptA, mm_br_eq]
      rw [if_pos q]
    · have z : (S.sI 101 0 0).I 101 4 = S.I 36 3 := by rw [mm_gI_ne (by omega)]; exact c1
      rw [mm_e178_0]
      simp (disch := omega) only [mm_ptM]
      rw [z, mm_br_eq (by omega) (by omega) (by omega) (by omega), if_pos q]
  · obtain ⟨sl, hsl⟩ : ∃ sl : Int, sl = (if S.I 36 4 = 0 then 19 else S.I 36 4 - 1) := ⟨_, rfl⟩
    have sl1 : iv_sl S (S.I 36 3 - 1) = sl := by
      unfold iv_sl
      by_cases z : S.I 36 4 = 0
      · rw [if_pos z] at hsl; omega
      · rw [if_neg z] at hsl; omega
    have sl2 : 0 ≤ sl ∧ sl < 20 := by
      by_cases z : S.I 36 4 = 0
      · rw [if_pos z] at hsl; omega
      · rw [if_neg z] at hsl; omega
    have z := c4 (S.I 36 3 - 1) (by omega) (by omega)
    rw [if_pos (by omega), sl1] at z
    obtain ⟨hg, hst⟩ := z
    obtain ⟨g, hgd⟩ : ∃ g, g = iv_rw S (S.I 36 3 - 1) := ⟨_, rfl⟩
    rw [← hgd] at hg hst
    have ng := hg.1
    have cl := c_latest (E := E) (d := e) (B := B) (S := S) (c := c) (by omega) (by omega) (by omega) (by omega) (by omega)
    rw [← hsl, show max (S.I 36 3 - 1) 0 = S.I 36 3 - 1 by omega] at cl
    obtain ⟨S1, hS1⟩ : ∃ S1, S1 = (S.sI 36 4 sl).sI 36 3 (S.I 36 3 - 1) := ⟨_, rfl⟩
    rw [← hS1] at cl
    have A1 : ∀ x, S1.A x = S.A x := fun x => by rw [hS1]; rfl
    have I1 : ∀ x k, x ≠ 36 → S1.I x k = S.I x k := fun x k hx => by rw [hS1, mm_gI_ne (by omega), mm_gI_ne (by omega)]
    have Q1 : pp_EQ S1 3 (S.A 102) := iv_EQc (fun k _ => I1 3 k (by omega)) (fun x _ _ => A1 x) hQ
    obtain ⟨V, v1, v2, v3, v4, v5, v6⟩ := iv_tb (E := E) (d := e) (B := B) (S := S1) (c := c) (by omega) hR Q1 hg hst (fun s s0 s1 s2 => by rw [A1]; exact (tD.1 s s0 s1).2.2.2 (by omega)) (fun s s0 s1 s2 => by rw [A1]; exact (tD.2 s s0 s1).2.2.2 (by omega))
    have l13 := iv_13 h
    obtain ⟨T, t1, t2, t3, t4, t5, t6⟩ := iv_setl (E := E) (d := e) (B := B) (S := V) (c := c) (by omega) hg v2 (by
      have y : V.A (3 + 10) = S.A (3 + 10) := by rw [v4 _ (by omega)]; exact A1 _
      rw [y]; exact l13)
    have T36 : T.I 36 3 = S.I 36 3 - 1 := by rw [t5 36 3 (by omega), v3 36 3 (by omega), hS1]; exact mm_gs.1 _ _ _ _
    have T364 : T.I 36 4 = sl := by rw [t5 36 4 (by omega), v3 36 4 (by omega), hS1, mm_gI_ne (by omega)]; exact mm_gs.1 _ _ _ _
    have TI : ∀ x k, x ≠ 3 → x ≠ 36 → T.I x k = S.I x k := fun x k h3 h6 => by rw [t5 x k (by omega), v3 x k (Or.inl h3), I1 x k h6]
    have TA : ∀ x, ¬ (4 ≤ x ∧ x ≤ 13) → T.A x = S.A x := fun x hx => by rw [t6 x (by omega), v4 x (by omega), A1]
    have T12 : T.I 3 12 = S.I 3 12 + 1 := by rw [t4, v3 3 12 (Or.inr rfl), I1 3 12 (by omega)]
    -- the model
    obtain ⟨K, hK⟩ : ∃ K, K = (T.sI 101 0 0).sI 101 4 (S.I 36 3 - 1) := ⟨_, rfl⟩
    have K4 : K.I 101 4 = S.I 36 3 - 1 := by rw [hK]; exact mm_gs.1 _ _ _ _
    have KA : ∀ x, ¬ (4 ≤ x ∧ x ≤ 13) → K.A x = S.A x := fun x hx => by rw [hK]; exact TA x hx
    obtain ⟨F, hF, he⟩ := mm_w178 E e B T c
    obtain ⟨m, m0, m1⟩ := l_undo (E := E) (B := B) (S := K) (c := c) (cl := mm_ev E e) (g := g) (by omega) (by omega) (fun i i0 i1 => by rw [hgd, K4, KA 104 (by omega)]; rfl) 190 0 (F + 99) (by omega) (by omega)
    rw [Int.natCast_zero, pp_fl_0, pp_sA_id] at m1
    obtain ⟨m, rfl⟩ : ∃ q, m = q + 1 := ⟨m - 1, by omega⟩
    obtain ⟨L, hL⟩ : ∃ L, L = K.sA 102 (pp_fl g (K.A 102) 190) := ⟨_, rfl⟩
    rw [← hL] at m1
    have L102 : ∀ i : Int, 0 ≤ i → i < 190 → L.A 102 i = g i := fun i i0 i1 => by rw [hL, mm_gs.2.2.2.2.2.2.2.2.1]; exact pp_fl_in i0 i1
    have LA : ∀ x, x ≠ 102 → ¬ (4 ≤ x ∧ x ≤ 13) → L.A x = S.A x := fun x h1 h2 => by rw [hL, mm_gA_ne h1]; exact KA x h2
    have L0 := L102 0 (by omega) (by omega)
    obtain ⟨t', f', r1, r2, r3, r4, r5⟩ := l_clearAll (E := E) (B := B) (S := L) (c := c) (cl := e) (by omega) (12 - g 0).toNat m (g 0) (L.A 105) (L.A 106) (by omega) (by omega) (by omega)
    have idL : (L.sA 105 (L.A 105)).sA 106 (L.A 106) = L := by
      rw [pp_sA_id, pp_sA_id]
    rw [idL] at r5
    have l4 : L.I 101 4 = S.I 36 3 - 1 := by rw [hL]; exact K4
    obtain ⟨U, hU⟩ : ∃ U, U = (L.sA 105 t').sA 106 f' := ⟨_, rfl⟩
    rw [l4, ← hU] at r5
    have UA : ∀ x, x ≠ 105 → x ≠ 106 → U.A x = L.A x := fun x h5 h6 => by rw [hU, mm_gA_ne h6, mm_gA_ne h5]
    have UI : ∀ x k, ¬ (x = 101 ∧ (k = 0 ∨ k = 4)) → U.I x k = T.I x k := fun x k hx => by
      rw [hU, hL, hK]
      show ((T.sI 101 0 0).sI 101 4 _).I x k = _
      rw [mm_gI_ne (by omega), mm_gI_ne (by omega)]
    have UN : ∀ x, 4 ≤ x → x ≤ 13 → U.A x = T.A x := fun x h1 h2 => by
      rw [UA x (by omega) (by omega), hL, mm_gA_ne (by omega), hK]
      rfl
    have row : ∀ i : Int, 0 ≤ i → i < 190 → U.A 102 i = g i := fun i i0 i1 => by rw [UA 102 (by omega) (by omega)]; exact L102 i i0 i1
    have g0 : T.I 3 10 = g 0 := t3.1
    refine ⟨T, U, S.I 36 3 - 1, mm_v113 (by omega) (fun F e' hF he => ?_), ?_, iv_und h (fun x k hx hn => ?_) (fun x hx hn => ?_) (by omega) ?_ ?_ ?_ ?_ ?_ ?_ ?_ (fun i i0 i1 => by rw [row i i0 i1, hgd]) ⟨iv_RO_c row hg, iv_EQ_c row hg (iv_EQc (fun k hk => UI 3 k (by omega)) UN t3), iv_NTc (fun k hk => UI 3 k (by omega)) UN t2⟩ ?_ ?_ (iv_R2_c row hg (iv_stR2 hg h2 hst))⟩
    · obtain rfl : e = e' := by omega
      rw [mm_e113_0]
      simp (disch := omega) only [mm_ptP, mm_ptA, mm_br_eq]
      rw [if_neg q, cl, mm_cI_ok]
      simp (disch := omega) only [mm_ptP, mm_ptA]
      rw [A1 37, A1 38, A1 39, v1, mm_cV_ok, mm_e113_51]
      simp (disch := omega) only [mm_ptP]
      rw [t1, mm_cV_ok]
      simp (disch := omega) only [mm_ptP, mm_ptA]
      rw [T36]
    · have y : (T.sI 101 0 0).I 101 4 = S.I 36 3 := by rw [mm_gI_ne (by omega), TI 101 4 (by omega) (by omega)]; exact c1
      rw [he, mm_e178_0]
      simp (disch := omega) only [mm_ptM]
      rw [y, mm_br_eq (by omega) (by omega) (by omega) (by omega), if_neg q]
      simp (disch := omega) only [mm_hm, mm_ptM]
      rw [← hK, m1, mm_e178_26]
      simp (disch := omega) only [mm_br_le]
      rw [if_pos (by omega), c_many (by omega), mm_cI_ok, L0, r5]
    · unfold iv_rI at hx
      unfold iv_nI at hn
      rw [UI x k (by omega)]
      exact TI x k (by omega) (by omega)
    · unfold iv_rA at hx
      unfold iv_nA at hn
      rw [UA x (by omega) (by omega)]
      exact LA x (by omega) (by omega)
    · rw [UI 36 3 (by omega)]; exact T36
    · rw [UI 36 4 (by omega), T364, hsl]
    · rw [hU]; exact l4
    · rw [UA 37 (by omega) (by omega)]; exact LA 37 (by omega) (by omega)
    · rw [UA 38 (by omega) (by omega)]; exact LA 38 (by omega) (by omega)
    · rw [UA 39 (by omega) (by omega)]; exact LA 39 (by omega) (by omega)
    · rw [UA 104 (by omega) (by omega)]; exact LA 104 (by omega) (by omega)
    · have u8 : U.A 8 = V.A 8 := by rw [UN 8 (by omega) (by omega), t6 8 (by omega)]
      have u9 : U.A 9 = V.A 9 := by rw [UN 9 (by omega) (by omega), t6 9 (by omega)]
      have u5 : U.A 105 = t' := by rw [hU]; rfl
      have u6 : U.A 106 = f' := by rw [hU]; rfl
      have fg : g 0 ≤ S.I 3 10 := by
        rcases hst with y | y | y | y
        · have y0 := y.2.2.2 0 (by omega) (by omega)
          have y1 := y.1
          have y2 := y.2.1
          rw [if_neg (by omega)] at y0
          omega
        · have y0 := y.2.2 0 (by omega) (by omega)
          rw [if_neg (by omega)] at y0
          omega
        · have := y.2.1; omega
        · have := y.2.1; omega
      rw [UI 3 10 (by omega), g0, u8, u9, u5, u6]
      refine ⟨fun s s0 s1 => ?_, fun s s0 s1 => ?_⟩
      · have y := tD.1 s s0 s1
        rw [v5 s s0 s1, A1 8]
        by_cases w : s < g 0
        · rw [if_pos w, r2 s w, LA 105 (by omega) (by omega)]
          exact ⟨y.1, y.2.1, y.2.2.1, fun w2 => y.2.2.2 (by omega)⟩
        · rw [if_neg w, r1 s (by omega) s1]
          omega
      · have y := tD.2 s s0 s1
        rw [v6 s s0 s1, A1 9]
        by_cases w : s < 40 * g 0
        · rw [if_pos w, r4 s w, LA 106 (by omega) (by omega)]
          exact ⟨y.1, y.2.1, y.2.2.1, fun w2 => by omega⟩
        · rw [if_neg w, r3 s (by omega) s1]
          omega
    · rw [UI 3 12 (by omega), T12]; omega
end
