/-! ACTS: one more is kept, one is taken back -/
theorem iv_st_c {k s w : Int} {f g f' g' : Int → Int} (hf : ∀ i : Int, 0 ≤ i → i < 190 → f' i = f i) (hg : ∀ i : Int, 0 ≤ i → i < 190 → g' i = g i) (hRf : pp_RO f) (hRg : pp_RO g) (h : iv_st k s w f g) : iv_st k s w f' g' := by
  have nf := hRf.1
  have mf := hRf.2.2.1
  have ng := hRg.1
  have mg := hRg.2.2.1
  have f0 := hf 0 (by omega) (by omega)
  have f1 := hf 1 (by omega) (by omega)
  have f2 := hf 2 (by omega) (by omega)
  have g0 := hg 0 (by omega) (by omega)
  have g1 := hg 1 (by omega) (by omega)
  have g2 := hg 2 (by omega) (by omega)
  rcases h with h | h | h | h
  · obtain ⟨h1, h2, h3, h4⟩ := h
    exact Or.inl ⟨h1, by rw [f0]; exact h2, h3, fun i i0 i1 => by rw [hg i i0 i1, h4 i i0 i1, hf i i0 i1]⟩
  · exact Or.inr (Or.inl ⟨h.1, h.2.1, fun i i0 i1 => by rw [hg i i0 i1, h.2.2 i i0 i1, hf i i0 i1]⟩)
  · obtain ⟨h1, h2, h3, h4, h5, h6, h7, h8⟩ := h
    refine Or.inr (Or.inr (Or.inl ⟨h1, by rw [f0, g0]; exact h2, by rw [g1, f1]; exact h3, by rw [f2, g2]; exact h4, fun l l0 l1 => ?_, ?_, fun s w s0 s1 w0 w1 => ?_, fun s w s0 s1 w0 w1 => ?_⟩))
    · rw [g2] at l1
      rw [hf (159 + 2 * l) (by omega) (by omega), hf (159 + 2 * l + 1) (by omega) (by omega), hg (159 + 2 * l) (by omega) (by omega), hg (159 + 2 * l + 1) (by omega) (by omega)]
      exact h5 l l0 l1
    · rw [g2, g0, hf (159 + 2 * g 2) (by omega) (by omega), hf (159 + 2 * g 2 + 1) (by omega) (by omega)]
      exact h6
    · rw [g0] at s1
      rw [hf _ (by omega) (by omega), hg _ (by omega) (by omega)]
      exact h7 s w s0 s1 w0 w1
    · rw [g0] at s1
      rw [hf _ (by omega) (by omega), hg _ (by omega) (by omega)]
      exact h8 s w s0 s1 w0 w1
  · obtain ⟨h1, h2, h3, h4, h5, h6, h7, h8, h9⟩ := h
    have h40 := h4.1
    refine Or.inr (Or.inr (Or.inr ⟨h1, by rw [f0, g0]; exact h2, by rw [g1, f1]; exact h3, ⟨by rw [f2, g2]; exact h4.1, fun l l0 l1 => ?_, ?_, ?_⟩, by rw [g0]; exact h5, by rw [g0]; exact h6, ?_, fun s w s0 s1 w0 w1 => ?_, fun s w s0 s1 w0 w1 => ?_⟩))
    · rw [g2] at l1
      rw [hf (159 + 2 * l) (by omega) (by omega), hf (159 + 2 * l + 1) (by omega) (by omega), hg (159 + 2 * l) (by omega) (by omega), hg (159 + 2 * l + 1) (by omega) (by omega)]
      exact h4.2.1 l l0 l1
    · rw [g2, hf (159 + 2 * g 2) (by omega) (by omega)]; exact h4.2.2.1
    · rw [g2, hf (159 + 2 * g 2 + 1) (by omega) (by omega)]; exact h4.2.2.2
    · rw [mm_sup_cg (f := g) (g := g') g2 (fun l l0 l1 => ⟨hg _ (by omega) (by omega), hg _ (by omega) (by omega)⟩)]; exact h7
    · rw [g0] at s1
      rw [hf _ (by omega) (by omega), hg _ (by omega) (by omega)]
      exact h8 s w s0 s1 w0 w1
    · rw [g0] at s1
      rw [hf _ (by omega) (by omega), hg _ (by omega) (by omega)]
      exact h9 s w s0 s1 w0 w1
theorem iv_act {S T : mm_S} {k : Nat} {kd st ws : Int} (h : iv S k) (hI : ∀ x k, iv_rI x k → ¬ iv_nI x k → T.I x k = S.I x k) (hA : ∀ x, iv_rA x → ¬ iv_nA x → T.A x = S.A x) (e3 : T.I 36 3 = min (S.I 36 3 + 1) 20) (e4 : T.I 36 4 = if S.I 36 4 = 19 then 0 else S.I 36 4 + 1) (e5 : T.I 101 4 = min (S.I 36 3 + 1) 20) (a7 : T.A 37 = mm_u (S.A 37) (S.I 36 4) kd) (a8 : T.A 38 = mm_u (S.A 38) (S.I 36 4) st) (a9 : T.A 39 = mm_u (S.A 39) (S.I 36 4) ws) (p1 : ∀ i : Int, 0 ≤ i → i < 190 → T.A 104 (190 * (min (S.I 36 3 + 1) 20 - 1) + i) = S.A 102 i) (p2 : ∀ r i : Int, 0 ≤ r → r < min (S.I 36 3 + 1) 20 - 1 → 0 ≤ i → i < 190 → T.A 104 (190 * r + i) = S.A 104 (190 * (r + (S.I 36 3 + 1 - min (S.I 36 3 + 1) 20)) + i)) (hst : iv_st kd st ws (T.A 102) (S.A 102)) (hN : iv_NW T) (hD : iv_TD (T.I 3 10) (T.A 8) (T.A 105) (T.A 9) (T.A 106)) (hs : S.I 3 12 < T.I 3 12 ∧ T.I 3 12 ≤ S.I 3 12 + 10) (h2 : iv_R2 (T.A 102)) : iv T (k + 1) := by
  have hk := h.2.2.2.2.2.2.2.2.2.1
  obtain ⟨c1, c2, c3, c4⟩ := h.2.2.2.2.2.1
  have e4' : (S.I 36 4 = 19 ∧ T.I 36 4 = 0) ∨ (S.I 36 4 < 19 ∧ T.I 36 4 = S.I 36 4 + 1) := by
    by_cases q : S.I 36 4 = 19
    · rw [if_pos q] at e4; omega
    · rw [if_neg q] at e4; omega
  refine iv_net h hI hA hN hD ⟨by rw [e5, e3], by rw [e3]; omega, by omega, fun r r0 r1 => ?_⟩ (by omega) h2
  rw [e3] at r1
  obtain ⟨o, ho⟩ : ∃ o, o = S.I 36 3 + 1 - min (S.I 36 3 + 1) 20 := ⟨_, rfl⟩
  rw [← ho] at p2
  have hm : min (S.I 36 3 + 1) 20 = S.I 36 3 + 1 - o := by omega
  have ho1 : (o = 0 ∧ S.I 36 3 < 20) ∨ (o = 1 ∧ S.I 36 3 = 20) := by omega
  rw [hm] at p1 p2 r1 e3
  have sl : iv_sl T r = iv_sl S (r + o) := by unfold iv_sl; rw [e3]; omega
  by_cases q : r = S.I 36 3 - o
  · have row : ∀ i : Int, 0 ≤ i → i < 190 → iv_rw T r i = S.A 102 i := fun i i0 i1 => by
      rw [← p1 i i0 i1]
      unfold iv_rw
      rw [show 190 * r + i = 190 * (S.I 36 3 + 1 - o - 1) + i by omega]
    have sn : iv_sl T r = S.I 36 4 := by rw [sl]; unfold iv_sl; omega
    rw [sn, a7, a8, a9, mm_u_eq, mm_u_eq, mm_u_eq, if_pos (by omega)]
    exact ⟨iv_RO_c row h.2.1.1, iv_st_c (fun _ _ _ => rfl) row hN.1 h.2.1.1 hst⟩
  · have r2 : r < S.I 36 3 - o := by omega
    have row : ∀ i : Int, 0 ≤ i → i < 190 → iv_rw T r i = iv_rw S (r + o) i := fun i i0 i1 => p2 r i r0 (by omega) i0 i1
    have z := c4 (r + o) (by omega) (by omega)
    have sn : iv_sl S (r + o) ≠ S.I 36 4 := by unfold iv_sl; omega
    rw [sl, a7, a8, a9, mm_u_ne sn, mm_u_ne sn, mm_u_ne sn, if_neg (by omega)]
    refine ⟨iv_RO_c row z.1, ?_⟩
    by_cases q2 : r + 1 = S.I 36 3 - o
    · rw [if_pos (by omega)] at z
      refine iv_st_c (fun i i0 i1 => ?_) row h.2.1.1 z.1 z.2
      rw [← p1 i i0 i1]
      unfold iv_rw
      rw [show 190 * (r + 1) + i = 190 * (S.I 36 3 + 1 - o - 1) + i by omega]
    · rw [if_neg (by omega)] at z
      have z2 := c4 (r + o + 1) (by omega) (by omega)
      refine iv_st_c (fun i i0 i1 => ?_) row z2.1 z.1 z.2
      unfold iv_rw
      rw [p2 (r + 1) i (by omega) (by omega) i0 i1, show r + 1 + o = r + o + 1 by omega]
theorem iv_und {S T : mm_S} {k : Nat} (h : iv S k) (hI : ∀ x k, iv_rI x k → ¬ iv_nI x k → T.I x k = S.I x k) (hA : ∀ x, iv_rA x → ¬ iv_nA x → T.A x = S.A x) (n0 : 0 < S.I 36 3) (e3 : T.I 36 3 = S.I 36 3 - 1) (e4 : T.I 36 4 = if S.I 36 4 = 0 then 19 else S.I 36 4 - 1) (e5 : T.I 101 4 = S.I 36 3 - 1) (a7 : T.A 37 = S.A 37) (a8 : T.A 38 = S.A 38) (a9 : T.A 39 = S.A 39) (a4 : T.A 104 = S.A 104) (row : ∀ i : Int, 0 ≤ i → i < 190 → T.A 102 i = iv_rw S (S.I 36 3 - 1) i) (hN : iv_NW T) (hD : iv_TD (T.I 3 10) (T.A 8) (T.A 105) (T.A 9) (T.A 106)) (hs : S.I 3 12 < T.I 3 12 ∧ T.I 3 12 ≤ S.I 3 12 + 10) (h2 : iv_R2 (T.A 102)) : iv T (k + 1) := by
  have hk := h.2.2.2.2.2.2.2.2.2.1
  obtain ⟨c1, c2, c3, c4⟩ := h.2.2.2.2.2.1
  have e4' : (S.I 36 4 = 0 ∧ T.I 36 4 = 19) ∨ (0 < S.I 36 4 ∧ T.I 36 4 = S.I 36 4 - 1) := by
    by_cases q : S.I 36 4 = 0
    · rw [if_pos q] at e4; omega
    · rw [if_neg q] at e4; omega
  refine iv_net h hI hA hN hD ⟨by rw [e5, e3], by rw [e3]; omega, by omega, fun r r0 r1 => ?_⟩ (by omega) h2
  rw [e3] at r1
  have sl : iv_sl T r = iv_sl S r := by unfold iv_sl; rw [e3]; omega
  have rw1 : ∀ r, iv_rw T r = iv_rw S r := fun r => by unfold iv_rw; rw [a4]
  have z := c4 r (by omega) (by omega)
  rw [if_neg (by omega)] at z
  rw [sl, a7, a8, a9, rw1]
  refine ⟨z.1, ?_⟩
  by_cases q : r + 1 = S.I 36 3 - 1
  · rw [if_pos (by omega)]
    have z2 := c4 (r + 1) (by omega) (by omega)
    exact iv_st_c (fun i i0 i1 => by rw [row i i0 i1, q]) (fun _ _ _ => rfl) z2.1 z.1 z.2
  · rw [if_neg (by omega), rw1]
    exact z.2
