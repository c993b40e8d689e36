/-! ROWS that agree where the model keeps them -/
theorem iv_RO_c {f g : Int → Int} (h : ∀ i : Int, 0 ≤ i → i < 190 → g i = f i) (hR : pp_RO f) : pp_RO g := by
  have n := hR.1
  have m := hR.2.2.1
  refine pp_RO_same hR (h 0 (by omega) (by omega)) (by rw [h 1 (by omega) (by omega)]; exact hR.2.1) (h 2 (by omega) (by omega)) (fun l l0 l1 => ⟨h _ (by omega) (by omega), h _ (by omega) (by omega)⟩) (fun t t0 t1 => ?_)
  have q := hR.2.2.2.2.1 t t0 t1
  unfold pp_tR at q ⊢
  dsimp only at q ⊢
  rw [h _ (by omega) (by omega), h _ (by omega) (by omega), h _ (by omega) (by omega), h _ (by omega) (by omega), h _ (by omega) (by omega), h _ (by omega) (by omega), h _ (by omega) (by omega)]
  exact q
theorem iv_EQ_c {S : mm_S} {a : Nat} {f g : Int → Int} (h : ∀ i : Int, 0 ≤ i → i < 190 → g i = f i) (hR : pp_RO f) (hE : pp_EQ S a f) : pp_EQ S a g := by
  have n := hR.1
  have m := hR.2.2.1
  obtain ⟨q0, q1, q2, q3, q4, q5, q6⟩ := hE
  have g0 := h 0 (by omega) (by omega)
  have g2 := h 2 (by omega) (by omega)
  have gl : ∀ l : Int, 0 ≤ l → l < f 2 → g (159 + 2 * l) = f (159 + 2 * l) ∧ g (159 + 2 * l + 1) = f (159 + 2 * l + 1) := fun l l0 l1 => ⟨h _ (by omega) (by omega), h _ (by omega) (by omega)⟩
  refine ⟨by rw [g0]; exact q0, by rw [h 1 (by omega) (by omega)]; exact q1, fun s s0 s1 => ?_, fun s w s0 s1 w0 w1 => ?_, q4, fun s i s0 s1 i0 i1 => ?_, fun s i s0 s1 i0 i1 => ?_⟩
  · rw [mm_sup_cg g2 gl, mm_cus_cg g2 gl]; exact q2 s s0 s1
  · rw [g0] at s1
    rw [h _ (by omega) (by omega)]; exact q3 s w s0 s1 w0 w1
  · rw [g0] at s1
    rw [h _ (by omega) (by omega)]; exact q5 s i s0 s1 i0 i1
  · rw [g0] at s0
    exact q6 s i s0 s1 i0 i1
theorem iv_R2_c {f g : Int → Int} (h : ∀ i : Int, 0 ≤ i → i < 190 → g i = f i) (hR : pp_RO f) (h2 : iv_R2 f) : iv_R2 g := fun s s0 s1 => by
  have n := hR.1
  rw [h 0 (by omega) (by omega)] at s1
  rw [h _ (by omega) (by omega)]
  exact h2 s s0 s1
