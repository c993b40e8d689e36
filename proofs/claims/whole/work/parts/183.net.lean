/-! THE NETWORK CHANGED: what stays -/
def iv_nI (x k : Nat) : Prop := (x = 3 ∧ 10 ≤ k ∧ k ≤ 12) ∨ (x = 36 ∧ (k = 3 ∨ k = 4)) ∨ (x = 101 ∧ k = 4)
def iv_nA (x : Nat) : Prop := (4 ≤ x ∧ x ≤ 13) ∨ (37 ≤ x ∧ x ≤ 39) ∨ x = 102 ∨ (104 ≤ x ∧ x ≤ 106)
theorem iv_net {S T : mm_S} {k : Nat} (h : iv S k) (hI : ∀ x k, iv_rI x k → ¬ iv_nI x k → T.I x k = S.I x k) (hA : ∀ x, iv_rA x → ¬ iv_nA x → T.A x = S.A x) (hN : iv_NW T) (hD : iv_TD (T.I 3 10) (T.A 8) (T.A 105) (T.A 9) (T.A 106)) (hC : iv_AC T) (hs : S.I 3 12 < T.I 3 12 ∧ T.I 3 12 ≤ 10 * (k + 1)) (h2 : iv_R2 (T.A 102)) : iv T (k + 1) := by
  have i0a := hI 0 10 (by unfold iv_rI; omega) (by unfold iv_nI; omega)
  have i0b := hI 0 11 (by unfold iv_rI; omega) (by unfold iv_nI; omega)
  have i0c := hI 0 12 (by unfold iv_rI; omega) (by unfold iv_nI; omega)
  have i0d := hI 0 13 (by unfold iv_rI; omega) (by unfold iv_nI; omega)
  have i1 := hI 1 1 (by unfold iv_rI; omega) (by unfold iv_nI; omega)
  have i25a := hI 25 10 (by unfold iv_rI; omega) (by unfold iv_nI; omega)
  have i25b := hI 25 11 (by unfold iv_rI; omega) (by unfold iv_nI; omega)
  have im24 := hI 101 24 (by unfold iv_rI; omega) (by unfold iv_nI; omega)
  have im26 := hI 101 26 (by unfold iv_rI; omega) (by unfold iv_nI; omega)
  have im34 := hI 101 34 (by unfold iv_rI; omega) (by unfold iv_nI; omega)
  have a2 := hA 2 (by unfold iv_rA; omega) (by unfold iv_nA; omega)
  have a15 := hA 15 (by unfold iv_rA; omega) (by unfold iv_nA; omega)
  have a24 := hA 24 (by unfold iv_rA; omega) (by unfold iv_nA; omega)
  have a26 := hA 26 (by unfold iv_rA; omega) (by unfold iv_nA; omega)
  have a27 := hA 27 (by unfold iv_rA; omega) (by unfold iv_nA; omega)
  have a28 := hA 28 (by unfold iv_rA; omega) (by unfold iv_nA; omega)
  have a29 := hA 29 (by unfold iv_rA; omega) (by unfold iv_nA; omega)
  have a30 := hA 30 (by unfold iv_rA; omega) (by unfold iv_nA; omega)
  have a31 := hA 31 (by unfold iv_rA; omega) (by unfold iv_nA; omega)
  have a35 := hA 35 (by unfold iv_rA; omega) (by unfold iv_nA; omega)
  have a94 := hA 94 (by unfold iv_rA; omega) (by unfold iv_nA; omega)
  have a119 := hA 119 (by unfold iv_rA; omega) (by unfold iv_nA; omega)
  have a120 := hA 120 (by unfold iv_rA; omega) (by unfold iv_nA; omega)
  have a121 := hA 121 (by unfold iv_rA; omega) (by unfold iv_nA; omega)
  have a122 := hA 122 (by unfold iv_rA; omega) (by unfold iv_nA; omega)
  have v := h.2.2.2.2.2.2.1
  have v1 := v.2.1
  refine ⟨?_, hN, hD, ?_, ?_, hC, ⟨?_, ?_, fun z => ?_⟩, ?_, ?_, hs.2, h2, ?_⟩
  · have q := h.1
    unfold iv_TP at q ⊢
    rw [im26, i1, a2, a122]
    exact q
  · have q := h.2.2.2.1
    unfold iv_KP pp_EQ at q ⊢
    rw [i0c, im24, i25a, i25b, a26, a27, a28, a29, a30, a31, a119, a120, a121]
    exact q
  · have q := h.2.2.2.2.1
    unfold iv_DR at q ⊢
    rw [a15, a24, a35]
    exact q
  · rw [i0a]; exact v.1
  · rw [i0b]; omega
  · rw [i0b] at z
    omega
  · rw [a94]; exact h.2.2.2.2.2.2.2.1
  · rw [im34, i0d]; exact h.2.2.2.2.2.2.2.2.1
  · rw [i0c, a119]; exact h.2.2.2.2.2.2.2.2.2.2.2
