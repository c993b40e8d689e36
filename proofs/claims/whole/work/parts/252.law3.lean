/-! THE LAW: its loop -/
section
variable {E : mm_E} {B n : Nat} {S : mm_S} {c : mm_N} {k : Nat} {i : Int} {o5 o6 : Option Value}
theorem lw_step (hE : pp_OE E B) (hL : E.1.2.1 ≤ 3072) (i0 : 0 ≤ i) (i1 : i + 6 ≤ E.1.2.1) (h : iv S k) (hk : k ≤ 1000) : lw_st E B n i k c (mm_r282_23 E (lw_cl E) (n + 10) E.1.1 (mm_ad B 0) (mm_ad B 101) (mm_ad B 123) (mm_i i) o5 o6 (mm_hp B S c)) := by
  have hl : ((E.1.2.1 : Nat) : Int) ≤ 3072 := by omega
  rw [mm_e282_23, lw_ln hE hL]
  simp only [mm_hm]
  rw [mm_br_lt (by omega) (by omega) (by omega) (by omega), if_neg (by omega), lw_rd hE (by omega) (by omega) hL]
  obtain ⟨w, hw⟩ : ∃ w, w = E.1.2.2 i.toNat &&& mm_i 31 := ⟨_, rfl⟩
  rw [← hw]
  by_cases q0 : w = mm_i 0
  · rw [mm_br_t q0]
    exact lw_feed hE hL i0 i1 h hk
  rw [mm_br_f q0]
  by_cases q1 : w = mm_i 1
  · rw [mm_br_t q1]
    exact lw_network hE hL i0 i1 h hk
  rw [mm_br_f q1]
  by_cases q2 : w = mm_i 2
  · rw [mm_br_t q2]
    exact lw_fault hE hL i0 i1 h hk
  rw [mm_br_f q2]
  by_cases q3 : w = mm_i 3
  · rw [mm_br_t q3]
    exact lw_count hE hL i0 i1 h hk
  rw [mm_br_f q3]
  by_cases q4 : w = mm_i 4
  · rw [mm_br_t q4]
    exact lw_letter hE hL i0 i1 h hk
  rw [mm_br_f q4]
  by_cases q5 : w = mm_i 5
  · rw [mm_br_t q5]
    exact lw_stage hE hL i0 i1 h hk
  rw [mm_br_f q5]
  by_cases q6 : w = mm_i 6
  · rw [mm_br_t q6]
    exact lw_bound hE hL i0 i1 h hk
  rw [mm_br_f q6]
  by_cases q7 : w = mm_i 7
  · rw [mm_br_t q7]
    exact lw_change hE hL i0 i1 h hk
  rw [mm_br_f q7]
  by_cases q8 : w = mm_i 8
  · rw [mm_br_t q8]
    exact lw_add hE hL i0 i1 h hk
  rw [mm_br_f q8]
  by_cases q9 : w = mm_i 9
  · rw [mm_br_t q9]
    exact lw_supply hE hL i0 i1 h hk
  rw [mm_br_f q9]
  by_cases q10 : w = mm_i 10
  · rw [mm_br_t q10]
    exact lw_pin hE hL i0 i1 h hk
  rw [mm_br_f q10]
  by_cases q11 : w = mm_i 11
  · rw [mm_br_t q11]
    exact lw_undo hE hL i0 i1 h hk
  rw [mm_br_f q11]
  by_cases q12 : w = mm_i 12
  · rw [mm_br_t q12]
    exact lw_take hE hL i0 i1 h hk
  rw [mm_br_f q12]
  by_cases q13 : w = mm_i 13
  · rw [mm_br_t q13]
    exact lw_promise hE hL i0 i1 h hk
  rw [mm_br_f q13]
  by_cases q14 : w = mm_i 14
  · rw [mm_br_t q14]
    exact lw_planned hE hL i0 i1 h hk
  rw [mm_br_f q14]
  by_cases q15 : w = mm_i 15
  · rw [mm_br_t q15]
    exact lw_plan hE hL i0 i1 h hk
  rw [mm_br_f q15]
  by_cases q16 : w = mm_i 16
  · rw [mm_br_t q16]
    exact lw_least hE hL i0 i1 h hk
  rw [mm_br_f q16]
  by_cases q17 : w = mm_i 17
  · rw [mm_br_t q17]
    exact lw_worth hE hL i0 i1 h hk
  rw [mm_br_f q17]
  by_cases q18 : w = mm_i 18
  · rw [mm_br_t q18]
    exact lw_even hE hL i0 i1 h hk
  rw [mm_br_f q18]
  by_cases q19 : w = mm_i 19
  · rw [mm_br_t q19]
    exact lw_budget hE hL i0 i1 h hk
  rw [mm_br_f q19]
  by_cases q20 : w = mm_i 20
  · rw [mm_br_t q20]
    exact lw_pinned hE hL i0 i1 h hk
  rw [mm_br_f q20]
  by_cases q21 : w = mm_i 21
  · rw [mm_br_t q21]
    exact lw_demand hE hL i0 i1 h hk
  rw [mm_br_f q21]
  by_cases q22 : w = mm_i 22
  · rw [mm_br_t q22]
    exact lw_drawn hE hL i0 i1 h hk
  rw [mm_br_f q22]
  by_cases q23 : w = mm_i 23
  · rw [mm_br_t q23]
    exact lw_day hE hL i0 i1 h hk
  rw [mm_br_f q23]
  by_cases q24 : w = mm_i 24
  · rw [mm_br_t q24]
    exact lw_days hE hL i0 i1 h hk
  rw [mm_br_f q24]
  by_cases q25 : w = mm_i 25
  · rw [mm_br_t q25]
    exact lw_ask hE hL i0 i1 h hk
  rw [mm_br_f q25]
  by_cases q26 : w = mm_i 26
  · rw [mm_br_t q26]
    exact lw_chain hE hL i0 i1 h hk
  rw [mm_br_f q26]
  by_cases q27 : w = mm_i 27
  · rw [mm_br_t q27]
    exact lw_frontier hE hL i0 i1 h hk
  rw [mm_br_f q27]
  by_cases q28 : w = mm_i 28
  · rw [mm_br_t q28]
    exact lw_image hE hL i0 i1 h hk
  rw [mm_br_f q28]
  by_cases q29 : w = mm_i 29
  · rw [mm_br_t q29]
    exact lw_back hE hL i0 i1 h hk
  rw [mm_br_f q29]
  exact lw_less (lw_end (iv_up h (by omega)) (by omega) (by omega)) (by omega)
theorem lw_loop (hE : pp_OE E B) (hL : E.1.2.1 ≤ 3072) : ∀ (j k n : Nat) (S : mm_S) (c : mm_N) (o5 o6 : Option Value), iv S k → k + j = 513 → 10 * (j + 1) ≤ n → ∃ hf : mm_H, mm_r282_23 E (lw_cl E) n E.1.1 (mm_ad B 0) (mm_ad B 101) (mm_ad B 123) (mm_i (6 * k)) o5 o6 (mm_hp B S c) = some (.inl (some (.int 1)), hf) ∧ hf.2.2.1 ≤ c.2.1 + j ∧ hf.2.2.2 ≤ c.2.2 + 6 * j := by
  have fin : ∀ (k n : Nat) (S : mm_S) (c : mm_N) (o5 o6 : Option Value), k ≤ 513 → ¬ 6 * (k : Int) + 6 ≤ E.1.2.1 → mm_r282_23 E (lw_cl E) (n + 1) E.1.1 (mm_ad B 0) (mm_ad B 101) (mm_ad B 123) (mm_i (6 * k)) o5 o6 (mm_hp B S c) = some (.inl (some (.int 1)), mm_hp B S c) := fun k n S c o5 o6 hk hq => by
    have hl : ((E.1.2.1 : Nat) : Int) ≤ 3072 := by omega
    rw [mm_e282_23, lw_ln hE hL]
    simp only [mm_hm]
    rw [mm_br_lt (by omega) (by omega) (by omega) (by omega), if_pos (by omega), mm_bz1]
    rfl
  intro j
  induction j with
  | zero =>
    intro k n S c o5 o6 h hk hn
    obtain ⟨n, rfl⟩ : ∃ m, n = m + 1 := ⟨n - 1, by omega⟩
    exact ⟨_, fin k n S c o5 o6 (by omega) (by omega), by show c.2.1 ≤ _; omega, by show c.2.2 ≤ _; omega⟩
  | succ j ih =>
    intro k n S c o5 o6 h hk hn
    by_cases q : 6 * (k : Int) + 6 ≤ E.1.2.1
    · obtain ⟨n, rfl⟩ : ∃ m, n = m + 10 := ⟨n - 10, by omega⟩
      obtain ⟨n', p5, p6, S2, c2, a1, a2, a3, a4, a5⟩ := lw_step (n := n) (c := c) (o5 := o5) (o6 := o6) hE hL (show (0 : Int) ≤ 6 * k by omega) q h (by omega)
      obtain ⟨hf, b1, b2, b3⟩ := ih (k + 1) n' S2 c2 p5 p6 a3 (by omega) (by omega)
      rw [show (6 * ((k + 1 : Nat) : Int)) = 6 * k + 6 by omega] at b1
      exact ⟨hf, by rw [a2, b1], by omega, by omega⟩
    · obtain ⟨n, rfl⟩ : ∃ m, n = m + 1 := ⟨n - 1, by omega⟩
      exact ⟨_, fin k n S c o5 o6 (by omega) q, by show c.2.1 ≤ _; omega, by show c.2.2 ≤ _; omega⟩
end
