/-! THE LAW: how a call of its own goes -/
noncomputable def lw_cl (E : mm_E) : mm_F := fun j as h => bif Nat.ble 262 j then mm_ev E 101 j as h else mm_ev E 100 j as h
theorem lw_hi (E : mm_E) (j : Nat) (hj : 262 ≤ j) : lw_cl E j = mm_ev E 101 j := by
  unfold lw_cl
  rw [Nat.ble_eq_true_of_le hj]
  rfl
theorem lw_lo (E : mm_E) (j : Nat) (hj : j < 262) : lw_cl E j = mm_ev E 100 j := by
  have e : Nat.ble 262 j = false := by
    cases z : Nat.ble 262 j
    · rfl
    · have := Nat.le_of_ble_eq_true z
      omega
  unfold lw_cl
  rw [e]
  rfl
theorem lw_n (v : Int32) : iv_n v.toInt := ⟨v.le_toInt, v.toInt_lt⟩
theorem lw_cmp (x : Int64) : lg_cmp x x = mm_i 0 := by
  unfold lg_cmp
  rw [if_neg (by
    intro z
    rw [gt_iff_lt, Int64.lt_iff_toInt_lt] at z
    omega), if_pos rfl]
  rfl
section
variable {E : mm_E} {B : Nat} {S : mm_S} {c : mm_N} {k : Nat} {i : Int}
theorem lw_rd (hE : pp_OE E B) (h0 : 0 ≤ i) (h1 : i < E.1.2.1) (hL : E.1.2.1 ≤ 3072) (κ : Int32 → mm_R) : mm_rI E (mm_hp B S c) E.1.1 (mm_i i) κ = κ (E.1.2.2 i.toNat) := by
  unfold mm_rI
  rw [mm_hp_lo S c hE.1]
  show (if E.1.1 = E.1.1 then (if mm_i i < 0 ∨ E.1.2.1 ≤ (mm_i i).toNatClampNeg then none else κ (E.1.2.2 (mm_i i).toNatClampNeg)) else _) = _
  rw [if_pos rfl, if_neg (mm_ix h0 h1 (by omega)), mm_i_nat h0 (by omega)]
theorem lw_ln (hE : pp_OE E B) (hL : E.1.2.1 ≤ 3072) (κ : Int32 → mm_R) : mm_ln E (mm_hp B S c) E.1.1 κ = κ (mm_i (E.1.2.1 : Nat)) := by
  unfold mm_ln
  rw [mm_hp_lo S c hE.1]
  show (if E.1.1 = E.1.1 then κ (Int32.ofNat E.1.2.1) else _) = _
  rw [if_pos rfl]
  have e : Int32.ofNat E.1.2.1 = mm_i (E.1.2.1 : Nat) := by
    rw [← mm_i_of (Int32.ofNat E.1.2.1), Int32.toInt_ofNat_of_lt (by omega)]
  rw [e]
/-- one turn of the law's loop -/
def lw_st (E : mm_E) (B n : Nat) (i : Int) (k : Nat) (c : mm_N) (X : mm_R) : Prop := ∃ (n' : Nat) (o5 o6 : Option Value) (S2 : mm_S) (c2 : mm_N), n ≤ n' ∧ X = mm_r282_23 E (lw_cl E) n' E.1.1 (mm_ad B 0) (mm_ad B 101) (mm_ad B 123) (mm_i (i + 6)) o5 o6 (mm_hp B S2 c2) ∧ iv S2 (k + 1) ∧ c2.2.1 ≤ c.2.1 + 1 ∧ c2.2.2 ≤ c.2.2 + 6
theorem lw_end {n : Nat} {o5 o6 : Option Value} {S2 : mm_S} {c2 : mm_N} (h : iv S2 (k + 1)) (h1 : c2.2.1 ≤ c.2.1 + 1) (h2 : c2.2.2 ≤ c.2.2 + 6) : lw_st E B n i k c (mm_r282_1812 E (lw_cl E) (n + 1) E.1.1 (mm_ad B 0) (mm_ad B 101) (mm_ad B 123) (mm_i i) o5 o6 (mm_hp B S2 c2)) := by
  rw [mm_e282_1812]
  simp only [mm_hm]
  exact ⟨n, o5, o6, S2, c2, Nat.le_refl _, rfl, h, h1, h2⟩
theorem lw_less {n m : Nat} {X : mm_R} (h : lw_st E B m i k c X) (hn : n ≤ m) : lw_st E B n i k c X := by
  obtain ⟨n', o5, o6, S2, c2, a, b⟩ := h
  exact ⟨n', o5, o6, S2, c2, Nat.le_trans hn a, b⟩
/-- a call that may throw, through its wrapper -/
theorem lw_try {W J K : Nat} {ws as bs : List Value} {hs : List (Nat × Int32)} {cd : Nat → Int} (hW : mm_ev E 101 W ws (mm_hp B S c) = mm_cI hs (mm_ev E 100 J as (mm_hp B S c)) (fun v h => mm_wJ h (mm_ad B 123) (mm_i 0) (Int32.toInt64 v) fun h' => some (.inl (some (.int (mm_i 0))), h'))) (hs1 : ∀ x, 0 < cd x → cd x ≤ 2 ∧ ∀ h, mm_th hs x h = some (.inl (some (.int (mm_i (cd x)))), h)) (hok : iv_ok E B 100 S k J as K bs cd) : ∃ (q b : Int32) (S1 S2 : mm_S) (c2 : mm_N), mm_ev E 101 W ws (mm_hp B S c) = some (.inl (some (.int q)), mm_hp B S1 c2) ∧ mm_ev E 100 K bs (mm_hp B S1 c2) = some (.inl (some (.int b)), mm_hp B S2 c2) ∧ mm_i (S2.I 101 0) = q ∧ iv S2 (k + 1) ∧ c2.2.1 ≤ c.2.1 + 1 ∧ c2.2.2 ≤ c.2.2 + 6 ∧ (q = mm_i 0 → mm_j (S2.L 123 0) = Int32.toInt64 b) := by
  obtain ⟨S1, h⟩ := hok c
  rcases h with ⟨v, h1, h2⟩ | ⟨x, h1, h2⟩
  · obtain ⟨S2, g1, g2, g3, g4⟩ := h2 (mm_u (S1.L 123) 0 (Int32.toInt64 (mm_i v)).toInt)
    refine ⟨mm_i 0, mm_i v, _, S2, c, ?_, g1, by rw [g2], g4, by omega, by omega, fun _ => ?_⟩
    · rw [hW, h1, mm_cI_ok, ← mm_j_of (Int32.toInt64 (mm_i v)), mm_pwJ (n := 1) rfl (by omega) (by omega) (by omega), mm_j_of]
    · rw [g3, mm_u_eq, mm_j_of]
  · obtain ⟨S2, b, g1, g2, g3, g4⟩ := h2 (none, (c.2.1 + 1, c.2.2 + 6))
    obtain ⟨z1, z2⟩ := hs1 x g3
    refine ⟨mm_i (cd x), mm_i b, S1, S2, (none, (c.2.1 + 1, c.2.2 + 6)), ?_, g1, by rw [g2], g4, by show c.2.1 + 1 ≤ _; omega, by show c.2.2 + 6 ≤ _; omega, fun e => ?_⟩
    · rw [hW, h1]
      exact z2 _
    · rw [mm_i_inj (by omega) (by omega) (by omega) (by omega)] at e
      omega
theorem lw_h1 (x : Nat) (h : 0 < iv_c1 x) : iv_c1 x ≤ 2 ∧ ∀ H, mm_th [(0, 1)] x H = some (.inl (some (.int (mm_i (iv_c1 x)))), H) := by
  unfold iv_c1 at h ⊢
  by_cases q : x = 0
  · subst q; exact ⟨by decide, fun H => rfl⟩
  · rw [if_neg q] at h; omega
theorem lw_h2 (x : Nat) (h : 0 < iv_c2 x) : iv_c2 x ≤ 2 ∧ ∀ H, mm_th [(0, 1), (1, 2)] x H = some (.inl (some (.int (mm_i (iv_c2 x)))), H) := by
  unfold iv_c2 at h ⊢
  by_cases q : x = 0
  · subst q; exact ⟨by decide, fun H => rfl⟩
  · by_cases q1 : x = 1
    · subst q1; exact ⟨by decide, fun H => rfl⟩
    · rw [if_neg q, if_neg q1] at h; omega
theorem lw_h3 (x : Nat) (h : 0 < iv_c3 x) : iv_c3 x ≤ 2 ∧ ∀ H, mm_th [(1, 1)] x H = some (.inl (some (.int (mm_i (iv_c3 x)))), H) := by
  unfold iv_c3 at h ⊢
  by_cases q : x = 1
  · subst q; exact ⟨by decide, fun H => rfl⟩
  · rw [if_neg q] at h; omega
/-- the answers compared -/
theorem lw_out {q b : Int32} {S2 : mm_S} {c2 : mm_N} {X Y : mm_R} (h : q = mm_i 0 → mm_j (S2.L 123 0) = Int32.toInt64 b) : mm_br (q = mm_i 0) (mm_rJ (mm_hp B S2 c2) (mm_ad B 123) (mm_i 0) fun w => mm_br (lg_cmp w (Int32.toInt64 b) = mm_i 0) X Y) X = X := by
  by_cases z : q = mm_i 0
  · rw [mm_br_t z, mm_prJ (n := 1) rfl (by omega) (by omega) (by omega), h z, lw_cmp, mm_br_t rfl]
  · rw [mm_br_f z]
end
