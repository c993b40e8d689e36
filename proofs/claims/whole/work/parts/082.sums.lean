/-! SUMS, GREATEST, over the first k -/
def pp_sm (g : Int → Int) : Nat → Int
  | 0 => 0
  | k + 1 => pp_sm g k + g k
def pp_gx (b : Int) (p : Int → Bool) (g : Int → Int) : Nat → Int
  | 0 => b
  | k + 1 => if p k = true then max (pp_gx b p g k) (g k) else pp_gx b p g k
theorem pp_sm_congr {g h : Int → Int} : ∀ (k : Nat), (∀ i : Int, 0 ≤ i → i < k → g i = h i) → pp_sm g k = pp_sm h k
  | 0, _ => rfl
  | k + 1, e => by
    show pp_sm g k + g k = pp_sm h k + h k
    rw [pp_sm_congr k (fun i h1 h2 => e i h1 (by omega)), e k (by omega) (by omega)]
theorem pp_gx_congr {b : Int} {p q : Int → Bool} {g h : Int → Int} : ∀ (k : Nat), (∀ i : Int, 0 ≤ i → i < k → p i = q i ∧ (p i = true → g i = h i)) → pp_gx b p g k = pp_gx b q h k
  | 0, _ => rfl
  | k + 1, e => by
    have e1 := e k (by omega) (by omega)
    show (if p k = true then max (pp_gx b p g k) (g k) else pp_gx b p g k) = (if q k = true then max (pp_gx b q h k) (h k) else pp_gx b q h k)
    rw [pp_gx_congr k (fun i h1 h2 => e i h1 (by omega)), ← e1.1]
    by_cases c : p k = true
    · rw [if_pos c, if_pos c, e1.2 c]
    · rw [if_neg c, if_neg c]
theorem pp_gx_le {b : Int} {p : Int → Bool} {g : Int → Int} {m : Int} : ∀ (k : Nat), b ≤ m → (∀ i : Int, 0 ≤ i → i < k → p i = true → g i ≤ m) → pp_gx b p g k ≤ m
  | 0, h, _ => h
  | k + 1, h, e => by
    have i1 := pp_gx_le (p := p) (g := g) k h (fun i h1 h2 => e i h1 (by omega))
    show (if p k = true then max (pp_gx b p g k) (g k) else pp_gx b p g k) ≤ m
    by_cases c : p k = true
    · rw [if_pos c]
      have := e k (by omega) (by omega) c
      omega
    · rw [if_neg c]; exact i1
theorem pp_gx_ge (b : Int) (p : Int → Bool) (g : Int → Int) : ∀ (k : Nat), b ≤ pp_gx b p g k
  | 0 => Int.le_refl b
  | k + 1 => by
    have i1 := pp_gx_ge b p g k
    show b ≤ (if p k = true then max (pp_gx b p g k) (g k) else pp_gx b p g k)
    by_cases c : p k = true
    · rw [if_pos c]; omega
    · rw [if_neg c]; exact i1
theorem pp_gx_of {b : Int} {p : Int → Bool} {g : Int → Int} : ∀ (k : Nat) (i : Int), 0 ≤ i → i < k → p i = true → g i ≤ pp_gx b p g k
  | 0, i, h1, h2, _ => by omega
  | k + 1, i, h1, h2, c => by
    show g i ≤ (if p k = true then max (pp_gx b p g k) (g k) else pp_gx b p g k)
    by_cases e : i = k
    · subst e
      rw [if_pos c]; omega
    · have i1 := pp_gx_of (b := b) (p := p) (g := g) k i h1 (by omega) c
      by_cases c : p k = true
      · rw [if_pos c]; omega
      · rw [if_neg c]; exact i1
/-- it is b or one of them -/
theorem pp_gx_is {b : Int} {p : Int → Bool} {g : Int → Int} : ∀ (k : Nat), pp_gx b p g k = b ∨ ∃ i : Int, 0 ≤ i ∧ i < k ∧ p i = true ∧ pp_gx b p g k = g i
  | 0 => Or.inl rfl
  | k + 1 => by
    have i1 := pp_gx_is (b := b) (p := p) (g := g) k
    have e : pp_gx b p g (k + 1) = (if p k = true then max (pp_gx b p g k) (g k) else pp_gx b p g k) := rfl
    by_cases c : p k = true
    · rw [if_pos c] at e
      by_cases d : pp_gx b p g k ≤ g k
      · exact Or.inr ⟨k, by omega, by omega, c, by rw [e]; omega⟩
      · rcases i1 with h | ⟨i, h1, h2, h3, h4⟩
        · exact Or.inl (by rw [e]; omega)
        · exact Or.inr ⟨i, h1, by omega, h3, by rw [e]; omega⟩
    · rw [if_neg c] at e
      rcases i1 with h | ⟨i, h1, h2, h3, h4⟩
      · exact Or.inl (by rw [e]; exact h)
      · exact Or.inr ⟨i, h1, by omega, h3, by rw [e]; exact h4⟩
theorem pp_sm_le {g : Int → Int} {m : Int} : ∀ (k : Nat), (∀ i : Int, 0 ≤ i → i < k → g i ≤ m) → pp_sm g k ≤ k * m
  | 0, _ => by show (0 : Int) ≤ ((0 : Nat) : Int) * m; rw [Int.natCast_zero, Int.zero_mul]; omega
  | k + 1, e => by
    have i1 := pp_sm_le (g := g) (m := m) k (fun i h1 h2 => e i h1 (by omega))
    have i2 := e k (by omega) (by omega)
    show pp_sm g k + g k ≤ ((k + 1 : Nat) : Int) * m
    rw [Int.natCast_add, Int.natCast_one, Int.add_mul, Int.one_mul]
    omega
theorem pp_sm_nn {g : Int → Int} : ∀ (k : Nat), (∀ i : Int, 0 ≤ i → i < k → 0 ≤ g i) → 0 ≤ pp_sm g k
  | 0, _ => Int.le_refl 0
  | k + 1, e => by
    have i1 := pp_sm_nn (g := g) k (fun i h1 h2 => e i h1 (by omega))
    have i2 := e k (by omega) (by omega)
    show 0 ≤ pp_sm g k + g k
    omega
theorem pp_sm_add (g h : Int → Int) : ∀ (k : Nat), pp_sm (fun i => g i + h i) k = pp_sm g k + pp_sm h k
  | 0 => rfl
  | k + 1 => by
    show pp_sm (fun i => g i + h i) k + (g k + h k) = pp_sm g k + g k + (pp_sm h k + h k)
    rw [pp_sm_add g h k]; omega
theorem pp_sm_zero {g : Int → Int} : ∀ (k : Nat), (∀ i : Int, 0 ≤ i → i < k → g i = 0) → pp_sm g k = 0
  | 0, _ => rfl
  | k + 1, e => by
    show pp_sm g k + g k = 0
    rw [pp_sm_zero k (fun i h1 h2 => e i h1 (by omega)), e k (by omega) (by omega)]; rfl
/-- one of them alone -/
theorem pp_sm_one {g : Int → Int} {j : Int} : ∀ (k : Nat), 0 ≤ j → j < k → (∀ i : Int, 0 ≤ i → i < k → i ≠ j → g i = 0) → pp_sm g k = g j
  | 0, h1, h2, _ => by omega
  | k + 1, h1, h2, e => by
    show pp_sm g k + g k = g j
    by_cases c : j = k
    · subst c
      rw [pp_sm_zero k (fun i h3 h4 => e i h3 (by omega) (by omega)), Int.zero_add]
    · rw [pp_sm_one k h1 (by omega) (fun i h3 h4 h5 => e i h3 (by omega) h5), e k (by omega) (by omega) (by omega), Int.add_zero]
/-- sums in another order -/
theorem pp_sm_swap (g : Int → Int → Int) (m : Nat) : ∀ (k : Nat), pp_sm (fun i => pp_sm (fun j => g i j) m) k = pp_sm (fun j => pp_sm (fun i => g i j) k) m
  | 0 => (pp_sm_zero m (fun _ _ _ => rfl)).symm
  | k + 1 => by
    show pp_sm (fun i => pp_sm (fun j => g i j) m) k + pp_sm (fun j => g k j) m = pp_sm (fun j => pp_sm (fun i => g i j) k + g k j) m
    rw [pp_sm_swap g m k, ← pp_sm_add]
