/-! WHOLE NUMBERS for ints and longs -/
theorem mm_i_add (a b : Int) : mm_i a + mm_i b = mm_i (a + b) := (Int32.ofInt_add a b).symm
theorem mm_i_sub (a b : Int) : mm_i a - mm_i b = mm_i (a - b) := (Int32.ofInt_sub a b).symm
theorem mm_i_mul (a b : Int) : mm_i a * mm_i b = mm_i (a * b) := (Int32.ofInt_mul a b).symm
theorem mm_i_neg (a : Int) : -(mm_i a) = mm_i (-a) := (Int32.ofInt_neg a).symm
theorem mm_j_add (a b : Int) : mm_j a + mm_j b = mm_j (a + b) := (Int64.ofInt_add a b).symm
theorem mm_j_mul (a b : Int) : mm_j a * mm_j b = mm_j (a * b) := (Int64.ofInt_mul a b).symm
theorem mm_i_inj {a b : Int} (h1 : -2147483648 ≤ a) (h2 : a < 2147483648) (h3 : -2147483648 ≤ b) (h4 : b < 2147483648) : (mm_i a = mm_i b) = (a = b) := by
  apply propext
  constructor
  · intro h
    have h := congrArg Int32.toInt h
    rwa [mm_i_in h1 h2, mm_i_in h3 h4] at h
  · intro h; rw [h]
theorem mm_i_lt {a b : Int} (h1 : -2147483648 ≤ a) (h2 : a < 2147483648) (h3 : -2147483648 ≤ b) (h4 : b < 2147483648) : (mm_i a < mm_i b) = (a < b) := by
  rw [Int32.lt_iff_toInt_lt, mm_i_in h1 h2, mm_i_in h3 h4]
theorem mm_i_le {a b : Int} (h1 : -2147483648 ≤ a) (h2 : a < 2147483648) (h3 : -2147483648 ≤ b) (h4 : b < 2147483648) : (mm_i a ≤ mm_i b) = (a ≤ b) := by
  rw [Int32.le_iff_toInt_le, mm_i_in h1 h2, mm_i_in h3 h4]
theorem mm_br_lt {a b : Int} {X Y : mm_R} (h1 : -2147483648 ≤ a) (h2 : a < 2147483648) (h3 : -2147483648 ≤ b) (h4 : b < 2147483648) : mm_br (mm_i a < mm_i b) X Y = if a < b then X else Y := by
  rw [mm_i_lt h1 h2 h3 h4]
  by_cases h : a < b
  · rw [mm_br_t h, if_pos h]
  · rw [mm_br_f h, if_neg h]
theorem mm_br_le {a b : Int} {X Y : mm_R} (h1 : -2147483648 ≤ a) (h2 : a < 2147483648) (h3 : -2147483648 ≤ b) (h4 : b < 2147483648) : mm_br (mm_i a ≤ mm_i b) X Y = if a ≤ b then X else Y := by
  rw [mm_i_le h1 h2 h3 h4]
  by_cases h : a ≤ b
  · rw [mm_br_t h, if_pos h]
  · rw [mm_br_f h, if_neg h]
theorem mm_br_eq {a b : Int} {X Y : mm_R} (h1 : -2147483648 ≤ a) (h2 : a < 2147483648) (h3 : -2147483648 ≤ b) (h4 : b < 2147483648) : mm_br (mm_i a = mm_i b) X Y = if a = b then X else Y := by
  rw [mm_i_inj h1 h2 h3 h4]
  by_cases h : a = b
  · rw [mm_br_t h, if_pos h]
  · rw [mm_br_f h, if_neg h]
theorem mm_i_mx {a b : Int} (h1 : -2147483648 ≤ a) (h2 : a < 2147483648) (h3 : -2147483648 ≤ b) (h4 : b < 2147483648) : mm_mx (mm_i a) (mm_i b) = mm_i (max a b) := by
  unfold mm_mx
  by_cases h : a < b
  · rw [if_pos (by rw [mm_i_lt h1 h2 h3 h4]; exact h), show max a b = b by omega]
  · rw [if_neg (by rw [mm_i_lt h1 h2 h3 h4]; exact h), show max a b = a by omega]
theorem mm_i_mn {a b : Int} (h1 : -2147483648 ≤ a) (h2 : a < 2147483648) (h3 : -2147483648 ≤ b) (h4 : b < 2147483648) : mm_mn (mm_i a) (mm_i b) = mm_i (min a b) := by
  unfold mm_mn
  by_cases h : b < a
  · rw [if_pos (by rw [mm_i_lt h3 h4 h1 h2]; exact h), show min a b = b by omega]
  · rw [if_neg (by rw [mm_i_lt h3 h4 h1 h2]; exact h), show min a b = a by omega]
theorem mm_i2l {a : Int} (h1 : -2147483648 ≤ a) (h2 : a < 2147483648) : Int32.toInt64 (mm_i a) = mm_j a := by
  apply Int64.toInt_inj.mp
  rw [Int32.toInt_toInt64, mm_i_in h1 h2, mm_j_in (by omega) (by omega)]
theorem mm_l2i {a : Int} (h1 : -9223372036854775808 ≤ a) (h2 : a < 9223372036854775808) : Int64.toInt32 (mm_j a) = mm_i a := by
  show Int64.toInt32 (Int64.ofInt a) = Int32.ofInt a
  rw [Int64.toInt32_ofInt]
theorem mm_j_lt {a b : Int} (h1 : -9223372036854775808 ≤ a) (h2 : a < 9223372036854775808) (h3 : -9223372036854775808 ≤ b) (h4 : b < 9223372036854775808) : (mm_j a < mm_j b) = (a < b) := by
  rw [Int64.lt_iff_toInt_lt, mm_j_in h1 h2, mm_j_in h3 h4]
theorem mm_j_inj {a b : Int} (h1 : -9223372036854775808 ≤ a) (h2 : a < 9223372036854775808) (h3 : -9223372036854775808 ≤ b) (h4 : b < 9223372036854775808) : (mm_j a = mm_j b) = (a = b) := by
  apply propext
  constructor
  · intro h
    have h := congrArg Int64.toInt h
    rwa [mm_j_in h1 h2, mm_j_in h3 h4] at h
  · intro h; rw [h]
def mm_cm (a b : Int) : Int := if a < b then -1 else if a = b then 0 else 1
theorem mm_j_cmp {a b : Int} (h1 : -9223372036854775808 ≤ a) (h2 : a < 9223372036854775808) (h3 : -9223372036854775808 ≤ b) (h4 : b < 9223372036854775808) : lg_cmp (mm_j a) (mm_j b) = mm_i (mm_cm a b) := by
  unfold lg_cmp mm_cm
  simp only [gt_iff_lt, mm_j_lt h3 h4 h1 h2, mm_j_inj h1 h2 h3 h4]
  by_cases h : a < b
  · rw [if_neg (by omega), if_neg (by omega), if_pos h]; rfl
  · rw [if_neg h]
    by_cases h : a = b
    · rw [if_neg (by omega), if_pos h, if_pos h]; rfl
    · rw [if_pos (by omega), if_neg h]; rfl
theorem mm_cm_lt (a b : Int) (X Y : mm_R) : mm_br (mm_i (mm_cm a b) < mm_i 0) X Y = if a < b then X else Y := by
  unfold mm_cm
  by_cases h : a < b
  · rw [if_pos h, if_pos h, mm_br_lt (by omega) (by omega) (by omega) (by omega), if_pos (by omega)]
  · rw [if_neg h, if_neg h]
    by_cases h2 : a = b
    · rw [if_pos h2, mm_br_lt (by omega) (by omega) (by omega) (by omega), if_neg (by omega)]
    · rw [if_neg h2, mm_br_lt (by omega) (by omega) (by omega) (by omega), if_neg (by omega)]
theorem mm_cm_ge (a b : Int) (X Y : mm_R) : mm_br (mm_i 0 ≤ mm_i (mm_cm a b)) X Y = if a < b then Y else X := by
  unfold mm_cm
  by_cases h : a < b
  · rw [if_pos h, if_pos h, mm_br_le (by omega) (by omega) (by omega) (by omega), if_neg (by omega)]
  · rw [if_neg h, if_neg h]
    by_cases h2 : a = b
    · rw [if_pos h2, mm_br_le (by omega) (by omega) (by omega) (by omega), if_pos (by omega)]
    · rw [if_neg h2, mm_br_le (by omega) (by omega) (by omega) (by omega), if_pos (by omega)]
theorem mm_cm_eq (a b : Int) (X Y : mm_R) : mm_br (mm_i (mm_cm a b) = mm_i 0) X Y = if a = b then X else Y := by
  unfold mm_cm
  by_cases h : a < b
  · rw [if_pos h, mm_br_eq (by omega) (by omega) (by omega) (by omega), if_neg (by omega), if_neg (by omega)]
  · rw [if_neg h]
    by_cases h2 : a = b
    · rw [if_pos h2, mm_br_eq (by omega) (by omega) (by omega) (by omega), if_pos rfl, if_pos h2]
    · rw [if_neg h2, mm_br_eq (by omega) (by omega) (by omega) (by omega), if_neg (by omega), if_neg h2]
theorem mm_i_div {a b : Int} (h1 : 0 ≤ a) (h2 : a < 2147483648) (h3 : 0 < b) (h4 : b < 2147483648) : mm_i a / mm_i b = mm_i (a / b) := by
  apply Int32.toInt_inj.mp
  have hd : 0 ≤ a / b := Int.ediv_nonneg h1 (by omega)
  have hl : a / b ≤ a := Int.ediv_le_self b h1
  rw [Int32.toInt_div_of_ne_right, mm_i_in (by omega) h2, mm_i_in (by omega) h4, mm_i_in (by omega) (by omega), Int.tdiv_eq_ediv_of_nonneg h1]
  intro h
  have h := congrArg Int32.toInt h
  rw [mm_i_in (by omega) h4] at h
  have h : b = -1 := h
  omega
theorem mm_nz_i {b : Int} {r : mm_R} (h1 : 0 < b) (h2 : b < 2147483648) : mm_nz (mm_i b) r = r := by
  unfold mm_nz
  rw [mm_br_f]
  intro h
  have h := congrArg Int32.toInt h
  rw [mm_i_in (by omega) h2] at h
  have h : b = 0 := h
  omega
theorem mm_bz_i {b : Int} {r : mm_R} (h1 : 0 ≤ b) (h2 : b ≤ 1) : mm_bz (mm_i b) r = r := by
  unfold mm_bz
  rw [mm_br_t]
  rcases (by omega : b = 0 ∨ b = 1) with h | h
  · left; rw [h]; rfl
  · right; rw [h]; rfl
-- calls
theorem mm_cI_ok (hs : List (Nat × Int32)) (v : Int32) (h : mm_H) (κ : Int32 → mm_H → mm_R) : mm_cI hs (some (.inl (some (.int v)), h)) κ = κ v h := (rfl)
theorem mm_cV_ok (hs : List (Nat × Int32)) (h : mm_H) (κ : mm_H → mm_R) : mm_cV hs (some (.inl none, h)) κ = κ h := (rfl)
theorem mm_cI_th (x : Nat) (h : mm_H) (κ : Int32 → mm_H → mm_R) : mm_cI [] (some (.inr x, h)) κ = some (.inr x, h) := (rfl)
theorem mm_cV_th (x : Nat) (h : mm_H) (κ : mm_H → mm_R) : mm_cV [] (some (.inr x, h)) κ = some (.inr x, h) := (rfl)
/-- what is done with whole numbers -/
theorem mm_hm : (∀ a b : Int, mm_i a + mm_i b = mm_i (a + b)) ∧ (∀ a b : Int, mm_i a - mm_i b = mm_i (a - b)) ∧ (∀ a b : Int, mm_i a * mm_i b = mm_i (a * b)) ∧ (∀ a : Int, -(mm_i a) = mm_i (-a)) ∧ (∀ a b : Int, mm_j a + mm_j b = mm_j (a + b)) ∧ (∀ a b : Int, mm_j a * mm_j b = mm_j (a * b))
    ∧ (∀ (hs : List (Nat × Int32)) (v : Int32) (h : mm_H) (κ : Int32 → mm_H → mm_R), mm_cI hs (some (.inl (some (.int v)), h)) κ = κ v h) ∧ (∀ (hs : List (Nat × Int32)) (h : mm_H) (κ : mm_H → mm_R), mm_cV hs (some (.inl none, h)) κ = κ h) :=
  ⟨mm_i_add, mm_i_sub, mm_i_mul, mm_i_neg, mm_j_add, mm_j_mul, mm_cI_ok, mm_cV_ok⟩
