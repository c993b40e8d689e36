/-! THE ROOT -/
def pp_isR (q x : Int) : Prop := 0 ≤ x ∧ q ≤ 10000 * x * x ∧ ∀ y : Int, 0 ≤ y → y < x → 10000 * y * y < q
theorem pp_sq_mono {x y : Int} (h0 : 0 ≤ x) (h : x ≤ y) : 10000 * x * x ≤ 10000 * y * y := by
  have h1 : 10000 * x ≤ 10000 * y := by omega
  exact Int.mul_le_mul h1 h h0 (by omega)
theorem pp_sq_nn {x : Int} (h0 : 0 ≤ x) : 0 ≤ 10000 * x * x := Int.mul_nonneg (by omega) h0
theorem pp_isR_one {q x y : Int} (h : pp_isR q x) (g : pp_isR q y) : x = y := by
  obtain ⟨h1, h2, h3⟩ := h
  obtain ⟨g1, g2, g3⟩ := g
  by_cases e : x < y
  · have := g3 x h1 e
    omega
  · by_cases f : y < x
    · have := h3 y g1 f
      omega
    · omega
noncomputable def pp_rt (q : Int) : Int := @dite _ (∃ x, pp_isR q x) (Classical.propDecidable _) (fun h => Classical.choose h) (fun _ => 0)
theorem pp_rt_eq {q x : Int} (h : pp_isR q x) : pp_rt q = x := by
  have e : ∃ x, pp_isR q x := ⟨x, h⟩
  unfold pp_rt
  rw [dif_pos e]
  exact pp_isR_one (Classical.choose_spec e) h
theorem mm_j_div2 {a : Int} (h1 : 0 ≤ a) (h2 : a < 9223372036854775808) : mm_j a / mm_j 2 = mm_j (a / 2) := by
  apply Int64.toInt_inj.mp
  have hd : 0 ≤ a / 2 := by omega
  have hl : a / 2 ≤ a := by omega
  rw [Int64.toInt_div_of_ne_right, mm_j_in (by omega) h2, mm_j_in (by omega) (by omega), mm_j_in (by omega) (by omega), Int.tdiv_eq_ediv_of_nonneg h1]
  intro h
  have h := congrArg Int64.toInt h
  rw [mm_j_in (by omega) (by omega)] at h
  have h : (2 : Int) = -1 := h
  omega
theorem mm_nzj2 (r : mm_R) : mm_nzj (mm_j 2) r = r := by
  unfold mm_nzj
  rw [mm_br_f]
  intro h
  have h := congrArg Int64.toInt h
  rw [mm_j_in (by omega) (by omega)] at h
  have h : (2 : Int) = 0 := h
  omega
section ROOT
variable {E : mm_E} {d B : Nat} {S : mm_S} {c : mm_N} {a : Nat}
theorem l_rootOf {cl : mm_F} {q : Int} (hq : 0 ≤ q) (hq2 : q < 20000000000000) : ∀ (k n : Nat) (lo hi : Int) (o6 o7 : Option Value), k < n → 0 ≤ lo → lo ≤ hi → hi ≤ 100000 → hi - lo < 2 ^ k → q ≤ 10000 * hi * hi → (∀ y : Int, 0 ≤ y → y < lo → 10000 * y * y < q) → mm_r164_7 E cl n (mm_j q) (mm_j lo) (mm_j hi) o6 o7 (mm_hp B S c) = mm_oI (pp_rt q) (mm_hp B S c) := by
  intro k
  induction k with
  | zero =>
    intro n lo hi o6 o7 hn h0 h1 h2 h3 h4 h5
    obtain ⟨n, rfl⟩ : ∃ m, n = m + 1 := ⟨n - 1, by omega⟩
    have e : lo = hi := by
      have : (2 : Int) ^ 0 = 1 := rfl
      omega
    rw [mm_e164_7]
    simp (disch := omega) only [mm_j_cmp, mm_cm_ge, mm_l2i]
    rw [if_neg (by omega), pp_rt_eq ⟨h0, by rw [e]; exact h4, h5⟩]
  | succ k ih =>
    intro n lo hi o6 o7 hn h0 h1 h2 h3 h4 h5
    obtain ⟨n, rfl⟩ : ∃ m, n = m + 1 := ⟨n - 1, by omega⟩
    rw [Int.pow_succ] at h3
    rw [mm_e164_7]
    simp (disch := omega) only [mm_j_cmp, mm_cm_ge, mm_l2i]
    by_cases e : lo < hi
    · rw [if_pos e]
      have b1 := pp_sq_nn (x := (lo + hi) / 2) (by omega)
      have b2 := pp_sq_mono (x := (lo + hi) / 2) (y := 100000) (by omega) (by omega)
      simp (disch := omega) only [mm_nzj2, mm_hm, mm_j_div2, mm_j_cmp, mm_cm_lt]
      by_cases f : 10000 * ((lo + hi) / 2) * ((lo + hi) / 2) < q
      · rw [if_pos f]
        refine ih n _ _ _ _ (by omega) (by omega) (by omega) h2 (by omega) h4 (fun y y1 y2 => ?_)
        have := pp_sq_mono (x := y) (y := (lo + hi) / 2) y1 (by omega)
        omega
      · rw [if_neg f]
        exact ih n _ _ _ _ (by omega) h0 (by omega) (by omega) (by omega) (by omega) h5
    · rw [if_neg e, pp_rt_eq ⟨h0, by rw [show lo = hi by omega]; exact h4, h5⟩]
theorem c_rootOf {q : Int} (hd : 1 ≤ d) (hq : 0 ≤ q) (hq2 : q < 20000000000000) : mm_ev E d 164 [.long (mm_j q)] (mm_hp B S c) = mm_oI (pp_rt q) (mm_hp B S c) := by
  refine mm_v164 (by omega) (fun F e hF he => ?_)
  rw [mm_e164_0]
  exact l_rootOf hq hq2 17 (F + 99) 0 100000 none none (by omega) (by omega) (by omega) (by omega) (by decide) (by omega) (fun y h1 h2 => by omega)
theorem l_root2 {cl : mm_F} {q : Int} {a0 : Nat} {x1 x2 x3 : Int32} (hq : 0 ≤ q) (hq2 : q < 20000000000000) : ∀ (k n : Nat) (lo hi i : Int) (o9 : Option Value), k < n → 0 ≤ i → i + k ≤ 20 → 0 ≤ lo → lo ≤ hi → hi ≤ 2000000 → hi - lo < 2 ^ k → q ≤ 10000 * hi * hi → (∀ y : Int, 0 ≤ y → y < lo → 10000 * y * y < q) → mm_r48_81 E cl n a0 x1 x2 x3 (mm_j q) (mm_i lo) (mm_i hi) (mm_i i) o9 (mm_hp B S c) = mm_oI (pp_rt q) (mm_hp B S c) := by
  intro k
  induction k with
  | zero =>
    intro n lo hi i o9 hn i0 i1 h0 h1 h2 h3 h4 h5
    obtain ⟨n, rfl⟩ : ∃ m, n = m + 1 := ⟨n - 1, by omega⟩
    have e : lo = hi := by
      have : (2 : Int) ^ 0 = 1 := rfl
      omega
    rw [mm_e48_81]
    simp (disch := omega) only [mm_br_le]
    have r := pp_rt_eq (q := q) (x := lo) ⟨h0, by rw [e]; exact h4, h5⟩
    by_cases f : 20 ≤ i
    · rw [if_pos f, r]
    · rw [if_neg f, if_pos (by omega), r]
  | succ k ih =>
    intro n lo hi i o9 hn i0 i1 h0 h1 h2 h3 h4 h5
    obtain ⟨n, rfl⟩ : ∃ m, n = m + 1 := ⟨n - 1, by omega⟩
    rw [Int.pow_succ] at h3
    rw [mm_e48_81]
    simp (disch := omega) only [mm_br_le]
    rw [if_neg (by omega)]
    by_cases e : hi ≤ lo
    · rw [if_pos e, pp_rt_eq ⟨h0, by rw [show lo = hi by omega]; exact h4, h5⟩]
    · rw [if_neg e]
      have b1 := pp_sq_nn (x := (lo + hi) / 2) (by omega)
      have b2 := pp_sq_mono (x := (lo + hi) / 2) (y := 2000000) (by omega) (by omega)
      simp (disch := omega) only [mm_nz_i, mm_hm, mm_i_div, mm_i2l, mm_j_cmp, mm_cm_lt]
      by_cases f : 10000 * ((lo + hi) / 2) * ((lo + hi) / 2) < q
      · rw [if_pos f]
        refine ih n _ _ _ _ (by omega) (by omega) (by omega) (by omega) (by omega) h2 (by omega) h4 (fun y y1 y2 => ?_)
        have := pp_sq_mono (x := y) (y := (lo + hi) / 2) y1 (by omega)
        omega
      · rw [if_neg f]
        exact ih n _ _ _ _ (by omega) (by omega) (by omega) h0 (by omega) (by omega) (by omega) (by omega) h5
theorem pp_pw_i (s : Nat) : mm_pw (s : Int) = 2 ^ s := by
  unfold mm_pw
  rw [Int.toNat_natCast, Int.natCast_pow]
  rfl
theorem l_root1 {cl : mm_F} {q : Int} {a0 : Nat} {x1 x2 x3 : Int32} {o9 : Option Value} (hq : 0 ≤ q) (hq2 : q < 20000000000000) : ∀ (j st n : Nat) (lo hi : Int), st + j = 20 → j + 24 < n → 0 ≤ lo → lo ≤ hi → 2 ^ st - 1 ≤ hi → hi ≤ 100000 + 2 ^ st → hi - lo < 2 ^ 19 → (∀ y : Int, 0 ≤ y → y < lo → 10000 * y * y < q) → mm_r48_33 E cl n a0 x1 x2 x3 (mm_j q) (mm_i lo) (mm_i hi) (mm_i st) o9 (mm_hp B S c) = mm_oI (pp_rt q) (mm_hp B S c) := by
  intro j
  induction j with
  | zero =>
    intro st n lo hi hst hn h0 h1 h2 h3 h4 h5
    obtain ⟨n, rfl⟩ : ∃ m, n = m + 1 := ⟨n - 1, by omega⟩
    have e : st = 20 := by omega
    subst e
    have p20 : (2 : Int) ^ 20 = 1048576 := rfl
    rw [mm_e48_33]
    simp (disch := omega) only [mm_br_le]
    rw [if_pos (by omega)]
    have b := pp_sq_mono (x := 1048575) (y := hi) (by omega) (by omega)
    exact l_root2 hq hq2 20 n lo hi 0 o9 (by omega) (by omega) (by omega) h0 h1 (by omega) (by omega) (by omega) h5
  | succ j ih =>
    intro st n lo hi hst hn h0 h1 h2 h3 h4 h5
    obtain ⟨n, rfl⟩ : ∃ m, n = m + 1 := ⟨n - 1, by omega⟩
    have p1 : (2 : Int) ^ (st + 1) = 2 ^ st * 2 := Int.pow_succ 2 st
    have p2 : (1 : Int) ≤ 2 ^ st := by
      have : (0 : Int) < 2 ^ st := Int.pow_pos (by omega)
      omega
    have p19 : (2 : Int) ^ 19 = 524288 := rfl
    have p3 : (2 : Int) ^ st ≤ 524288 := by
      have h : (2 : Nat) ^ st ≤ 2 ^ 19 := Nat.pow_le_pow_right (by omega) (by omega)
      have e : ((2 ^ st : Nat) : Int) = 2 ^ st := by rw [Int.natCast_pow]; rfl
      have e2 : (2 : Nat) ^ 19 = 524288 := rfl
      omega
    have b1 := pp_sq_nn (x := hi) (by omega)
    have b2 := pp_sq_mono (x := hi) (y := 2000000) (by omega) (by omega)
    rw [mm_e48_33]
    simp (disch := omega) only [mm_br_le]
    rw [if_neg (by omega)]
    simp (disch := omega) only [mm_i2l, mm_hm, mm_j_cmp, mm_cm_ge, mm_i_shl, pp_pw_i]
    by_cases f : 10000 * hi * hi < q
    · rw [if_pos f]
      have ih := ih (st + 1) n (hi + 1) (hi + 2 ^ st) (by omega) (by omega) (by omega) (by omega) (by omega) (by omega) (by omega) (fun y y1 y2 => by
        have := pp_sq_mono (x := y) (y := hi) y1 (by omega)
        omega)
      rw [Int.natCast_add, Int.natCast_one] at ih
      exact ih
    · rw [if_neg f]
      exact l_root2 hq hq2 20 n lo hi 0 o9 (by omega) (by omega) (by omega) h0 h1 (by omega) (by omega) (by omega) h5
/-- the number under the root -/
def pp_qd (z w n : Int) : Int := z * z * w * n
theorem pp_qd_b {z w n : Int} (h1 : 0 ≤ z) (h2 : z ≤ 400) (h3 : 0 ≤ w) (h4 : w ≤ 120000) (h5 : 0 ≤ n) (h6 : n ≤ 999) : 0 ≤ pp_qd z w n ∧ pp_qd z w n < 20000000000000 := by
  unfold pp_qd
  have a1 : 0 ≤ z * z := Int.mul_nonneg h1 h1
  have a2 : z * z ≤ 400 * 400 := Int.mul_le_mul h2 h2 h1 (by omega)
  have a3 : 0 ≤ z * z * w := Int.mul_nonneg a1 h3
  have a4 : z * z * w ≤ 400 * 400 * 120000 := Int.mul_le_mul a2 h4 h3 (by omega)
  have a5 : 0 ≤ z * z * w * n := Int.mul_nonneg a3 h5
  have a6 : z * z * w * n ≤ 400 * 400 * 120000 * 999 := Int.mul_le_mul a4 h6 h5 (by omega)
  omega
theorem pp_qd_mono {z w n m : Int} (h1 : 0 ≤ z) (h3 : 0 ≤ w) (h5 : n ≤ m) : pp_qd z w n ≤ pp_qd z w m := by
  unfold pp_qd
  exact Int.mul_le_mul_of_nonneg_left h5 (Int.mul_nonneg (Int.mul_nonneg h1 h1) h3)
theorem c_rootFrom {fw s n : Int} (hd : 1 ≤ d) (ha : a = 3 ∨ a = 14 ∨ a = 25) (hz : 0 ≤ S.I a 11 ∧ S.I a 11 ≤ 400) (h1 : 0 ≤ s) (h2 : s < 12) (hw : 0 ≤ S.A (a + 9) s ∧ S.A (a + 9) s ≤ 120000) (hn : 0 ≤ n ∧ n ≤ 999) (hf : 0 ≤ fw ∧ fw ≤ 100000) (hf2 : ∀ y : Int, 0 ≤ y → y < fw → 10000 * y * y < pp_qd (S.I a 11) (S.A (a + 9) s) n) :
    mm_ev E d 48 [.ref (mm_ad B a), .int (mm_i fw), .int (mm_i s), .int (mm_i n)] (mm_hp B S c) = mm_oI (pp_rt (pp_qd (S.I a 11) (S.A (a + 9) s) n)) (mm_hp B S c) := by
  refine mm_v48 ha (by omega) (fun F e hF he => ?_)
  have b := pp_qd_b hz.1 hz.2 hw.1 hw.2 hn.1 hn.2
  simp (disch := omega) only [mm_e48_0, mm_ptN, mm_i2l, mm_hm]
  exact l_root1 (o9 := none) b.1 b.2 20 0 (F + 99) fw fw (by omega) (by omega) hf.1 (by omega) (by have : (2 : Int) ^ 0 = 1 := rfl; omega) (by have : (2 : Int) ^ 0 = 1 := rfl; omega) (by have : (2 : Int) ^ 19 = 524288 := rfl; omega) hf2
theorem pp_rt_is {q : Int} (hq : 0 ≤ q) (hq2 : q < 20000000000000) : pp_isR q (pp_rt q) ∧ pp_rt q ≤ 44722 := by
  -- by counting down from where it surely holds
  have ex : ∀ k : Nat, q ≤ 10000 * (k : Int) * (k : Int) → ∃ x : Int, pp_isR q x ∧ x ≤ k := by
    intro k
    induction k with
    | zero => intro h; exact ⟨0, ⟨by omega, by omega, fun y h1 h2 => by omega⟩, by omega⟩
    | succ k ih =>
      intro h
      by_cases e : q ≤ 10000 * (k : Int) * (k : Int)
      · obtain ⟨x, x1, x2⟩ := ih e
        exact ⟨x, x1, by omega⟩
      · refine ⟨((k + 1 : Nat) : Int), ⟨by omega, h, fun y h1 h2 => ?_⟩, by omega⟩
        have := pp_sq_mono (x := y) (y := (k : Int)) h1 (by omega)
        omega
  obtain ⟨x, x1, x2⟩ := ex 44722 (by omega)
  rw [pp_rt_eq x1]
  exact ⟨x1, x2⟩
theorem c_rootBy {s n : Int} (hd : 2 ≤ d) (ha : a = 3 ∨ a = 14 ∨ a = 25) (hz : 0 ≤ S.I a 11 ∧ S.I a 11 ≤ 400) (h1 : 0 ≤ s) (h2 : s < 12) (hw : 0 ≤ S.A (a + 9) s ∧ S.A (a + 9) s ≤ 120000) (hn : 0 ≤ n ∧ n ≤ 999) : mm_ev E d 47 [.ref (mm_ad B a), .int (mm_i s), .int (mm_i n)] (mm_hp B S c) = mm_oI (pp_rt (pp_qd (S.I a 11) (S.A (a + 9) s) n)) (mm_hp B S c) := by
  refine mm_v47 ha (by omega) (fun F e hF he => ?_)
  rw [mm_e47_0, c_rootFrom (by omega) ha hz h1 h2 hw hn (by omega) (fun y y1 y2 => by omega), mm_cI_ok]
theorem c_boundBy {s n : Int} (hd : 3 ≤ d) (ha : a = 3 ∨ a = 14 ∨ a = 25) (hz : 0 ≤ S.I a 11 ∧ S.I a 11 ≤ 400) (h1 : 0 ≤ s) (h2 : s < 12) (hw : 0 ≤ S.A (a + 9) s ∧ S.A (a + 9) s ≤ 120000) (hn : 0 ≤ n ∧ n ≤ 999) : mm_ev E d 49 [.ref (mm_ad B a), .int (mm_i s), .int (mm_i n)] (mm_hp B S c) = mm_oI (n * S.A (a + 8) s + pp_rt (pp_qd (S.I a 11) (S.A (a + 9) s) n)) (mm_hp B S c) := by
  refine mm_v49 ha (by omega) (fun F e hF he => ?_)
  rw [mm_e49_0]
  simp (disch := omega) only [mm_ptN]
  rw [c_rootBy (by omega) ha hz h1 h2 hw hn]
  simp only [mm_hm]
end ROOT
