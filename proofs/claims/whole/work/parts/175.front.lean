/-! BUDGET, FRONTIER -/
noncomputable def iv_pr (f : Int → Int) (p : Int) : Int := Classical.epsilon (fun v => iv_bp (iv_er f p) v)
theorem iv_pr_eq {f : Int → Int} {p v : Int} (h : iv_bp (iv_er f p) v) : iv_pr f p = v := iv_bp_one (Classical.epsilon_spec (p := fun v => iv_bp (iv_er f p) v) ⟨v, h⟩) h
noncomputable def iv_bg (f : Int → Int) (b : Int) : Nat → Int → Int
  | 0, _ => -1
  | j + 1, p => if iv_pr f p = -1 then iv_bg f b j (p + 1) else if b < iv_pr f p then iv_bg f b j (p + 1) else p
noncomputable def iv_fq (f : Int → Int) (y : Int) : Nat → Int → Int → Int → Option Int
  | 0, m, _, _ => if y = -1 then some m else none
  | j + 1, m, b, p => if iv_pr f p = -1 then iv_fq f y j m b (p + 1) else if b ≤ iv_pr f p then iv_fq f y j m b (p + 1) else if m = y then some p else iv_fq f y j (m + 1) (iv_pr f p) (p + 1)
theorem iv_fq_big {f : Int → Int} {y : Int} (hy : 20 < y) : ∀ (j : Nat) (m b p : Int), m ≤ p → p + j = 21 → iv_fq f y j m b p = none
  | 0, m, b, p, hm, hp => by rw [iv_fq, if_neg (by omega)]
  | j + 1, m, b, p, hm, hp => by
    rw [iv_fq, iv_fq_big hy j m b (p + 1) (by omega) (by omega), iv_fq_big hy j (m + 1) (iv_pr f p) (p + 1) (by omega) (by omega), if_neg (show ¬ m = y by omega)]
    by_cases z : iv_pr f p = -1
    · rw [if_pos z]
    · rw [if_neg z]
      by_cases z2 : b ≤ iv_pr f p
      · rw [if_pos z2]
      · rw [if_neg z2]
section
variable {E : mm_E} {d B : Nat} {S : mm_S} {k : Nat}
theorem l_bgC {f : Int → Int} {b : Int} (hb : iv_n b) (hk : k ≤ 1000) (hd : 6 ≤ d) (c : mm_N) : ∀ (j m : Nat) (p : Int) (o3 : Option Value) (S : mm_S), iv S k → S.A 102 = f → 0 ≤ p → p + j = 21 → j < m → ∃ T, mm_r121_2 E (mm_ev E d) m (mm_ad B 0) (mm_i b) (mm_i p) o3 (mm_hp B S c) = mm_oI (iv_bg f b j p) (mm_hp B T c) ∧ iv T k ∧ T.A 102 = f := by
  have b1 := hb.1
  have b2 := hb.2
  intro j
  induction j with
  | zero =>
    intro m p o3 S h hf p0 hp hm
    obtain ⟨m, rfl⟩ : ∃ q, m = q + 1 := ⟨m - 1, by omega⟩
    refine ⟨S, ?_, h, hf⟩
    rw [mm_e121_2]
    simp (disch := omega) only [mm_br_lt]
    rw [if_pos (by omega), iv_bg]
  | succ j ih =>
    intro m p o3 S h hf p0 hp hm
    obtain ⟨m, rfl⟩ : ∃ q, m = q + 1 := ⟨m - 1, by omega⟩
    obtain ⟨T, v, t1, t2, t3, t4, t5⟩ := iv_evC (E := E) (d := d) (B := B) h hk hd p0 (by omega) c
    have r := iv_bp_r E S (iv_er_RO h.2.1.1 p0 (by omega)) t2
    rw [hf] at t2 t4
    have pv := iv_pr_eq t2
    obtain ⟨U, u1, u2, u3⟩ := ih m (p + 1) (some (.int (mm_i v))) T t3 t4 (by omega) (by omega) (by omega)
    rw [mm_e121_2]
    simp (disch := omega) only [mm_br_lt]
    rw [if_neg (by omega), t1, mm_cI_ok, mm_br_eq (by omega) (by omega) (by omega) (by omega), mm_br_lt (by omega) (by omega) (by omega) (by omega), mm_i_add, iv_bg, pv]
    by_cases z : v = -1
    · rw [if_pos z, if_pos z]
      exact ⟨U, u1, u2, u3⟩
    · rw [if_neg z, if_neg z]
      by_cases z2 : b < v
      · rw [if_pos z2, if_pos z2]
        exact ⟨U, u1, u2, u3⟩
      · rw [if_neg z2, if_neg z2]
        exact ⟨T, rfl, t3, t4⟩
theorem l_bgM {f : Int → Int} {b : Int} (hb : iv_n b) (hd : 20 ≤ d) (c : mm_N) : ∀ (j m : Nat) (p : Int) (o3 : Option Value) (S : mm_S), iv S k → S.A 102 = f → 0 ≤ p → p + j = 21 → j < m → ∃ T, mm_r210_7 E (mm_ev E d) m (mm_ad B 101) (mm_i b) (mm_i p) o3 (mm_hp B S c) = mm_oI (iv_bg f b j p) (mm_hp B T c) ∧ iv T k ∧ T.A 102 = f := by
  have b1 := hb.1
  have b2 := hb.2
  intro j
  induction j with
  | zero =>
    intro m p o3 S h hf p0 hp hm
    obtain ⟨m, rfl⟩ : ∃ q, m = q + 1 := ⟨m - 1, by omega⟩
    refine ⟨S, ?_, h, hf⟩
    rw [mm_e210_7]
    simp (disch := omega) only [mm_br_lt]
    rw [if_pos (by omega), iv_bg]
  | succ j ih =>
    intro m p o3 S h hf p0 hp hm
    obtain ⟨m, rfl⟩ : ∃ q, m = q + 1 := ⟨m - 1, by omega⟩
    obtain ⟨T, v, t1, t2, r, t3, _, _, t4, t5⟩ := iv_evM (E := E) (d := d) (B := B) h hd p0 (show p ≤ 20 by omega) c
    rw [hf] at t2 t4
    have pv := iv_pr_eq t2
    obtain ⟨U, u1, u2, u3⟩ := ih m (p + 1) (some (.int (mm_i v))) T t3 t4 (by omega) (by omega) (by omega)
    rw [mm_e210_7]
    simp (disch := omega) only [mm_br_lt]
    rw [if_neg (by omega), t1, mm_cI_ok, mm_br_eq (by omega) (by omega) (by omega) (by omega), mm_br_lt (by omega) (by omega) (by omega) (by omega), mm_i_add, iv_bg, pv]
    by_cases z : v = -1
    · rw [if_pos z, if_pos z]
      exact ⟨U, u1, u2, u3⟩
    · rw [if_neg z, if_neg z]
      by_cases z2 : b < v
      · rw [if_pos z2, if_pos z2]
        exact ⟨U, u1, u2, u3⟩
      · rw [if_neg z2, if_neg z2]
        exact ⟨T, rfl, t3, t4⟩
theorem i_budget (h : iv S k) (hk : k ≤ 1000) (hd : 22 ≤ d) {b : Int} (hb : iv_n b) : iv_ok0 E B d S k 121 [.ref (mm_ad B 0), .int (mm_i b)] 210 [.ref (mm_ad B 101), .int (mm_i b)] := by
  intro c
  obtain ⟨e, rfl⟩ : ∃ e, d = e + 1 := ⟨d - 1, by omega⟩
  obtain ⟨F, hF, he⟩ := mm_w121 E e B S c (mm_i b)
  obtain ⟨T, t1, t2, t3⟩ := l_bgC (E := E) (d := e) (B := B) (k := k) hb hk (by omega) c 21 (F + 99) 0 none S h rfl (by omega) (by omega) (by omega)
  obtain ⟨G, hG, ge⟩ := mm_w210 E e B T c (mm_i b)
  obtain ⟨U, u1, u2, u3⟩ := l_bgM (E := E) (d := e) (B := B) (k := k) hb (by omega) c 21 (G + 99) 0 none (T.sI 101 0 0) (iv_sc t2 0) t3 (by omega) (by omega) (by omega)
  refine ⟨T, U, iv_bg (S.A 102) b 21 0, ?_, ?_, iv_up u2 (by omega)⟩
  · rw [he, mm_e121_0, t1]
  · rw [ge, mm_e210_0]
    simp (disch := omega) only [mm_ptM]
    rw [u1]
theorem l_fqC {f : Int → Int} {y : Int} (hy : -1 ≤ y ∧ y ≤ 20) (hk : k ≤ 1000) (hd : 6 ≤ d) (c : mm_N) : ∀ (j m : Nat) (p n b x : Int) (o5 : Option Value) (S : mm_S), iv S k → S.A 102 = f → (0 ≤ n ∧ n ≤ p) → p + j = 21 → 2 * j < m → ((x = -1 ∧ b = 1000000000) ∨ (x = b ∧ 0 ≤ b ∧ b < 1000000000)) → ∃ T, mm_r129_29 E (mm_ev E d) m (mm_ad B 0) (mm_i y) (mm_i n) (mm_i x) (mm_i p) o5 (mm_hp B S c) = iv_cR B T c (iv_fq f y j n b p) ∧ iv T k ∧ T.A 102 = f := by
  intro j
  induction j with
  | zero =>
    intro m p n b x o5 S h hf hn hp hm hx
    obtain ⟨m, rfl⟩ : ∃ q, m = q + 1 := ⟨m - 1, by omega⟩
    refine ⟨S, ?_, h, hf⟩
    rw [mm_e129_29]
    simp (disch := omega) only [mm_br_lt, mm_br_eq]
    rw [if_pos (by omega), iv_fq]
    by_cases e : y = -1
    · rw [if_pos e, if_pos e]; rfl
    · rw [if_neg e, if_neg e]; rfl
  | succ j ih =>
    intro m p n b x o5 S h hf hn hp hm hx
    obtain ⟨m, rfl⟩ : ∃ q, m = q + 2 := ⟨m - 2, by omega⟩
    obtain ⟨T, v, t1, t2, t3, t4, t5⟩ := iv_evC (E := E) (d := d) (B := B) h hk hd (show 0 ≤ p by omega) (by omega) c
    have r := iv_bp_r E S (iv_er_RO h.2.1.1 (show 0 ≤ p by omega) (by omega)) t2
    rw [hf] at t2 t4
    have pv := iv_pr_eq t2
    have xr : -1 ≤ x ∧ x < 1000000000 := by rcases hx with g | g <;> omega
    obtain ⟨U, u1, u2, u3⟩ := ih (m + 1) (p + 1) n b x (some (.int (mm_i v))) T t3 t4 (by omega) (by omega) (by omega) hx
    rw [mm_e129_29]
    simp (disch := omega) only [mm_br_lt]
    rw [if_neg (by omega), t1, mm_cI_ok, mm_br_eq (by omega) (by omega) (by omega) (by omega), mm_br_eq (by omega) (by omega) (by omega) (by omega), mm_br_le (by omega) (by omega) (by omega) (by omega), mm_i_add, iv_fq, pv]
    by_cases z : v = -1
    · rw [if_pos z, if_pos z]
      exact ⟨U, u1, u2, u3⟩
    · have v0 : 0 ≤ v ∧ v < 1000000000 := by rcases r with g | g <;> omega
      rw [if_neg z, if_neg z]
      obtain ⟨W, w1, w2, w3⟩ := ih m (p + 1) (n + 1) v v (some (.int (mm_i v))) T t3 t4 (by omega) (by omega) (by omega) (Or.inr ⟨rfl, v0⟩)
      have k1 : ∃ T', mm_r129_64 E (mm_ev E d) (m + 1) (mm_ad B 0) (mm_i y) (mm_i n) (mm_i v) (mm_i p) (mm_i v) (mm_hp B T c) = iv_cR B T' c (if n = y then some p else iv_fq f y j (n + 1) v (p + 1)) ∧ iv T' k ∧ T'.A 102 = f := by
        rw [mm_e129_64]
        simp (disch := omega) only [mm_br_eq, mm_hm]
        by_cases e : n = y
        · rw [if_pos e, if_pos e]
          exact ⟨T, rfl, t3, t4⟩
        · rw [if_neg e, if_neg e]
          exact ⟨W, w1, w2, w3⟩
      by_cases z1 : x = -1
      · have eb : b = 1000000000 := by rcases hx with g | g <;> omega
        rw [if_pos z1, if_neg (by omega)]
        exact k1
      · have eb : x = b := by rcases hx with g | g <;> omega
        rw [if_neg z1, eb]
        by_cases z2 : b ≤ v
        · rw [if_pos z2, if_pos z2]
          rw [eb] at u1
          exact ⟨U, u1, u2, u3⟩
        · rw [if_neg z2, if_neg z2]
          exact k1
theorem l_fqM {f : Int → Int} {y : Int} (hy : iv_n y) (hd : 20 ≤ d) (c : mm_N) : ∀ (j m : Nat) (p n b : Int) (o5 : Option Value) (S : mm_S), iv S k → S.A 102 = f → (0 ≤ n ∧ n ≤ p) → p + j = 21 → 2 * j < m → (0 ≤ b ∧ b ≤ 1000000000) → ∃ T, mm_r212_8 E (mm_ev E d) m (mm_ad B 101) (mm_i y) (mm_i n) (mm_i b) (mm_i p) o5 (mm_hp B S c) = mm_oI ((iv_fq f y j n b p).getD (-2)) (mm_hp B T c) ∧ iv T k ∧ T.A 102 = f ∧ T.L = S.L ∧ T.I 101 0 = S.I 101 0 := by
  have y1 := hy.1
  have y2 := hy.2
  intro j
  induction j with
  | zero =>
    intro m p n b o5 S h hf hn hp hm hx
    obtain ⟨m, rfl⟩ : ∃ q, m = q + 1 := ⟨m - 1, by omega⟩
    refine ⟨S, ?_, h, hf, rfl, rfl⟩
    rw [mm_e212_8]
    simp (disch := omega) only [mm_br_lt, mm_br_eq]
    rw [if_pos (by omega), iv_fq]
    by_cases e : y = -1
    · rw [if_pos e, if_pos e]; rfl
    · rw [if_neg e, if_neg e]; rfl
  | succ j ih =>
    intro m p n b o5 S h hf hn hp hm hx
    obtain ⟨m, rfl⟩ : ∃ q, m = q + 2 := ⟨m - 2, by omega⟩
    obtain ⟨T, v, t1, t2, r, t3, t6, t7, t4, t5⟩ := iv_evM (E := E) (d := d) (B := B) h hd (show 0 ≤ p by omega) (show p ≤ 20 by omega) c
    rw [hf] at t2 t4
    have pv := iv_pr_eq t2
    obtain ⟨U, u1, u2, u3, u4, u5⟩ := ih (m + 1) (p + 1) n b (some (.int (mm_i v))) T t3 t4 (by omega) (by omega) (by omega) hx
    rw [mm_e212_8]
    simp (disch := omega) only [mm_br_lt]
    rw [if_neg (by omega), t1, mm_cI_ok, mm_br_eq (by omega) (by omega) (by omega) (by omega), mm_br_eq (by omega) (by omega) (by omega) (by omega), mm_br_lt (by omega) (by omega) (by omega) (by omega), mm_i_add, mm_i_add, iv_fq, pv]
    by_cases z : v = -1
    · rw [if_pos z, if_pos z]
      exact ⟨U, u1, u2, u3, by rw [u4, t6], by rw [u5, t7]⟩
    · have v0 : 0 ≤ v ∧ v < 1000000000 := by rcases r with g | g <;> omega
      rw [if_neg z, if_neg z]
      obtain ⟨W, w1, w2, w3, w4, w5⟩ := ih (m + 1) (p + 1) (n + 1) v (some (.int (mm_i v))) T t3 t4 (by omega) (by omega) (by omega) (by omega)
      by_cases z2 : b ≤ v
      · rw [if_neg (by omega), if_pos z2]
        exact ⟨U, u1, u2, u3, by rw [u4, t6], by rw [u5, t7]⟩
      · rw [if_pos (by omega), if_neg z2]
        by_cases e : n = y
        · rw [if_pos e, if_pos e]
          exact ⟨T, rfl, t3, t4, t6, t7⟩
        · rw [if_neg e, if_neg e]
          exact ⟨W, w1, w2, w3, by rw [w4, t6], by rw [w5, t7]⟩
end
