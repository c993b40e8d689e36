/-! A NET GROWS, IS EMPTIED; the model's rows likewise -/
section OPS
variable {E : mm_E} {d B : Nat} {S : mm_S} {c : mm_N} {a : Nat}
/-- nothing told yet -/
def pp_t0 (w : Int) : Int := if w = 5 ∨ w = 6 then -1 else 0
theorem l_grow (hd : 1 ≤ d) (ha : a = 3 ∨ a = 14 ∨ a = 25) (h0 : 0 ≤ S.I a 10) (h1 : S.I a 10 < 12) : ∀ (j k n : Nat) (f : Int → Int), k + j = 7 → j < n → (∀ w : Int, 0 ≤ w → w < k → f (S.I a 10 * 7 + w) = pp_t0 w) → ∃ f', (∀ w : Int, 0 ≤ w → w < 7 → f' (S.I a 10 * 7 + w) = pp_t0 w) ∧ (∀ i : Int, ¬ (S.I a 10 * 7 ≤ i ∧ i < S.I a 10 * 7 + 7) → f' i = f i) ∧ mm_r36_15 E (mm_ev E d) n (mm_ad B a) (mm_i (S.I a 10)) (mm_i k) (mm_hp B (S.sA (a + 1) f) c) = mm_oI (S.I a 10) (mm_hp B ((S.sI a 10 (S.I a 10 + 1)).sA (a + 1) f') c) := by
  intro j
  induction j with
  | zero =>
    intro k n f hk hn hf
    obtain ⟨n, rfl⟩ : ∃ q, n = q + 1 := ⟨n - 1, by omega⟩
    refine ⟨f, fun w w1 w2 => hf w w1 (by omega), fun i _ => rfl, ?_⟩
    rw [mm_e36_15]
    simp (disch := omega) only [mm_br_le]
    rw [if_pos (by omega)]
    simp (disch := omega) only [mm_ptN, mm_gs, mm_hm, pp_cm]
  | succ j ih =>
    intro k n f hk hn hf
    obtain ⟨n, rfl⟩ : ∃ q, n = q + 1 := ⟨n - 1, by omega⟩
    obtain ⟨f', q1, q2, q3⟩ := ih (k + 1) n (mm_u f (S.I a 10 * 7 + k) (pp_t0 k)) (by omega) (by omega) (fun w w1 w2 => by
      by_cases e : w = k
      · rw [e, mm_u_eq]
      · rw [mm_u_ne (by omega)]; exact hf w w1 (by omega))
    refine ⟨f', q1, fun i hi => by rw [q2 i hi, mm_u_ne (by omega)], ?_⟩
    rw [Int.natCast_add, Int.natCast_one] at q3
    rw [← q3, mm_e36_15]
    simp (disch := omega) only [mm_br_le, mm_br_eq, c_tell, mm_hm, mm_gs]
    rw [if_neg (by omega)]
    unfold pp_t0
    by_cases e5 : (k : Int) = 5
    · rw [if_pos e5, if_pos (Or.inl e5)]
    · rw [if_neg e5]
      by_cases e6 : (k : Int) = 6
      · rw [if_pos e6, if_pos (Or.inr e6)]
      · rw [if_neg e6, if_neg (by omega)]
theorem c_grow (hd : 2 ≤ d) (ha : a = 3 ∨ a = 14 ∨ a = 25) (h0 : 0 ≤ S.I a 10) (h1 : S.I a 10 < 12) : ∃ f', (∀ w : Int, 0 ≤ w → w < 7 → f' (S.I a 10 * 7 + w) = pp_t0 w) ∧ (∀ i : Int, ¬ (S.I a 10 * 7 ≤ i ∧ i < S.I a 10 * 7 + 7) → f' i = S.A (a + 1) i) ∧ mm_ev E d 36 [.ref (mm_ad B a)] (mm_hp B S c) = mm_oI (S.I a 10) (mm_hp B ((S.sI a 10 (S.I a 10 + 1)).sA (a + 1) f') c) := by
  obtain ⟨e, rfl⟩ : ∃ e, d = e + 1 := ⟨d - 1, by omega⟩
  obtain ⟨F, hF, h⟩ := mm_w36 E e B S c a ha
  obtain ⟨f', q1, q2, q3⟩ := l_grow (E := E) (d := e) (B := B) (S := S) (c := c) (by omega) ha h0 h1 7 0 (F + 99) (S.A (a + 1)) (by omega) (by omega) (fun w w1 w2 => by omega)
  rw [pp_sA_id] at q3
  refine ⟨f', q1, q2, ?_⟩
  rw [h, mm_e36_0]
  simp (disch := omega) only [mm_ptN, mm_br_lt]
  rw [if_pos h1]
  exact q3
theorem l_fill {cl : mm_F} {x n : Nat} {v : Int} (hx : mm_sh x = some (.inr (.inl n))) (hn : n ≤ 4000) : ∀ (j k m : Nat), k + j = n → j < m → mm_r286_5 E cl m (mm_ad B x) (mm_i v) (mm_i k) (mm_i n) (mm_hp B (S.sA x (pp_fl (fun _ => v) (S.A x) k)) c) = mm_oV (mm_hp B (S.sA x (pp_fl (fun _ => v) (S.A x) n)) c) := by
  intro j
  induction j with
  | zero =>
    intro k m hk hm
    obtain ⟨m, rfl⟩ : ∃ q, m = q + 1 := ⟨m - 1, by omega⟩
    rw [mm_e286_5, mm_br_le (by omega) (by omega) (by omega) (by omega), if_pos (by omega), show (k : Int) = n by omega]
  | succ j ih =>
    intro k m hk hm
    obtain ⟨m, rfl⟩ : ∃ q, m = q + 1 := ⟨m - 1, by omega⟩
    have ih := ih (k + 1) m (by omega) (by omega)
    rw [Int.natCast_add, Int.natCast_one] at ih
    rw [mm_e286_5, mm_br_le (by omega) (by omega) (by omega) (by omega), if_neg (by omega), mm_pwI hx (by omega) (by omega) (by omega), ← ih, ← pp_fl_st (by omega), mm_gs.2.2.2.2.2.2.2.2.1, mm_gs.2.2.2.2.2.2.2.2.2.2.2.2.2.2.2.2.1, mm_i_add]
theorem c_fill {x n : Nat} {v : Int} (hd : 1 ≤ d) (hx : mm_sh x = some (.inr (.inl n))) (hn : n ≤ 4000) : mm_ev E d 286 [.ref (mm_ad B x), .int (mm_i v)] (mm_hp B S c) = mm_oV (mm_hp B (S.sA x (pp_fl (fun _ => v) (S.A x) n)) c) := by
  refine mm_v286 (by omega) (fun F e hF he => ?_)
  rw [mm_e286_0, mm_plI hx]
  have l := l_fill (E := E) (B := B) (S := S) (c := c) (cl := mm_ev E e) (v := v) hx hn n 0 (F + 99) (by omega) (by omega)
  rw [Int.natCast_zero, pp_fl_0, pp_sA_id] at l
  exact l
theorem c_empty (hd : 2 ≤ d) (ha : a = 3 ∨ a = 14 ∨ a = 25) : mm_ev E d 33 [.ref (mm_ad B a)] (mm_hp B S c) = mm_oV (mm_hp B (((((((S.sI a 10 0).sI a 11 165).sA (a + 2) (pp_fl (fun _ => 0) (S.A (a + 2)) 72)).sA (a + 3) (pp_fl (fun _ => 0) (S.A (a + 3)) 12)).sA (a + 4) (pp_fl (fun _ => 0) (S.A (a + 4)) 12)).sA (a + 5) (pp_fl (fun _ => 0) (S.A (a + 5)) 12)).sA (a + 6) (pp_fl (fun _ => 0) (S.A (a + 6)) 480)) c) := by
  refine mm_v33 ha (by omega) (fun F e hF he => ?_)
  rw [mm_e33_0]
  simp (disch := omega) only [mm_ptN]
  rw [c_fill (by omega) (mm_shN2 ha) (by omega), mm_cV_ok]
  simp (disch := omega) only [mm_ptN]
  rw [c_fill (by omega) (mm_shN3 ha) (by omega), mm_cV_ok]
  simp (disch := omega) only [mm_ptN]
  rw [c_fill (by omega) (mm_shN4 ha) (by omega), mm_cV_ok]
  simp (disch := omega) only [mm_ptN]
  rw [c_fill (by omega) (mm_shN5 ha) (by omega), mm_cV_ok, mm_e33_44]
  simp (disch := omega) only [mm_ptN]
  rw [c_fill (by omega) (mm_shN6 ha) (by omega), mm_cV_ok]
  simp (disch := omega) only [mm_gs, pp_ne]
  rfl
-- the model's rows
theorem m_join {r : Nat} {i j : Int} (hd : 1 ≤ d) (hr : mm_sh r = some (.inr (.inl 190))) (h0 : 0 ≤ S.A r 2) (h1 : S.A r 2 ≤ 14) : mm_ev E d 154 [.ref (mm_ad B r), .int (mm_i i), .int (mm_i j)] (mm_hp B S c) = mm_oV (mm_hp B (S.sA r (mm_u (mm_u (mm_u (S.A r) (159 + 2 * S.A r 2) i) (159 + 2 * S.A r 2 + 1) j) 2 (S.A r 2 + 1))) c) := by
  refine mm_v154 (by omega) (fun F e hF he => ?_)
  rw [mm_e154_0, mm_prI hr (by omega) (by omega) (by omega)]
  simp only [mm_hm]
  rw [mm_pwI hr (by omega) (by omega) (by omega), mm_prI hr (by omega) (by omega) (by omega)]
  simp (disch := omega) only [mm_gs, pp_ue, mm_hm]
  rw [mm_pwI hr (by omega) (by omega) (by omega), mm_e154_26, mm_prI hr (by omega) (by omega) (by omega)]
  simp (disch := omega) only [mm_gs, pp_ue, mm_hm]
  rw [mm_pwI hr (by omega) (by omega) (by omega)]
  simp (disch := omega) only [mm_gs]
theorem l_lay {r : Nat} {s dy co : Int} {cl : mm_F} (hr : mm_sh r = some (.inr (.inl 190))) (h0 : 0 ≤ s) (h1 : s < 12) : ∀ (j k n : Nat) (f : Int → Int), k + j = 7 → j + 1 < n → (∀ w : Int, 0 ≤ w → w < k → f (3 + 7 * s + w) = 0) → ∃ f', (f' (3 + 7 * s + 0) = dy ∧ f' (3 + 7 * s + 1) = co ∧ f' (3 + 7 * s + 2) = 0 ∧ f' (3 + 7 * s + 3) = 0 ∧ f' (3 + 7 * s + 4) = 0 ∧ f' (3 + 7 * s + 5) = -1 ∧ f' (3 + 7 * s + 6) = -1) ∧ (∀ i : Int, ¬ (3 + 7 * s ≤ i ∧ i < 3 + 7 * s + 7) → f' i = f i) ∧ mm_r153_11 E cl n (mm_ad B r) (mm_i s) (mm_i dy) (mm_i co) (mm_i (3 + 7 * s)) (mm_i k) (mm_hp B (S.sA r f) c) = mm_oV (mm_hp B (S.sA r f') c) := by
  intro j
  induction j with
  | zero =>
    intro k n f hk hn hf
    obtain ⟨n, rfl⟩ : ∃ q, n = q + 2 := ⟨n - 2, by omega⟩
    refine ⟨mm_u (mm_u (mm_u (mm_u f (3 + 7 * s + 0) dy) (3 + 7 * s + 1) co) (3 + 7 * s + 5) (-1)) (3 + 7 * s + 6) (-1), ⟨?_, ?_, ?_, ?_, ?_, ?_, ?_⟩, fun i hi => ?_, ?_⟩
    · simp (disch := omega) only [pp_ue]
    · simp (disch := omega) only [pp_ue]
    · simp (disch := omega) only [pp_ue]; exact hf 2 (by omega) (by omega)
    · simp (disch := omega) only [pp_ue]; exact hf 3 (by omega) (by omega)
    · simp (disch := omega) only [pp_ue]; exact hf 4 (by omega) (by omega)
    · simp (disch := omega) only [pp_ue]
    · simp (disch := omega) only [pp_ue]
    · simp (disch := omega) only [pp_ue]
    · rw [mm_e153_11, mm_br_le (by omega) (by omega) (by omega) (by omega), if_pos (by omega)]
      simp only [mm_hm]
      rw [mm_pwI hr (by omega) (by omega) (by omega), mm_pwI hr (by omega) (by omega) (by omega), mm_pwI hr (by omega) (by omega) (by omega), mm_e153_53]
      simp only [mm_hm]
      rw [mm_pwI hr (by omega) (by omega) (by omega)]
      simp (disch := omega) only [mm_gs]
  | succ j ih =>
    intro k n f hk hn hf
    obtain ⟨n, rfl⟩ : ∃ q, n = q + 1 := ⟨n - 1, by omega⟩
    obtain ⟨f', q1, q2, q3⟩ := ih (k + 1) n (mm_u f (3 + 7 * s + k) 0) (by omega) (by omega) (fun w w1 w2 => by
      by_cases e : w = k
      · rw [e, mm_u_eq]
      · rw [mm_u_ne (by omega)]; exact hf w w1 (by omega))
    refine ⟨f', q1, fun i hi => by rw [q2 i hi, mm_u_ne (by omega)], ?_⟩
    rw [Int.natCast_add, Int.natCast_one] at q3
    rw [← q3, mm_e153_11, mm_br_le (by omega) (by omega) (by omega) (by omega), if_neg (by omega)]
    simp only [mm_hm]
    rw [mm_pwI hr (by omega) (by omega) (by omega)]
    simp (disch := omega) only [mm_gs]
theorem m_lay {r : Nat} {s dy co : Int} (hd : 1 ≤ d) (hr : mm_sh r = some (.inr (.inl 190))) (h0 : 0 ≤ s) (h1 : s < 12) : ∃ f', (f' (3 + 7 * s + 0) = dy ∧ f' (3 + 7 * s + 1) = co ∧ f' (3 + 7 * s + 2) = 0 ∧ f' (3 + 7 * s + 3) = 0 ∧ f' (3 + 7 * s + 4) = 0 ∧ f' (3 + 7 * s + 5) = -1 ∧ f' (3 + 7 * s + 6) = -1) ∧ (∀ i : Int, ¬ (3 + 7 * s ≤ i ∧ i < 3 + 7 * s + 7) → f' i = S.A r i) ∧ mm_ev E d 153 [.ref (mm_ad B r), .int (mm_i s), .int (mm_i dy), .int (mm_i co)] (mm_hp B S c) = mm_oV (mm_hp B (S.sA r f') c) := by
  obtain ⟨e, rfl⟩ : ∃ e, d = e + 1 := ⟨d - 1, by omega⟩
  obtain ⟨F, hF, h⟩ := mm_w153 E e B S c (mm_ad B r) (mm_i s) (mm_i dy) (mm_i co)
  obtain ⟨f', q1, q2, q3⟩ := l_lay (E := E) (B := B) (S := S) (c := c) (dy := dy) (co := co) (cl := mm_ev E e) hr h0 h1 7 0 (F + 99) (S.A r) (by omega) (by omega) (fun w w1 w2 => by omega)
  rw [pp_sA_id] at q3
  refine ⟨f', q1, q2, ?_⟩
  rw [h, mm_e153_0]
  simp only [mm_hm]
  exact q3
theorem l_bare {r : Nat} {cl : mm_F} (hr : mm_sh r = some (.inr (.inl 190))) : ∀ (j k n : Nat), k + j = 190 → j < n → mm_r149_2 E cl n (mm_ad B r) (mm_i k) (mm_hp B (S.sA r (pp_fl (fun _ => 0) (S.A r) k)) c) = mm_oV (mm_hp B (S.sA r (mm_u (pp_fl (fun _ => 0) (S.A r) 190) 1 165)) c) := by
  intro j
  induction j with
  | zero =>
    intro k n hk hn
    obtain ⟨n, rfl⟩ : ∃ q, n = q + 1 := ⟨n - 1, by omega⟩
    rw [mm_e149_2, mm_br_le (by omega) (by omega) (by omega) (by omega), if_pos (by omega), mm_pwI hr (by omega) (by omega) (by omega), show (k : Int) = 190 by omega]
    simp (disch := omega) only [mm_gs]
  | succ j ih =>
    intro k n hk hn
    obtain ⟨n, rfl⟩ : ∃ q, n = q + 1 := ⟨n - 1, by omega⟩
    have ih := ih (k + 1) n (by omega) (by omega)
    rw [Int.natCast_add, Int.natCast_one] at ih
    rw [mm_e149_2, mm_br_le (by omega) (by omega) (by omega) (by omega), if_neg (by omega), mm_pwI hr (by omega) (by omega) (by omega), ← ih, ← pp_fl_st (by omega)]
    simp (disch := omega) only [mm_gs, mm_hm]
theorem m_bare {r : Nat} (hd : 1 ≤ d) (hr : mm_sh r = some (.inr (.inl 190))) : mm_ev E d 149 [.ref (mm_ad B r)] (mm_hp B S c) = mm_oV (mm_hp B (S.sA r (mm_u (pp_fl (fun _ => 0) (S.A r) 190) 1 165)) c) := by
  refine mm_v149 (by omega) (fun F e hF he => ?_)
  rw [mm_e149_0]
  have l := l_bare (E := E) (B := B) (S := S) (c := c) (cl := mm_ev E e) hr 190 0 (F + 99) (by omega) (by omega)
  rw [Int.natCast_zero, pp_fl_0, pp_sA_id] at l
  exact l
theorem pp_pcp {x y n : Nat} {m : Int} (h1 : mm_sh x = some (.inr (.inl n))) (h2 : mm_sh y = some (.inr (.inl n))) (hn : n ≤ 2147483647) (hm : m = n) (κ : mm_H → mm_R) : mm_cp (mm_hp B S c) (mm_ad B x) (mm_i 0) (mm_ad B y) (mm_i 0) (mm_i m) κ = κ (mm_hp B (S.sA y (fun j => if 0 ≤ j ∧ j < m then S.A x j else S.A y j)) c) := by
  subst hm
  exact mm_pcp h1 h2 hn κ
/-- a Net becomes another one's network -/
theorem c_becomeN {b : Nat} (hd : 4 ≤ d) (ha : a = 3 ∨ a = 14 ∨ a = 25) (hb : b = 3 ∨ b = 14 ∨ b = 25) (hab : a ≠ b) (hN : pp_NK S b) (hG : pp_GK S b) (hL : ∀ s : Int, 0 ≤ s → s < 12 → 0 ≤ S.A (a + 10) s ∧ S.A (a + 10) s ≤ 200) : ∃ T : mm_S, pp_NT T a ∧ T.I a 10 = S.I b 10 ∧ T.I a 11 = S.I b 11 ∧ T.I a 12 = S.I a 12 + 1 ∧ (∀ i : Int, 0 ≤ i → i < 84 → T.A (a + 1) i = S.A (b + 1) i) ∧ (∀ i : Int, 0 ≤ i → i < 12 → T.A (a + 3) i = S.A (b + 3) i ∧ T.A (a + 4) i = S.A (b + 4) i) ∧ (∀ x k, x ≠ a → T.I x k = S.I x k) ∧ T.J = S.J ∧ T.L = S.L ∧ (∀ x, x ≠ a + 1 → x ≠ a + 3 → x ≠ a + 4 → x ≠ a + 7 → x ≠ a + 8 → x ≠ a + 9 → x ≠ a + 10 → T.A x = S.A x) ∧ mm_ev E d 35 [.ref (mm_ad B a), .ref (mm_ad B b)] (mm_hp B S c) = mm_oV (mm_hp B T c) := by
  obtain ⟨e, rfl⟩ : ∃ e, d = e + 1 := ⟨d - 1, by omega⟩
  obtain ⟨F, hF, h⟩ := mm_w35 E e B S c a ha (mm_ad B b)
  -- the copied state
  have hX : ∃ X : mm_S, X = ((((S.sI a 10 (S.I b 10)).sI a 11 (S.I b 11)).sA (a + 1) (fun j => if 0 ≤ j ∧ j < 84 then S.A (b + 1) j else S.A (a + 1) j)).sA (a + 3) (fun j => if 0 ≤ j ∧ j < 12 then S.A (b + 3) j else S.A (a + 3) j)).sA (a + 4) (fun j => if 0 ≤ j ∧ j < 12 then S.A (b + 4) j else S.A (a + 4) j) := ⟨_, rfl⟩
  obtain ⟨X, eX⟩ := hX
  have x10 : X.I a 10 = S.I b 10 := by rw [eX]; simp (disch := omega) only [mm_gs, pp_ne]
  have x11 : X.I a 11 = S.I b 11 := by rw [eX]; simp (disch := omega) only [mm_gs, pp_ne]
  have x12 : X.I a 12 = S.I a 12 := by rw [eX]; simp (disch := omega) only [mm_gs, pp_ne]
  have x1 : X.A (a + 1) = fun j => if 0 ≤ j ∧ j < 84 then S.A (b + 1) j else S.A (a + 1) j := by rw [eX]; simp (disch := omega) only [mm_gs, pp_ne]
  have x3 : X.A (a + 3) = fun j => if 0 ≤ j ∧ j < 12 then S.A (b + 3) j else S.A (a + 3) j := by rw [eX]; simp (disch := omega) only [mm_gs, pp_ne]
  have x4 : X.A (a + 4) = fun j => if 0 ≤ j ∧ j < 12 then S.A (b + 4) j else S.A (a + 4) j := by rw [eX]; simp (disch := omega) only [mm_gs, pp_ne]
  have x10' : X.A (a + 10) = S.A (a + 10) := by rw [eX]; simp (disch := omega) only [mm_gs, pp_ne]
  have v3 : ∀ i : Int, 0 ≤ i → i < 12 → X.A (a + 3) i = S.A (b + 3) i := fun i i1 i2 => by rw [x3]; exact if_pos ⟨i1, i2⟩
  have v4 : ∀ i : Int, 0 ≤ i → i < 12 → X.A (a + 4) i = S.A (b + 4) i := fun i i1 i2 => by rw [x4]; exact if_pos ⟨i1, i2⟩
  have v1 : ∀ i : Int, 0 ≤ i → i < 84 → X.A (a + 1) i = S.A (b + 1) i := fun i i1 i2 => by rw [x1]; exact if_pos ⟨i1, i2⟩
  have hn := hN.1
  have eW : pp_Wf (X.I a 10) (X.A (a + 3)) = pp_Wf (S.I b 10) (S.A (b + 3)) := by
    funext u v
    rw [x10]
    by_cases r : 0 ≤ u ∧ u < S.I b 10 ∧ 0 ≤ v ∧ v < S.I b 10
    · rw [pp_Wf_eq r, pp_Wf_eq r, v3 v r.2.2.1 (by omega)]
    · unfold pp_Wf; rw [decide_eq_false r]; rfl
  have hNX : pp_NK X a := by
    refine ⟨by rw [x10]; exact hN.1, by rw [x11]; exact hN.2.1, fun s s1 s2 => by rw [v3 s s1 s2]; exact hN.2.2.1 s s1 s2, fun s s1 s2 => by rw [v4 s s1 s2]; exact hN.2.2.2.1 s s1 s2, fun s s1 s2 => ?_⟩
    have t := hN.2.2.2.2 s s1 s2
    unfold pp_tR at t ⊢
    rw [v1 (s * 7 + 0) (by omega) (by omega), v1 (s * 7 + 1) (by omega) (by omega), v1 (s * 7 + 2) (by omega) (by omega), v1 (s * 7 + 3) (by omega) (by omega), v1 (s * 7 + 4) (by omega) (by omega), v1 (s * 7 + 5) (by omega) (by omega), v1 (s * 7 + 6) (by omega) (by omega)]
    exact t
  have hGX : pp_GK X a := by
    refine ⟨fun i j i1 i2 j1 j2 z => ?_, fun i j i1 i2 j1 j2 => ?_, by rw [eW]; exact hG.2.2.1, by rw [eW]; exact hG.2.2.2⟩
    · rw [v3 j j1 j2] at z
      rw [x10]
      exact hG.1 i j i1 i2 j1 j2 z
    · rw [v4 i i1 i2, v3 j j1 j2]
      exact hG.2.1 i j i1 i2 j1 j2
  obtain ⟨ord, fl, wd, L, st, ev⟩ := c_settle (E := E) (d := e) (B := B) (S := X) (c := c) (by omega) ha hNX hGX (by rw [x10']; exact hL)
  have hT : ∃ T : mm_S, T = ((((X.sI a 12 (X.I a 12 + 1)).sA (a + 7) ord).sA (a + 8) fl).sA (a + 9) wd).sA (a + 10) L := ⟨_, rfl⟩
  obtain ⟨T, eT⟩ := hT
  rw [← eT] at ev
  have t10 : T.I a 10 = X.I a 10 := by rw [eT]; simp (disch := omega) only [mm_gs, pp_ne]
  have t11 : T.I a 11 = X.I a 11 := by rw [eT]; simp (disch := omega) only [mm_gs, pp_ne]
  have t12 : T.I a 12 = X.I a 12 + 1 := by rw [eT]; simp (disch := omega) only [mm_gs, pp_ne]
  have t1 : T.A (a + 1) = X.A (a + 1) := by rw [eT]; simp (disch := omega) only [mm_gs, pp_ne]
  have t3 : T.A (a + 3) = X.A (a + 3) := by rw [eT]; simp (disch := omega) only [mm_gs, pp_ne]
  have t4 : T.A (a + 4) = X.A (a + 4) := by rw [eT]; simp (disch := omega) only [mm_gs, pp_ne]
  have t7 : T.A (a + 7) = ord := by rw [eT]; simp (disch := omega) only [mm_gs, pp_ne]
  have t8 : T.A (a + 8) = fl := by rw [eT]; simp (disch := omega) only [mm_gs, pp_ne]
  have t9 : T.A (a + 9) = wd := by rw [eT]; simp (disch := omega) only [mm_gs, pp_ne]
  have tL : T.A (a + 10) = L := by rw [eT]; simp (disch := omega) only [mm_gs, pp_ne]
  refine ⟨T, ⟨pp_NK_cg hNX t10 t11 t1 t3 t4, pp_GK_cg hGX t10 t3 t4, ?_⟩, t10.trans x10, t11.trans x11, by rw [t12, x12], fun i i1 i2 => by rw [t1]; exact v1 i i1 i2, fun i i1 i2 => by rw [t3, t4]; exact ⟨v3 i i1 i2, v4 i i1 i2⟩, fun x k hx => ?_, ?_, ?_, fun x z1 z3 z4 z7 z8 z9 z10 => ?_, ?_⟩
  · rw [t10, t1, t3, t7, t8, t9, tL]; exact st
  · rw [eT, eX]; simp (disch := omega) only [mm_gs, pp_ne]
  · rw [eT, eX]; simp only [mm_gs]
  · rw [eT, eX]; simp only [mm_gs]
  · rw [eT, eX]; simp (disch := omega) only [mm_gs, pp_ne]
  · rw [h, mm_e35_0]
    simp (disch := omega) only [mm_ptN, mm_gs, pp_ne]
    rw [pp_pcp (m := 84) (mm_shN1 hb) (mm_shN1 ha) (by omega) rfl, mm_e35_34]
    simp (disch := omega) only [mm_ptN]
    rw [pp_pcp (m := 12) (mm_shN3 hb) (mm_shN3 ha) (by omega) rfl]
    simp (disch := omega) only [mm_ptN]
    rw [pp_pcp (m := 12) (mm_shN4 hb) (mm_shN4 ha) (by omega) rfl]
    simp (disch := omega) only [mm_gs, pp_ne]
    rw [show ((((S.sI a 10 (S.I b 10)).sI a 11 (S.I b 11)).sA (a + 1) (fun j => if 0 ≤ j ∧ j < 84 then S.A (b + 1) j else S.A (a + 1) j)).sA (a + 3) (fun j => if 0 ≤ j ∧ j < 12 then S.A (b + 3) j else S.A (a + 3) j)).sA (a + 4) (fun j => if 0 ≤ j ∧ j < 12 then S.A (b + 4) j else S.A (a + 4) j) = X from eX.symm, ev, mm_cV_ok]
end OPS
