/-! DAYS, two -/
/-- how many of the first k are below 0; the least of them -/
def pp_ng (g : Int → Int) : Nat → Int
  | 0 => 0
  | k + 1 => pp_ng g k + (if g k < 0 then 1 else 0)
def pp_le (g : Int → Int) : Nat → Int
  | 0 => g 0
  | k + 1 => min (pp_le g k) (g k)
section DAYS2
variable {E : mm_E} {d B : Nat} {S : mm_S} {c : mm_N} {a : Nat}
theorem pp_oh_r {g : Int → Int} {b t nd x : Int} (hg : ∀ k : Nat, k ≤ 40 → 0 ≤ pp_sm g k ∧ pp_sm g k ≤ 479520) (hb : 0 ≤ b ∧ b ≤ 1000000) (h1 : 0 ≤ x) (h2 : x < 40) (h3 : 0 ≤ t) (h4 : 0 ≤ nd) : -1000000 ≤ pp_oh g b t nd x ∧ pp_oh g b t nd x ≤ 2000000 := by
  have q1 := hg (x - t + 1).toNat (by omega)
  have q2 := hg (x - t - nd + 1).toNat (by omega)
  unfold pp_oh
  omega
theorem l_short {g : Int → Int} (hd : 3 ≤ d) (hO : pp_LO S g) (hg : ∀ k : Nat, k ≤ 40 → 0 ≤ pp_sm g k ∧ pp_sm g k ≤ 479520) (hb : 0 ≤ S.I 93 3 ∧ S.I 93 3 ≤ 1000000) (h3 : 0 ≤ S.I 93 4 ∧ S.I 93 4 ≤ 119) (h4 : 0 ≤ S.I 93 2 ∧ S.I 93 2 ≤ 128) : ∀ (j k n : Nat), k + j = 40 → j < n → mm_r26_4 E (mm_ev E d) n (mm_ad B 93) (mm_i (pp_ng (pp_oh g (S.I 93 3) (S.I 93 4) (S.I 93 2)) k)) (mm_i k) (mm_hp B S c) = mm_oI (pp_ng (pp_oh g (S.I 93 3) (S.I 93 4) (S.I 93 2)) 40) (mm_hp B S c) := by
  intro j
  induction j with
  | zero =>
    intro k n hk hn
    obtain ⟨n, rfl⟩ : ∃ q, n = q + 1 := ⟨n - 1, by omega⟩
    rw [mm_e26_4]
    simp (disch := omega) only [mm_br_le]
    rw [if_pos (by omega), show k = 40 by omega]
  | succ j ih =>
    intro k n hk hn
    obtain ⟨n, rfl⟩ : ∃ q, n = q + 1 := ⟨n - 1, by omega⟩
    have ih := ih (k + 1) n (by omega) (by omega)
    rw [Int.natCast_add, Int.natCast_one, pp_ng] at ih
    have r := pp_oh_r (x := k) hg hb (by omega) (by omega) h3.1 h4.1
    rw [mm_e26_4]
    simp (disch := omega) only [mm_br_le]
    rw [if_neg (by omega), c_onHand hd hO (by omega) (by omega) h3 h4, mm_cI_ok]
    simp (disch := omega) only [mm_br_le, mm_hm]
    rw [← ih]
    by_cases e : 0 ≤ pp_oh g (S.I 93 3) (S.I 93 4) (S.I 93 2) k
    · rw [if_pos e, if_neg (by omega)]
    · rw [if_neg e, if_pos (by omega)]
theorem c_short {g : Int → Int} (hd : 4 ≤ d) (hO : pp_LO S g) (hg : ∀ k : Nat, k ≤ 40 → 0 ≤ pp_sm g k ∧ pp_sm g k ≤ 479520) (hb : 0 ≤ S.I 93 3 ∧ S.I 93 3 ≤ 1000000) (h3 : 0 ≤ S.I 93 4 ∧ S.I 93 4 ≤ 119) (h4 : 0 ≤ S.I 93 2 ∧ S.I 93 2 ≤ 128) : mm_ev E d 26 [.ref (mm_ad B 93)] (mm_hp B S c) = mm_oI (pp_ng (pp_oh g (S.I 93 3) (S.I 93 4) (S.I 93 2)) 40) (mm_hp B S c) := by
  refine mm_v26 (by omega) (fun F e hF he => ?_)
  rw [mm_e26_0]
  exact l_short (by omega) hO hg hb h3 h4 40 0 (F + 99) (by omega) (by omega)
theorem pp_le_r {g : Int → Int} {x y : Int} (h : ∀ k : Int, 0 ≤ k → k < 40 → x ≤ g k ∧ g k ≤ y) : ∀ k : Nat, k ≤ 40 → x ≤ pp_le g k ∧ pp_le g k ≤ y
  | 0, _ => h 0 (by omega) (by omega)
  | k + 1, hk => by
    have i := pp_le_r h k (by omega)
    have i2 := h k (by omega) (by omega)
    show x ≤ min (pp_le g k) (g k) ∧ min (pp_le g k) (g k) ≤ y
    omega
theorem l_leastOn {g : Int → Int} (hd : 3 ≤ d) (hO : pp_LO S g) (hg : ∀ k : Nat, k ≤ 40 → 0 ≤ pp_sm g k ∧ pp_sm g k ≤ 479520) (hb : 0 ≤ S.I 93 3 ∧ S.I 93 3 ≤ 1000000) (h3 : 0 ≤ S.I 93 4 ∧ S.I 93 4 ≤ 119) (h4 : 0 ≤ S.I 93 2 ∧ S.I 93 2 ≤ 128) : ∀ (j k n : Nat), k + j = 40 → j < n → mm_r27_8 E (mm_ev E d) n (mm_ad B 93) (mm_i (pp_le (pp_oh g (S.I 93 3) (S.I 93 4) (S.I 93 2)) k)) (mm_i k) (mm_hp B S c) = mm_oI (pp_le (pp_oh g (S.I 93 3) (S.I 93 4) (S.I 93 2)) 40) (mm_hp B S c) := by
  intro j
  induction j with
  | zero =>
    intro k n hk hn
    obtain ⟨n, rfl⟩ : ∃ q, n = q + 1 := ⟨n - 1, by omega⟩
    rw [mm_e27_8]
    simp (disch := omega) only [mm_br_le]
    rw [if_pos (by omega), show k = 40 by omega]
  | succ j ih =>
    intro k n hk hn
    obtain ⟨n, rfl⟩ : ∃ q, n = q + 1 := ⟨n - 1, by omega⟩
    have ih := ih (k + 1) n (by omega) (by omega)
    rw [Int.natCast_add, Int.natCast_one, pp_le] at ih
    have r := pp_oh_r (x := k) hg hb (by omega) (by omega) h3.1 h4.1
    have r2 := pp_le_r (g := pp_oh g (S.I 93 3) (S.I 93 4) (S.I 93 2)) (fun i i1 i2 => pp_oh_r (x := i) hg hb i1 i2 h3.1 h4.1) k (by omega)
    rw [mm_e27_8]
    simp (disch := omega) only [mm_br_le]
    rw [if_neg (by omega), c_onHand hd hO (by omega) (by omega) h3 h4, mm_cI_ok]
    simp (disch := omega) only [mm_i_mn, mm_hm]
    exact ih
theorem c_leastOn {g : Int → Int} (hd : 4 ≤ d) (hO : pp_LO S g) (hg : ∀ k : Nat, k ≤ 40 → 0 ≤ pp_sm g k ∧ pp_sm g k ≤ 479520) (hb : 0 ≤ S.I 93 3 ∧ S.I 93 3 ≤ 1000000) (h3 : 0 ≤ S.I 93 4 ∧ S.I 93 4 ≤ 119) (h4 : 0 ≤ S.I 93 2 ∧ S.I 93 2 ≤ 128) : mm_ev E d 27 [.ref (mm_ad B 93)] (mm_hp B S c) = mm_oI (pp_le (pp_oh g (S.I 93 3) (S.I 93 4) (S.I 93 2)) 40) (mm_hp B S c) := by
  refine mm_v27 (by omega) (fun F e hF he => ?_)
  rw [mm_e27_0, c_onHand (by omega) hO (by omega) (by omega) h3 h4, mm_cI_ok]
  have l := l_leastOn (E := E) (d := e) (B := B) (S := S) (c := c) (by omega) hO hg hb h3 h4 39 1 (F + 99) (by omega) (by omega)
  rw [show pp_le (pp_oh g (S.I 93 3) (S.I 93 4) (S.I 93 2)) 1 = pp_oh g (S.I 93 3) (S.I 93 4) (S.I 93 2) 0 from Int.min_self _] at l
  exact l
-- the ledger opened
theorem l_openIn {s x t : Int} (hd : 1 ≤ d) (ha : a = 3 ∨ a = 14 ∨ a = 25) (hn : 0 ≤ S.I a 10 ∧ S.I a 10 ≤ 12) (x0 : 0 ≤ x) (h3 : 0 ≤ t) (h4 : t < 40) (hx : ∀ k : Int, 0 ≤ k → k < S.I a 10 → mm_bt x k = pp_bb (pp_Wf (S.I a 10) (S.A (a + 3))) s k) {o5 o6 : Int32} : ∀ (j k n : Nat), (S.I a 10).toNat = k + j → j < n → ∃ m o5 o6, n ≤ m + j + 1 ∧ mm_r20_65 E (mm_ev E d) n (mm_ad B 93) (mm_ad B a) (mm_i s) (mm_i x) (mm_i t) (mm_i (pp_sm (fun k => if pp_bb (pp_Wf (S.I a 10) (S.A (a + 3))) s k = true then S.A (a + 6) (k * 40 + t) else 0) k)) (mm_i k) (mm_hp B S c) = mm_r20_52 E (mm_ev E d) m (mm_ad B 93) (mm_ad B a) (mm_i s) (mm_i x) (mm_i (t + 1)) o5 o6 (mm_hp B (S.sA 94 (mm_u (S.A 94) (t + 1) (S.A 94 t + pp_cd S a s t))) c) := by
  intro j
  induction j with
  | zero =>
    intro k n hk hj
    obtain ⟨n, rfl⟩ : ∃ q, n = q + 1 := ⟨n - 1, by omega⟩
    refine ⟨n, some (.int (mm_i (pp_sm (fun k => if pp_bb (pp_Wf (S.I a 10) (S.A (a + 3))) s k = true then S.A (a + 6) (k * 40 + t) else 0) k))), some (.int (mm_i k)), by omega, ?_⟩
    rw [mm_e20_65]
    simp (disch := omega) only [mm_ptN, mm_br_le]
    rw [if_pos (by omega)]
    simp (disch := omega) only [mm_ptL, mm_hm]
    unfold pp_cd
    rw [show (S.I a 10).toNat = k from hk]
  | succ j ih =>
    intro k n hk hj
    obtain ⟨n, rfl⟩ : ∃ q, n = q + 1 := ⟨n - 1, by omega⟩
    obtain ⟨m, o5, o6, q1, q2⟩ := ih (k + 1) n (by omega) (by omega)
    refine ⟨m, o5, o6, by omega, ?_⟩
    rw [Int.natCast_add, Int.natCast_one, pp_sm] at q2
    rw [← q2, mm_e20_65]
    simp (disch := omega) only [mm_ptN, mm_br_le]
    rw [if_neg (by omega), c_has hd x0 (by omega) (by omega), mm_cI_ok, mm_br_b1, hx k (by omega) (by omega)]
    simp (disch := omega) only [mm_ptN, mm_hm]
    by_cases e : pp_bb (pp_Wf (S.I a 10) (S.A (a + 3))) s k = true
    · simp only [if_pos e]
    · simp only [if_neg e, Int.add_zero]
theorem l_openOut {s x : Int} (hd : 1 ≤ d) (ha : a = 3 ∨ a = 14 ∨ a = 25) (hn : 0 ≤ S.I a 10 ∧ S.I a 10 ≤ 12) (x0 : 0 ≤ x) (hx : ∀ k : Int, 0 ≤ k → k < S.I a 10 → mm_bt x k = pp_bb (pp_Wf (S.I a 10) (S.A (a + 3))) s k) : ∀ (j t n : Nat) (f : Int → Int) (o5 o6 : Option Value), t + j = 40 → 14 * (j + 1) < n → (∀ i : Int, 0 ≤ i → i ≤ t → f i = pp_sm (pp_cd S a s) i.toNat) → ∃ f', (∀ i : Int, 0 ≤ i → i ≤ 40 → f' i = pp_sm (pp_cd S a s) i.toNat) ∧ mm_r20_52 E (mm_ev E d) n (mm_ad B 93) (mm_ad B a) (mm_i s) (mm_i x) (mm_i t) o5 o6 (mm_hp B (S.sA 94 f) c) = mm_oV (mm_hp B (S.sA 94 f') c) := by
  intro j
  induction j with
  | zero =>
    intro t n f o5 o6 ht hj hf
    obtain ⟨n, rfl⟩ : ∃ q, n = q + 1 := ⟨n - 1, by omega⟩
    refine ⟨f, fun i i1 i2 => hf i i1 (by omega), ?_⟩
    rw [mm_e20_52]
    simp (disch := omega) only [mm_br_le]
    rw [if_pos (by omega)]
  | succ j ih =>
    intro t n f o5 o6 ht hj hf
    obtain ⟨n, rfl⟩ : ∃ q, n = q + 1 := ⟨n - 1, by omega⟩
    have a1 : (S.sA 94 f).A (a + 3) = S.A (a + 3) := mm_gA_ne (by omega)
    have a2 : (S.sA 94 f).A (a + 6) = S.A (a + 6) := mm_gA_ne (by omega)
    have a3 : (S.sA 94 f).A 94 = f := mm_gs.2.2.2.2.2.2.2.2.1 _ _ _
    have a4 : (S.sA 94 f).I a 10 = S.I a 10 := rfl
    have a5 : pp_cd (S.sA 94 f) a s t = pp_cd S a s t := by unfold pp_cd; rw [a1, a2, a4]
    obtain ⟨m, o5', o6', q1, q2⟩ := l_openIn (E := E) (d := d) (B := B) (S := S.sA 94 f) (c := c) (s := s) (x := x) (t := (t : Int)) (o5 := 0) (o6 := 0) hd ha hn x0 (by omega) (by omega) (by rw [a1]; exact hx) (S.I a 10).toNat 0 n (by rw [a4]; omega) (by omega)
    rw [a5, a3] at q2
    have hft := hf t (by omega) (by omega)
    obtain ⟨f', r1, r2⟩ := ih (t + 1) m (mm_u f ((t : Int) + 1) (f t + pp_cd S a s t)) o5' o6' (by omega) (by omega) (fun i i1 i2 => by
      by_cases e : i = (t : Int) + 1
      · rw [e, mm_u_eq, hft, show ((t : Int) + 1).toNat = t + 1 by omega, show ((t : Int)).toNat = t by omega]
        rfl
      · rw [mm_u_ne e]
        exact hf i i1 (by omega))
    refine ⟨f', r1, ?_⟩
    rw [Int.natCast_add, Int.natCast_one] at r2
    rw [mm_gs.2.2.2.2.2.2.2.2.2.2.2.2.2.2.2.2.1] at q2
    rw [← r2, ← q2, mm_e20_52]
    simp (disch := omega) only [mm_br_le]
    rw [if_neg (by omega)]
    rfl
theorem c_ledOpen {s : Int} (hd : 5 ≤ d) (ha : a = 3 ∨ a = 14 ∨ a = 25) (hT : pp_NT S a) (hM : pp_TM S a) (h1 : 0 ≤ s) (h2 : s < S.I a 10) (h0 : S.A 94 0 = 0) : ∃ f, (∀ i : Int, 0 ≤ i → i ≤ 40 → f i = pp_sm (pp_cd S a s) i.toNat) ∧ mm_ev E d 20 [.ref (mm_ad B 93), .ref (mm_ad B a), .int (mm_i s)] (mm_hp B S c) = mm_oV (mm_hp B ((((S.sI 93 2 (pp_nd S a s)).sI 93 3 (if pp_nd S a s < 0 then 0 else pp_nd S a s * S.A (a + 8) s + pp_rt (pp_qd (S.I a 11) (S.A (a + 9) s) (pp_nd S a s)))).sI 93 4 (S.A (a + 5) s)).sA 94 f) c) := by
  obtain ⟨e, rfl⟩ : ∃ e, d = e + 1 := ⟨d - 1, by omega⟩
  obtain ⟨F, hF, h⟩ := mm_w20 E e B S c (mm_ad B a) (mm_i s)
  have hn := hT.1.1
  have nr := pp_nd_r hT.1 hM h1 h2
  have z := hT.1.2.1
  have wd := pp_NT_wd hT h1 h2
  -- the state behind the three fields
  have key : ∀ v : Int, ∃ f, (∀ i : Int, 0 ≤ i → i ≤ 40 → f i = pp_sm (pp_cd S a s) i.toNat) ∧ mm_r20_43 E (mm_ev E e) (F + 99) (mm_ad B 93) (mm_ad B a) (mm_i s) none none none none (mm_hp B (((S.sI 93 2 (pp_nd S a s)).sI 93 3 v).sI 93 4 (S.A (a + 5) s)) c) = mm_oV (mm_hp B ((((S.sI 93 2 (pp_nd S a s)).sI 93 3 v).sI 93 4 (S.A (a + 5) s)).sA 94 f) c) := by
    intro v
    have i10 : (((S.sI 93 2 (pp_nd S a s)).sI 93 3 v).sI 93 4 (S.A (a + 5) s)).I a 10 = S.I a 10 := by rw [mm_gI_ne (by omega), mm_gI_ne (by omega), mm_gI_ne (by omega)]
    have i11 : (((S.sI 93 2 (pp_nd S a s)).sI 93 3 v).sI 93 4 (S.A (a + 5) s)).I a 11 = S.I a 11 := by rw [mm_gI_ne (by omega), mm_gI_ne (by omega), mm_gI_ne (by omega)]
    have hT2 : pp_NT (((S.sI 93 2 (pp_nd S a s)).sI 93 3 v).sI 93 4 (S.A (a + 5) s)) a := by
      refine ⟨pp_NK_cg hT.1 i10 i11 rfl rfl rfl, pp_GK_cg hT.2.1 i10 rfl rfl, ?_⟩
      rw [i10]
      exact hT.2.2
    obtain ⟨y, y1, y2, y3⟩ := c_allBelow (E := E) (d := e) (B := B) (c := c) (s := s) (by omega) ha hT2 h1 (by rw [i10]; exact h2)
    rw [i10] at y2
    have cde : pp_cd (((S.sI 93 2 (pp_nd S a s)).sI 93 3 v).sI 93 4 (S.A (a + 5) s)) a s = pp_cd S a s := by funext t; unfold pp_cd; rw [i10]; rfl
    obtain ⟨f, f1, f2⟩ := l_openOut (E := E) (d := e) (B := B) (S := ((S.sI 93 2 (pp_nd S a s)).sI 93 3 v).sI 93 4 (S.A (a + 5) s)) (c := c) (s := s) (x := y) (by omega) ha (by rw [i10]; exact hn) y1.1 (by rw [i10]; exact y2) 40 0 (F + 98) (S.A 94) none none (by omega) (by omega) (fun i i1 i2 => by rw [show i = 0 by omega]; exact h0)
    have id94 := pp_sA_id (((S.sI 93 2 (pp_nd S a s)).sI 93 3 v).sI 93 4 (S.A (a + 5) s)) 94
    have id94 : (((S.sI 93 2 (pp_nd S a s)).sI 93 3 v).sI 93 4 (S.A (a + 5) s)).sA 94 (S.A 94) = _ := id94
    rw [cde] at f1
    rw [id94] at f2
    refine ⟨f, f1, ?_⟩
    rw [mm_e20_43, y3, mm_cI_ok]
    exact f2
  obtain ⟨f, f1, f2⟩ := key (if pp_nd S a s < 0 then 0 else pp_nd S a s * S.A (a + 8) s + pp_rt (pp_qd (S.I a 11) (S.A (a + 9) s) (pp_nd S a s)))
  refine ⟨f, f1, ?_⟩
  rw [h, ← f2, mm_e20_0, c_netOf (by omega) ha hT.1 hM h1 h2]
  simp (disch := omega) only [mm_hm, mm_ptL, mm_gs, mm_br_le]
  have i11 : (S.sI 93 2 (pp_nd S a s)).I a 11 = S.I a 11 := mm_gI_ne (by omega)
  by_cases e0 : 0 ≤ pp_nd S a s
  · have e1 : ¬ pp_nd S a s < 0 := by omega
    rw [if_pos e0, c_boundBy (S := S.sI 93 2 (pp_nd S a s)) (by omega) ha (by rw [i11]; exact z) h1 (by omega) ⟨wd.1, by have := wd.2; show S.A (a + 9) s ≤ _; omega⟩ ⟨e0, by omega⟩, i11]
    simp only [if_neg e1]
    simp (disch := omega) only [mm_hm, mm_ptL, mm_ptN, mm_gs]
  · have e1 : pp_nd S a s < 0 := by omega
    rw [if_neg e0]
    simp only [if_pos e1]
    simp (disch := omega) only [mm_hm, mm_ptL, mm_ptN, mm_gs]
theorem l_openBounds {s : Int} (hd : 1 ≤ d) (ha : a = 3 ∨ a = 14 ∨ a = 25) (hT : pp_NT S a) (h1 : 0 ≤ s) (h2 : s < S.I a 10) : ∀ (j k n : Nat) (f : Int → Int) (r : Int), k + j = 41 → 2 * j < n → (∀ i : Int, 0 ≤ i → i < k → f i = i * S.A (a + 8) s + pp_rt (pp_qd (S.I a 11) (S.A (a + 9) s) i)) → (0 ≤ r ∧ r ≤ 44722) → (∀ y : Int, 0 ≤ y → y < r → 10000 * y * y < pp_qd (S.I a 11) (S.A (a + 9) s) k) → ∃ f', (∀ i : Int, 0 ≤ i → i < 41 → f' i = i * S.A (a + 8) s + pp_rt (pp_qd (S.I a 11) (S.A (a + 9) s) i)) ∧ mm_r21_5 E (mm_ev E d) n (mm_ad B 93) (mm_ad B a) (mm_i s) (mm_i r) (mm_i k) (mm_hp B (S.sA 95 f) c) = mm_oV (mm_hp B (S.sA 95 f') c) := by
  have z := hT.1.2.1
  have hn := hT.1.1
  have wd := pp_NT_wd hT h1 h2
  intro j
  induction j with
  | zero =>
    intro k n f r hk hj hf hr hy
    obtain ⟨n, rfl⟩ : ∃ q, n = q + 1 := ⟨n - 1, by omega⟩
    refine ⟨f, fun i i1 i2 => hf i i1 (by omega), ?_⟩
    rw [mm_e21_5]
    simp (disch := omega) only [mm_ptL, mm_br_le]
    rw [if_pos (by omega)]
  | succ j ih =>
    intro k n f r hk hj hf hr hy
    obtain ⟨n, rfl⟩ : ∃ q, n = q + 2 := ⟨n - 2, by omega⟩
    have b := pp_qd_b (n := k) z.1 z.2 wd.1 (by omega) (by omega) (by omega)
    have rt := pp_rt_is b.1 b.2
    have mo := pp_qd_mono (n := k) (m := (k : Int) + 1) z.1 wd.1 (by omega)
    obtain ⟨f', r1, r2⟩ := ih (k + 1) n (mm_u f k (k * S.A (a + 8) s + pp_rt (pp_qd (S.I a 11) (S.A (a + 9) s) k))) (pp_rt (pp_qd (S.I a 11) (S.A (a + 9) s) k)) (by omega) (by omega) (fun i i1 i2 => by
      by_cases e : i = k
      · rw [e, mm_u_eq]
      · rw [mm_u_ne e]; exact hf i i1 (by omega)) ⟨rt.1.1, rt.2⟩ (fun y y1 y2 => by
        have := rt.1.2.2 y y1 y2
        rw [Int.natCast_add, Int.natCast_one]
        omega)
    refine ⟨f', r1, ?_⟩
    rw [Int.natCast_add, Int.natCast_one] at r2
    have i9 : (S.sA 95 f).A (a + 9) = S.A (a + 9) := mm_gA_ne (by omega)
    have i8 : (S.sA 95 f).A (a + 8) = S.A (a + 8) := mm_gA_ne (by omega)
    rw [← r2, mm_e21_5]
    simp (disch := omega) only [mm_ptL, mm_br_le]
    rw [if_neg (by omega), c_rootFrom (S := S.sA 95 f) hd ha z h1 (by omega) (by rw [i9]; exact ⟨wd.1, by omega⟩) (by omega) (by omega) (by rw [i9]; exact hy), mm_cI_ok, i9, mm_e21_24]
    show mm_gR _ _ _ _ _ = _
    simp (disch := omega) only [mm_ptL, mm_ptN, i8, mm_hm, mm_gs]
theorem c_openBounds {s : Int} (hd : 2 ≤ d) (ha : a = 3 ∨ a = 14 ∨ a = 25) (hT : pp_NT S a) (h1 : 0 ≤ s) (h2 : s < S.I a 10) : ∃ f, (∀ i : Int, 0 ≤ i → i < 41 → f i = i * S.A (a + 8) s + pp_rt (pp_qd (S.I a 11) (S.A (a + 9) s) i)) ∧ mm_ev E d 21 [.ref (mm_ad B 93), .ref (mm_ad B a), .int (mm_i s)] (mm_hp B S c) = mm_oV (mm_hp B (S.sA 95 f) c) := by
  obtain ⟨e, rfl⟩ : ∃ e, d = e + 1 := ⟨d - 1, by omega⟩
  obtain ⟨F, hF, h⟩ := mm_w21 E e B S c (mm_ad B a) (mm_i s)
  obtain ⟨f, f1, f2⟩ := l_openBounds (E := E) (d := e) (B := B) (S := S) (c := c) (by omega) ha hT h1 h2 41 0 (F + 99) (S.A 95) 0 (by omega) (by omega) (fun i i1 i2 => by omega) (by omega) (fun y y1 y2 => by omega)
  rw [pp_sA_id] at f2
  exact ⟨f, f1, by rw [h, mm_e21_0]; exact f2⟩
end DAYS2
