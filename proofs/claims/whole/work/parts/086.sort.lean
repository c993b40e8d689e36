/-! SUPPLIERS AHEAD: the sort -/
theorem pp_cnt_add {p q : Int → Bool} {s : Int} (hp : p s = false) (hq : q s = true) (he : ∀ i : Int, i ≠ s → q i = p i) (h0 : 0 ≤ s) : ∀ (k : Nat), mm_cnt q k = mm_cnt p k + (if s < k then 1 else 0)
  | 0 => by rw [if_neg (by omega)]; rfl
  | k + 1 => by
    show mm_cnt q k + mm_b1 (q k) = mm_cnt p k + mm_b1 (p k) + _
    rw [pp_cnt_add hp hq he h0 k]
    by_cases e : s = k
    · rw [← e, hp, hq, if_neg (by omega), if_pos (by omega)]
      show _ + (0 : Int) + 1 = _ + 0 + 1
      omega
    · rw [he k (by omega)]
      by_cases c : s < k
      · rw [if_pos c, if_pos (by omega)]; omega
      · rw [if_neg c, if_neg (by omega)]; omega
theorem pp_cnt_le {p q : Int → Bool} : ∀ (k : Nat), (∀ i : Int, 0 ≤ i → i < k → p i = true → q i = true) → mm_cnt p k ≤ mm_cnt q k
  | 0, _ => Int.le_refl 0
  | k + 1, h => by
    have i1 := pp_cnt_le (p := p) (q := q) k (fun i h1 h2 => h i h1 (by omega))
    have i2 := h k (by omega) (by omega)
    show mm_cnt p k + mm_b1 (p k) ≤ mm_cnt q k + mm_b1 (q k)
    cases e : p k with
    | false =>
      have := (mm_b1_01 (q k)).1
      show mm_cnt p k + 0 ≤ _
      omega
    | true =>
      rw [i2 e]
      show mm_cnt p k + 1 ≤ mm_cnt q k + 1
      omega
theorem pp_cnt_lt {p q : Int → Bool} {s : Int} : ∀ (k : Nat), (∀ i : Int, 0 ≤ i → i < k → p i = true → q i = true) → 0 ≤ s → s < k → p s = false → q s = true → mm_cnt p k < mm_cnt q k
  | 0, _, h0, h1, _, _ => by omega
  | k + 1, h, h0, h1, hp, hq => by
    show mm_cnt p k + mm_b1 (p k) < mm_cnt q k + mm_b1 (q k)
    by_cases e : s = k
    · rw [← e, hp, hq]
      have i1 := pp_cnt_le (p := p) (q := q) k (fun i h1 h2 => h i h1 (by omega))
      show mm_cnt p k + 0 < mm_cnt q k + 1
      omega
    · have i1 := pp_cnt_lt (p := p) (q := q) k (fun i h1 h2 => h i h1 (by omega)) h0 (by omega) hp hq
      have i2 := h k (by omega) (by omega)
      cases e : p k with
      | false =>
        have := (mm_b1_01 (q k)).1
        show mm_cnt p k + 0 < _
        omega
      | true =>
        rw [i2 e]
        show mm_cnt p k + 1 < mm_cnt q k + 1
        omega
theorem pp_cnt_all {p : Int → Bool} : ∀ (k : Nat), mm_cnt p k = k → ∀ i : Int, 0 ≤ i → i < k → p i = true
  | 0, _, i, h1, h2 => by omega
  | k + 1, h, i, h1, h2 => by
    have h : mm_cnt p k + mm_b1 (p k) = ((k + 1 : Nat) : Int) := h
    have g := mm_cnt_nn p k
    have g2 := mm_b1_01 (p k)
    by_cases e : i = k
    · rw [e]
      cases e : p k with
      | true => rfl
      | false =>
        rw [e] at h
        have : mm_b1 false = 0 := rfl
        omega
    · exact pp_cnt_all k (by omega) i h1 (by omega)
/-- what stands while the sort goes on -/
def pp_SI (n : Int) (W : pp_W) (sd sz : Int) (ord : Int → Int) : Prop := (0 ≤ sd ∧ sd < 4096) ∧ sz = mm_cnt (mm_bt sd) n.toNat ∧ (∀ i : Int, 0 ≤ i → i < sz → 0 ≤ ord i ∧ ord i < n ∧ mm_bt sd (ord i) = true) ∧ (∀ s : Int, 0 ≤ s → s < n → mm_bt sd s = true → ∃ i : Int, 0 ≤ i ∧ i < sz ∧ ord i = s) ∧ (∀ i k : Int, 0 ≤ i → i < k → k < sz → ord i ≠ ord k) ∧ (∀ i j : Int, 0 ≤ i → i < sz → W j (ord i) = true → ∃ k : Int, 0 ≤ k ∧ k < i ∧ ord k = j)
theorem pp_SI_add {n : Int} {W : pp_W} {sd sz s : Int} {ord : Int → Int} (hn : n ≤ 12) (hW : pp_IN n W) (h : pp_SI n W sd sz ord) (h0 : 0 ≤ s) (h1 : s < n) (hs : mm_bt sd s = false) (hj : ∀ j, W j s = true → mm_bt sd j = true) :
    pp_SI n W (mm_ior sd (mm_pw s)) (sz + 1) (mm_u ord sz s) ∧ 0 ≤ sz ∧ sz < n := by
  obtain ⟨⟨s0, s1⟩, hz, ho, hc, hd, hp⟩ := h
  have hb : ∀ t : Int, 0 ≤ t → mm_bt (mm_ior sd (mm_pw s)) t = (mm_bt sd t || decide (t = s)) := fun t ht => by rw [mm_bt_or, mm_bt_pw h0 ht]
  have hb2 : mm_cnt (mm_bt (mm_ior sd (mm_pw s))) n.toNat = mm_cnt (mm_bt sd) n.toNat + 1 := by
    rw [mm_cnt_congr (q := fun t => mm_bt sd t || decide (t = s)) _ (fun i h2 _ => hb i h2), pp_cnt_add (p := mm_bt sd) (s := s) hs (by simp) (fun i hi => by simp [hi]) h0, if_pos (by omega)]
  have z0 := mm_cnt_nn (mm_bt sd) n.toNat
  have z1 := mm_cnt_nn (mm_bt (mm_ior sd (mm_pw s))) n.toNat
  refine ⟨⟨⟨mm_ior_nn _ _, mm_ior_lt s1 (mm_pw_lt (by omega))⟩, by rw [hb2, hz], ?_, ?_, ?_, ?_⟩, by omega, by omega⟩
  · intro i h2 h3
    by_cases e : i = sz
    · rw [e, mm_u_eq]
      exact ⟨h0, h1, by rw [hb s h0]; simp⟩
    · rw [mm_u_ne e]
      have g := ho i h2 (by omega)
      exact ⟨g.1, g.2.1, by rw [hb _ g.1, g.2.2]; rfl⟩
  · intro t h2 h3 h4
    rw [hb t h2] at h4
    rcases Bool.or_eq_true_iff.mp h4 with h4 | h4
    · obtain ⟨i, i1, i2, i3⟩ := hc t h2 h3 h4
      exact ⟨i, i1, by omega, by rw [mm_u_ne (by omega)]; exact i3⟩
    · exact ⟨sz, by omega, by omega, by rw [mm_u_eq]; exact (of_decide_eq_true h4).symm⟩
  · intro i k h2 h3 h4
    by_cases e : k = sz
    · rw [e, mm_u_eq, mm_u_ne (by omega)]
      intro z
      have g := (ho i h2 (by omega)).2.2
      rw [z, hs] at g
      cases g
    · rw [mm_u_ne e, mm_u_ne (by omega)]
      exact hd i k h2 h3 (by omega)
  · intro i j h2 h3 h4
    by_cases e : i = sz
    · rw [e, mm_u_eq] at h4
      have g := hW j s h4
      obtain ⟨k, k1, k2, k3⟩ := hc j g.1 g.2.1 (hj j h4)
      exact ⟨k, k1, by omega, by rw [mm_u_ne (by omega)]; exact k3⟩
    · rw [mm_u_ne e] at h4
      obtain ⟨k, k1, k2, k3⟩ := hp i j h2 (by omega) h4
      exact ⟨k, k1, k2, by rw [mm_u_ne (by omega)]; exact k3⟩
/-- there always is one to be sorted next -/
theorem pp_next {n : Int} {W : pp_W} (hW : pp_IN n W) {rk : Int → Nat} (hr : ∀ i j, W i j = true → rk i < rk j) (p : Int → Bool) : ∀ (k : Nat) (s : Int), rk s ≤ k → 0 ≤ s → s < n → p s = false → ∃ t : Int, 0 ≤ t ∧ t < n ∧ p t = false ∧ ∀ j, W j t = true → p j = true := by
  intro k
  induction k with
  | zero =>
    intro s h1 h2 h3 h4
    exact ⟨s, h2, h3, h4, fun j hj => absurd (hr j s hj) (by omega)⟩
  | succ k ih =>
    intro s h1 h2 h3 h4
    by_cases e : ∃ j, W j s = true ∧ p j = false
    · obtain ⟨j, hj, hp⟩ := e
      have g := hW j s hj
      have g2 := hr j s hj
      exact ih j (by omega) g.1 g.2.1 hp
    · refine ⟨s, h2, h3, h4, fun j hj => ?_⟩
      cases hp : p j with
      | true => rfl
      | false => exact absurd ⟨j, hj, hp⟩ e
section SORT
variable {E : mm_E} {d B : Nat} {S : mm_S} {c : mm_N} {a : Nat}
/-- the sets of a Net are of its stages, as told by both -/
def pp_GK (S : mm_S) (a : Nat) : Prop := (∀ i j : Int, 0 ≤ i → i < 12 → 0 ≤ j → j < 12 → mm_bt (S.A (a + 3) j) i = true → i < S.I a 10 ∧ j < S.I a 10) ∧ (∀ i j : Int, 0 ≤ i → i < 12 → 0 ≤ j → j < 12 → mm_bt (S.A (a + 4) i) j = mm_bt (S.A (a + 3) j) i) ∧ pp_FO (pp_Wf (S.I a 10) (S.A (a + 3))) ∧ pp_RK (pp_Wf (S.I a 10) (S.A (a + 3)))
theorem pp_idf0 {x y : Int} (hx0 : 0 ≤ x) (hx : x < 4096) : mm_idf x y = 0 ↔ ∀ j : Int, 0 ≤ j → j < 12 → mm_bt x j = true → mm_bt y j = true := by
  constructor
  · intro h j h1 h2 h3
    have g : mm_bt (mm_idf x y) j = false := by rw [h]; exact mm_bt_0 j
    rw [mm_bt_df, h3] at g
    cases e : mm_bt y j with
    | true => rfl
    | false => rw [e] at g; cases g
  · intro h
    refine mm_set0 (mm_idf_nn _ _) (mm_idf_lt hx) (fun j h1 h2 => ?_)
    rw [mm_bt_df]
    cases e : mm_bt x j with
    | false => rfl
    | true => rw [h j h1 h2 e]; rfl
theorem l_sortIn (hd : 1 ≤ d) (ha : a = 3 ∨ a = 14 ∨ a = 25) (hN : pp_NK S a) (hG : pp_GK S a) {rd : Int32} : ∀ (j k n : Nat) (sd sz : Int) (ord : Int → Int), (S.I a 10).toNat = k + j → 2 * j < n → pp_SI (S.I a 10) (pp_Wf (S.I a 10) (S.A (a + 3))) sd sz ord →
    ∃ (m : Nat) (sd' sz' : Int) (ord' : Int → Int) (o : Option Value), n ≤ m + 2 * j + 1 ∧ pp_SI (S.I a 10) (pp_Wf (S.I a 10) (S.A (a + 3))) sd' sz' ord' ∧ (∀ t : Int, mm_bt sd t = true → mm_bt sd' t = true) ∧ (∀ t : Int, k ≤ t → t < S.I a 10 → (∀ j, pp_Wf (S.I a 10) (S.A (a + 3)) j t = true → mm_bt sd j = true) → mm_bt sd' t = true)
      ∧ mm_r44_25 E (mm_ev E d) n (mm_ad B a) (mm_i sd) (mm_i sz) rd (mm_i k) (mm_hp B (S.sA (a + 7) ord) c) = mm_r44_6 E (mm_ev E d) m (mm_ad B a) (mm_i sd') (mm_i sz') (rd + mm_i 1) o (mm_hp B (S.sA (a + 7) ord') c) := by
  obtain ⟨⟨n0, n1⟩, -, hS, -, hT⟩ := hN
  intro j
  induction j with
  | zero =>
    intro k n sd sz ord hk hn hI
    obtain ⟨n, rfl⟩ : ∃ m, n = m + 1 := ⟨n - 1, by omega⟩
    refine ⟨n, sd, sz, ord, some (.int (mm_i k)), by omega, hI, fun t h => h, fun t h1 h2 => by omega, ?_⟩
    rw [mm_e44_25]
    simp (disch := omega) only [mm_ptN, mm_gs, mm_br_le]
    rw [if_pos (by omega)]
  | succ j ih =>
    intro k n sd sz ord hk hn hI
    obtain ⟨n, rfl⟩ : ∃ m, n = m + 2 := ⟨n - 2, by omega⟩
    have b0 := hS k (by omega) (by omega)
    have hI0 := hI.1
    have zz := hI.2.1
    have zn := mm_cnt_nn (mm_bt sd) (S.I a 10).toNat
    rw [mm_e44_25]
    simp (disch := omega) only [mm_ptN, mm_gs, pp_ne, mm_br_le]
    rw [if_neg (by omega)]
    have hk12 : (k : Int) < 12 := by omega
    by_cases w : 12 ≤ sz
    · rw [if_pos w, mm_i_add]
      have e : mm_bt sd k = true := pp_cnt_all (p := mm_bt sd) (S.I a 10).toNat (by omega) k (by omega) (by omega)
      obtain ⟨m, sd', sz', ord', o, q1, q2, q3, q4, q5⟩ := ih (k + 1) (n + 1) sd sz ord (by omega) (by omega) hI
      rw [Int.natCast_add, Int.natCast_one] at q4 q5
      refine ⟨m, sd', sz', ord', o, by omega, q2, q3, fun t h1 h2 h3 => ?_, q5⟩
      by_cases z : t = k
      · rw [z]; exact q3 k e
      · exact q4 t (by omega) h2 h3
    rw [if_neg w]
    simp (disch := omega) only [c_has, mm_hm, mm_br_b1, mm_ptN, mm_gs, pp_ne, mm_i_andn]
    have Wk : ∀ i : Int, pp_Wf (S.I a 10) (S.A (a + 3)) i k = true → 0 ≤ i ∧ i < S.I a 10 ∧ mm_bt (S.A (a + 3) k) i = true := fun i hi => by
      have g := pp_Wf_in _ _ i k hi
      exact ⟨g.1, g.2.1, by rw [pp_Wf_eq g] at hi; exact hi⟩
    by_cases e : mm_bt sd k = true
    · rw [if_pos e]
      obtain ⟨m, sd', sz', ord', o, q1, q2, q3, q4, q5⟩ := ih (k + 1) (n + 1) sd sz ord (by omega) (by omega) hI
      rw [Int.natCast_add, Int.natCast_one] at q4 q5
      refine ⟨m, sd', sz', ord', o, by omega, q2, q3, fun t h1 h2 h3 => ?_, q5⟩
      by_cases z : t = k
      · rw [z]; exact q3 k e
      · exact q4 t (by omega) h2 h3
    · rw [if_neg e]
      have e : mm_bt sd k = false := by cases h : mm_bt sd k with
        | true => exact absurd h e
        | false => rfl
      have z1 := mm_idf_nn (S.A (a + 3) k) sd
      have z2 := mm_idf_lt (y := sd) b0.2
      simp (disch := omega) only [mm_br_eq]
      by_cases f : mm_idf (S.A (a + 3) k) sd = 0
      · rw [if_pos f]
        have hj : ∀ i, pp_Wf (S.I a 10) (S.A (a + 3)) i k = true → mm_bt sd i = true := fun i hi => (pp_idf0 b0.1 b0.2).mp f i (Wk i hi).1 (by have := (Wk i hi).2.1; omega) (Wk i hi).2.2
        obtain ⟨hI2, y1, y2⟩ := pp_SI_add (s := k) n1 (pp_Wf_in _ _) hI (by omega) (by omega) e hj
        have y3 := mm_pw_nn k
        obtain ⟨m, sd', sz', ord', o, q1, q2, q3, q4, q5⟩ := ih (k + 1) n _ _ _ (by omega) (by omega) hI2
        rw [Int.natCast_add, Int.natCast_one] at q4 q5
        have q6 : ∀ t : Int, mm_bt sd t = true → mm_bt sd' t = true := fun t h => q3 t (by rw [mm_bt_or, h]; rfl)
        refine ⟨m, sd', sz', ord', o, by omega, q2, q6, fun t h1 h2 h3 => ?_, ?_⟩
        · by_cases z : t = k
          · rw [z]
            exact q3 k (by rw [mm_bt_or, mm_bt_pw (by omega) (by omega)]; simp)
          · exact q4 t (by omega) h2 (fun i hi => by rw [mm_bt_or, h3 i hi]; rfl)
        · rw [← q5, mm_e44_63]
          simp (disch := omega) only [mm_ptN, mm_gs, pp_ne, mm_i_shl, mm_i_or, mm_hm]
      · rw [if_neg f]
        obtain ⟨m, sd', sz', ord', o, q1, q2, q3, q4, q5⟩ := ih (k + 1) (n + 1) sd sz ord (by omega) (by omega) hI
        rw [Int.natCast_add, Int.natCast_one] at q4 q5
        refine ⟨m, sd', sz', ord', o, by omega, q2, q3, fun t h1 h2 h3 => ?_, q5⟩
        by_cases z : t = k
        · exfalso
          rw [z] at h3
          refine f ((pp_idf0 b0.1 b0.2).mpr (fun i i1 i2 i3 => h3 i ?_))
          have g := hG.1 i k i1 i2 (by omega) (by omega) i3
          rw [pp_Wf_eq ⟨i1, g.1, by omega, g.2⟩]
          exact i3
        · exact q4 t (by omega) h2 h3
theorem l_sortOut (hd : 1 ≤ d) (ha : a = 3 ∨ a = 14 ∨ a = 25) (hN : pp_NK S a) (hG : pp_GK S a) : ∀ (j n : Nat) (rd sd sz : Int) (ord : Int → Int) (o : Option Value), 0 ≤ rd → S.I a 10 ≤ rd + j → rd ≤ sz → 40 * j + 2 ≤ n → pp_SI (S.I a 10) (pp_Wf (S.I a 10) (S.A (a + 3))) sd sz ord →
    ∃ ord', pp_OR (S.I a 10) (pp_Wf (S.I a 10) (S.A (a + 3))) ord' ∧ mm_r44_6 E (mm_ev E d) n (mm_ad B a) (mm_i sd) (mm_i sz) (mm_i rd) o (mm_hp B (S.sA (a + 7) ord) c) = mm_oV (mm_hp B (S.sA (a + 7) ord') c) := by
  have hn := hN.1
  have fin : ∀ (sd sz : Int) (ord : Int → Int), S.I a 10 ≤ sz → pp_SI (S.I a 10) (pp_Wf (S.I a 10) (S.A (a + 3))) sd sz ord → pp_OR (S.I a 10) (pp_Wf (S.I a 10) (S.A (a + 3))) ord := by
    rintro sd sz ord h1 ⟨-, hz, ho, hc, hd, hp⟩
    have z := mm_cnt_nn (mm_bt sd) (S.I a 10).toNat
    have al := pp_cnt_all (p := mm_bt sd) (S.I a 10).toNat (by omega)
    refine ⟨fun i i1 i2 => ⟨(ho i i1 (by omega)).1, (ho i i1 (by omega)).2.1⟩, fun i k i1 i2 i3 => hd i k i1 i2 (by omega), fun i j i1 i2 i3 => hp i j i1 (by omega) i3, fun s i1 i2 => ?_⟩
    obtain ⟨i, q1, q2, q3⟩ := hc s i1 i2 (al s i1 (by omega))
    exact ⟨i, q1, by omega, q3⟩
  intro j
  induction j with
  | zero =>
    intro n rd sd sz ord o h0 h1 h2 h3 hI
    obtain ⟨n, rfl⟩ : ∃ m, n = m + 1 := ⟨n - 1, by omega⟩
    have z := mm_cnt_nn (mm_bt sd) (S.I a 10).toNat
    have z2 := hI.2.1
    refine ⟨ord, fin sd sz ord (by omega) hI, ?_⟩
    rw [mm_e44_6]
    simp (disch := omega) only [mm_ptN, mm_gs, mm_br_le]
    rw [if_pos (by omega)]
  | succ j ih =>
    intro n rd sd sz ord o h0 h1 h2 h3 hI
    obtain ⟨n, rfl⟩ : ∃ m, n = m + 1 := ⟨n - 1, by omega⟩
    have z := mm_cnt_nn (mm_bt sd) (S.I a 10).toNat
    have z2 := hI.2.1
    rw [mm_e44_6]
    simp (disch := omega) only [mm_ptN, mm_gs, mm_br_le]
    by_cases e : S.I a 10 ≤ rd
    · rw [if_pos e]
      exact ⟨ord, fin sd sz ord (by omega) hI, rfl⟩
    · rw [if_neg e]
      by_cases f : S.I a 10 ≤ sz
      · rw [if_pos f]
        exact ⟨ord, fin sd sz ord f hI, rfl⟩
      · rw [if_neg f]
        obtain ⟨m, sd', sz', ord', o', q1, q2, q3, q4, q5⟩ := l_sortIn (E := E) (B := B) (c := c) (rd := mm_i rd) hd ha hN hG (S.I a 10).toNat 0 n sd sz ord (by omega) (by omega) hI
        have q5 : mm_r44_25 E (mm_ev E d) n (mm_ad B a) (mm_i sd) (mm_i sz) (mm_i rd) (mm_i 0) (mm_hp B (S.sA (a + 7) ord) c) = _ := q5
        rw [q5, mm_i_add]
        -- one more is sorted
        obtain ⟨rk, hr⟩ := hG.2.2.2
        have ex : ∃ s : Int, 0 ≤ s ∧ s < S.I a 10 ∧ mm_bt sd s = false := by
          by_cases ex : ∃ s : Int, 0 ≤ s ∧ s < S.I a 10 ∧ mm_bt sd s = false
          · exact ex
          · exfalso
            have e2 : mm_cnt (mm_bt sd) (S.I a 10).toNat = mm_cnt (fun _ => true) (S.I a 10).toNat := mm_cnt_congr _ (fun i i1 i2 => by
              cases h : mm_bt sd i with
              | true => rfl
              | false => exact absurd ⟨i, i1, by omega, h⟩ ex)
            have e3 : ∀ k : Nat, mm_cnt (fun _ => true) k = k := by
              intro k
              induction k with
              | zero => rfl
              | succ k ih => show mm_cnt (fun _ => true) k + 1 = _; rw [ih]; omega
            rw [e3] at e2
            omega
        obtain ⟨s, s1, s2, s3⟩ := ex
        obtain ⟨t, t1, t2, t3, t4⟩ := pp_next (pp_Wf_in _ _) hr (mm_bt sd) (rk s) s (Nat.le_refl _) s1 s2 s3
        have g := pp_cnt_lt (p := mm_bt sd) (q := mm_bt sd') (s := t) (S.I a 10).toNat (fun i _ _ h => q3 i h) t1 (by omega) t3 (q4 t (by omega) t2 t4)
        have z3 := q2.2.1
        exact ih m (rd + 1) sd' sz' ord' o' (by omega) (by omega) (by omega) (by omega) q2
theorem c_sort (hd : 2 ≤ d) (ha : a = 3 ∨ a = 14 ∨ a = 25) (hN : pp_NK S a) (hG : pp_GK S a) : ∃ ord, pp_OR (S.I a 10) (pp_Wf (S.I a 10) (S.A (a + 3))) ord ∧ mm_ev E d 44 [.ref (mm_ad B a)] (mm_hp B S c) = mm_oV (mm_hp B (S.sA (a + 7) ord) c) := by
  have hn := hN.1
  have hI : pp_SI (S.I a 10) (pp_Wf (S.I a 10) (S.A (a + 3))) 0 0 (S.A (a + 7)) := ⟨⟨by omega, by omega⟩, (by
    have e : ∀ k : Nat, mm_cnt (mm_bt 0) k = 0 := by
      intro k
      induction k with
      | zero => rfl
      | succ k ih => show mm_cnt (mm_bt 0) k + mm_b1 (mm_bt 0 k) = 0; rw [ih, mm_bt_0]; rfl
    rw [e]), fun i h1 h2 => by omega, fun s h1 h2 h3 => (by rw [mm_bt_0] at h3; cases h3), fun i k h1 h2 h3 => by omega, fun i j h1 h2 => by omega⟩
  obtain ⟨e, rfl⟩ : ∃ e, d = e + 1 := ⟨d - 1, by omega⟩
  have hS : S.sA (a + 7) (S.A (a + 7)) = S := by
    apply pp_ext
    · intros; rfl
    · intros; rfl
    · intro x
      by_cases h : x = a + 7
      · rw [h, mm_gs.2.2.2.2.2.2.2.2.1]
      · exact mm_gA_ne h
    · intros; rfl
  obtain ⟨F, hF, h⟩ := mm_w44 E e B S c a ha
  obtain ⟨ord, h1, h2⟩ := l_sortOut (E := E) (d := e) (B := B) (c := c) (by omega) ha hN hG 12 (F + 99) 0 0 0 (S.A (a + 7)) none (by omega) (by omega) (by omega) (by omega) hI
  rw [hS] at h2
  exact ⟨ord, h1, by rw [h, mm_e44_0]; exact h2⟩
end SORT
