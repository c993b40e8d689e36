/-! WAITS of the model -/
def bb_mc (S : mm_S) (k x : Int) : Int := min 1000000000 (S.A 108 (120 * k + x))
def bb_ma (S : mm_S) (k t : Int) : Int := pp_mr 1000000000 (fun i => S.A 108 (120 * k + i)) (t + 1).toNat
/-- rows of those in a set are numbers -/
def bb_sR (S : mm_S) (H : Int) (q : Int → Bool) : Prop := ∀ k x : Int, 0 ≤ k → k < 12 → q k = true → 0 ≤ x → x ≤ H → 0 ≤ S.A 108 (120 * k + x) ∧ S.A 108 (120 * k + x) < 2 * 1000000000
theorem bb_ma_r {S : mm_S} {H k t : Int} {q : Int → Bool} (h : bb_sR S H q) (k0 : 0 ≤ k) (k1 : k < 12) (hq : q k = true) (t1 : t ≤ H) : 0 ≤ bb_ma S k t ∧ bb_ma S k t ≤ 1000000000 := by
  have g := pp_mr_mi 1000000000 (fun i => S.A 108 (120 * k + i)) (t + 1).toNat
  refine ⟨pp_mi_nn g (by omega) ?_, g.1⟩
  rintro x ⟨i, i0, i1, rfl⟩
  exact (h k i k0 k1 hq i0 (by omega)).1
theorem bb_ma_xa {S : mm_S} {H k w : Int} (w0 : 0 ≤ w) (w1 : w ≤ H) : pp_mi 1000000000 (pp_xa (fun _ => H) (bb_mc S) k w) (min 1000000000 (bb_ma S k w)) := by
  have e : bb_ma S k w = pp_mr 1000000000 (fun i => bb_mc S k i) (w + 1).toNat := bb_mr_cap _
  have g := pp_mr_mi 1000000000 (fun i => bb_mc S k i) (w + 1).toNat
  rw [e, show min 1000000000 (pp_mr 1000000000 (fun i => bb_mc S k i) (w + 1).toNat) = pp_mr 1000000000 (fun i => bb_mc S k i) (w + 1).toNat by have := g.1; omega]
  refine pp_mi_to g ?_ ?_
  · rintro _ ⟨z, z1, z2, z3, rfl⟩
    exact ⟨_, ⟨z, z1, by omega, rfl⟩, Int.le_refl _⟩
  · rintro _ ⟨i, i1, i2, i3⟩
    exact ⟨i, i1, by show i ≤ H; omega, by omega, i3⟩
section
variable {E : mm_E} {d B : Nat} {S : mm_S} {c : mm_N} {f wd : Int → Int} {H : Int}
theorem l_lw1 {sp k : Int} {x1 : Int32} (k0 : 0 ≤ k) (k1 : k < 12) (hH : S.I 101 15 = H) (hH2 : 0 ≤ H ∧ H ≤ 117) (hq : mm_bt sp k = true) (hs : bb_sR S H (mm_bt sp)) : ∀ (j n : Nat) (t : Int) (m : Int → Int), 0 ≤ t → t + j = H + 1 → 2 * j < n → (∀ i : Int, 0 ≤ i → i < t → m (120 * k + i) = bb_ma S k i) → ∃ (n' : Nat) (m' : Int → Int) (o4 o5 : Option Value), n ≤ n' + 2 * j + 1 ∧ (∀ i : Int, 0 ≤ i → i ≤ H → m' (120 * k + i) = bb_ma S k i) ∧ (∀ i : Int, ¬ (120 * k ≤ i ∧ i < 120 * k + 120) → m' i = m i) ∧ mm_r198_28 E (mm_ev E d) n (mm_ad B 101) x1 (mm_i sp) (mm_i k) (mm_i (pp_mr 1000000000 (fun i => S.A 108 (120 * k + i)) t.toNat)) (mm_i t) (mm_hp B (S.sA 109 m) c) = mm_r198_2 E (mm_ev E d) n' (mm_ad B 101) x1 (mm_i sp) (mm_i (k + 1)) o4 o5 (mm_hp B (S.sA 109 m') c) := by
  intro j
  induction j with
  | zero =>
    intro n t m t0 tj hn hm
    obtain ⟨n, rfl⟩ : ∃ q, n = q + 1 := ⟨n - 1, by omega⟩
    refine ⟨n, m, some (.int (mm_i (pp_mr 1000000000 (fun i => S.A 108 (120 * k + i)) t.toNat))), some (.int (mm_i t)), by omega, fun i i0 i1 => hm i i0 (by omega), fun _ _ => rfl, ?_⟩
    rw [mm_e198_28]
    simp (disch := omega) only [mm_ptM, mm_gs, hH, mm_br_lt, mm_hm]
    rw [if_pos (by omega)]
  | succ j ih =>
    intro n t m t0 tj hn hm
    obtain ⟨n, rfl⟩ : ∃ q, n = q + 2 := ⟨n - 2, by omega⟩
    have r := hs k t k0 k1 hq t0 (by omega)
    have ma := bb_ma_r (t := t) hs k0 k1 hq (by omega)
    have mb := bb_ma_r (t := t - 1) hs k0 k1 hq (by omega)
    have e0 : pp_mr 1000000000 (fun i => S.A 108 (120 * k + i)) t.toNat = bb_ma S k (t - 1) := by
      unfold bb_ma
      rw [show t - 1 + 1 = t by omega]
    have e1 : bb_ma S k t = min (bb_ma S k (t - 1)) (S.A 108 (120 * k + t)) := by
      rw [← e0]
      unfold bb_ma
      rw [show (t + 1).toNat = t.toNat + 1 by omega]
      show min _ (S.A 108 (120 * k + (t.toNat : Int))) = _
      rw [show ((t.toNat : Nat) : Int) = t by omega]
    obtain ⟨n', m', o4, o5, r1, r2, r3, r4⟩ := ih n (t + 1) (mm_u m (120 * k + t) (bb_ma S k t)) (by omega) (by omega) (by omega) (fun i i0 i1 => by
      by_cases e : i = t
      · rw [e, mm_u_eq]
      · rw [mm_u_ne (by omega)]; exact hm i i0 (by omega))
    refine ⟨n', m', o4, o5, by omega, r2, fun i hi => by rw [r3 i hi, mm_u_ne (by omega)], ?_⟩
    rw [← r4, e0, mm_e198_28]
    simp (disch := omega) only [mm_ptM, mm_gs, mm_gA_ne, hH, mm_br_lt, mm_hm]
    rw [if_neg (by omega), mm_i_mn (by omega) (by omega) (by omega) (by omega), ← e1, mm_e198_56]
    simp (disch := omega) only [mm_ptM, mm_gs, mm_gA_ne, mm_hm]
    rfl
theorem l_lw2 {sp : Int} {x1 : Int32} (hd : 1 ≤ d) (hM : bb_MC S f wd H) (sp0 : 0 ≤ sp) (hs : bb_sR S H (mm_bt sp)) : ∀ (j n : Nat) (k : Int) (m : Int → Int) (o4 o5 : Option Value), 0 ≤ k → k + j = f 0 → 240 * j < n → (∀ i t : Int, 0 ≤ i → i < k → mm_bt sp i = true → 0 ≤ t → t ≤ H → m (120 * i + t) = bb_ma S i t) → ∃ (n' : Nat) (m' : Int → Int) (o4' o5' : Option Value), n ≤ n' + 240 * j + 1 ∧ (∀ i t : Int, 0 ≤ i → i < f 0 → mm_bt sp i = true → 0 ≤ t → t ≤ H → m' (120 * i + t) = bb_ma S i t) ∧ mm_r198_2 E (mm_ev E d) n (mm_ad B 101) x1 (mm_i sp) (mm_i k) o4 o5 (mm_hp B (S.sA 109 m) c) = mm_r198_84 E (mm_ev E d) n' (mm_ad B 101) x1 (mm_i sp) (mm_i 0) o4' o5' (mm_hp B (S.sA 109 m') c) := by
  have n12 := hM.2.1.1
  have hH := hM.2.2.1
  have hH2 := hM.2.2.2.1
  have eN : S.A 102 0 = f 0 := by rw [hM.1]
  intro j
  induction j with
  | zero =>
    intro n k m o4 o5 k0 kj hn hm
    obtain ⟨n, rfl⟩ : ∃ q, n = q + 1 := ⟨n - 1, by omega⟩
    refine ⟨n, m, o4, o5, by omega, fun i t i0 i1 => hm i t i0 (by omega), ?_⟩
    rw [mm_e198_2, c_many hd, mm_cI_ok]
    simp (disch := omega) only [mm_gs, mm_gA_ne, eN, mm_br_le]
    rw [if_pos (by omega)]
  | succ j ih =>
    intro n k m o4 o5 k0 kj hn hm
    obtain ⟨n, rfl⟩ : ∃ q, n = q + 1 := ⟨n - 1, by omega⟩
    rw [mm_e198_2, c_many hd, mm_cI_ok]
    simp (disch := omega) only [mm_gs, mm_gA_ne, eN, mm_br_le]
    rw [if_neg (by omega), c_isOf hd sp0 k0 (by omega), mm_cI_ok, mm_br_b1]
    by_cases q : mm_bt sp k = true
    · rw [if_pos q]
      obtain ⟨n', m', o4', o5', r1, r2, r3, r4⟩ := l_lw1 (E := E) (d := d) (B := B) (S := S) (c := c) (H := H) (sp := sp) (k := k) (x1 := x1) k0 (by omega) hH hH2 q hs (H + 1).toNat n 0 m (by omega) (by omega) (by omega) (fun i i0 i1 => by omega)
      rw [show mm_i 1000000000 = mm_i (pp_mr 1000000000 (fun i => S.A 108 (120 * k + i)) (0 : Int).toNat) from rfl, r4]
      obtain ⟨n2, m2, p4, p5, t1, t2, t3⟩ := ih n' (k + 1) m' o4' o5' (by omega) (by omega) (by omega) (fun i t i0 i1 hi t0 t1 => by
        by_cases e : i = k
        · rw [e]; exact r2 t t0 t1
        · rw [r3 _ (by omega)]; exact hm i t i0 (by omega) hi t0 t1)
      exact ⟨n2, m2, p4, p5, by omega, t2, t3⟩
    · rw [if_neg q, mm_i_add]
      obtain ⟨n2, m2, p4, p5, t1, t2, t3⟩ := ih n (k + 1) m o4 o5 (by omega) (by omega) (by omega) (fun i t i0 i1 hi t0 t1 => by
        by_cases e : i = k
        · rw [e] at hi; exact absurd hi q
        · exact hm i t i0 (by omega) hi t0 t1)
      exact ⟨n2, m2, p4, p5, by omega, t2, t3⟩
/-- one just at w, all others no later -/
theorem l_oneAt {sp k w oo : Int} (hd : 1 ≤ d) (hM : bb_MC S f wd H) (sp0 : 0 ≤ sp) (w0 : 0 ≤ w) (w1 : w ≤ H) (hs : bb_sR S H (mm_bt sp)) (hm : ∀ i t : Int, 0 ≤ i → i < f 0 → mm_bt sp i = true → 0 ≤ t → t ≤ H → S.A 109 (120 * i + t) = bb_ma S i t) (k0 : 0 ≤ k) (k1 : k < 12) (ck : 0 ≤ bb_mc S k w) : ∀ (j i n : Nat) (v b : Int), (f 0).toNat = i + j → 2 * j < n → (0 ≤ v ∧ v < 2 * 1000000000) → 0 ≤ b → pp_mi 1000000000 (pp_xb oo (bb_ex (mm_bt sp) k) (fun _ => H) (bb_mc S) i w) b → min 1000000000 v = min 1000000000 (b + bb_mc S k w) →
    ∃ v', (0 ≤ v' ∧ v' < 2 * 1000000000) ∧ pp_mi 1000000000 (fun v => ∃ x, pp_xb oo (bb_ex (mm_bt sp) k) (fun _ => H) (bb_mc S) (f 0).toNat w x ∧ v = x + bb_mc S k w) (min 1000000000 v') ∧ mm_r199_16 E (mm_ev E d) n (mm_ad B 101) (mm_i sp) (mm_i k) (mm_i w) (mm_i v) (mm_i (i : Int)) (mm_hp B S c) = mm_oI v' (mm_hp B S c) := by
  have n12 := hM.2.1.1
  have hH2 := hM.2.2.2.1
  have eN : S.A 102 0 = f 0 := by rw [hM.1]
  intro j
  induction j with
  | zero =>
    intro i n v b ij hn hv b0 hb e
    obtain ⟨n, rfl⟩ : ∃ q, n = q + 1 := ⟨n - 1, by omega⟩
    refine ⟨v, hv, ?_, ?_⟩
    · rw [e, ij, Nat.add_zero]
      exact pp_mi_k hb b0 ck
    · rw [mm_e199_16, c_many hd, mm_cI_ok, eN, mm_br_le (by omega) (by omega) (by omega) (by omega), if_pos (by omega)]
  | succ j ih =>
    intro i n v b ij hn hv b0 hb e
    obtain ⟨n, rfl⟩ : ∃ q, n = q + 2 := ⟨n - 2, by omega⟩
    have skip : bb_ex (mm_bt sp) k i = false → ∀ n', 2 * j < n' → ∃ v', (0 ≤ v' ∧ v' < 2 * 1000000000) ∧ pp_mi 1000000000 (fun v => ∃ x, pp_xb oo (bb_ex (mm_bt sp) k) (fun _ => H) (bb_mc S) (f 0).toNat w x ∧ v = x + bb_mc S k w) (min 1000000000 v') ∧ mm_r199_16 E (mm_ev E d) n' (mm_ad B 101) (mm_i sp) (mm_i k) (mm_i w) (mm_i v) (mm_i ((i : Int) + 1)) (mm_hp B S c) = mm_oI v' (mm_hp B S c) := by
      intro hq n' hn'
      have g := ih (i + 1) n' v b (by omega) hn' hv b0 (pp_mi_to hb (fun y hy => ⟨y, (pp_x_n hq).1.mp hy, Int.le_refl y⟩) (fun _ hy => (pp_x_n hq).1.mpr hy)) e
      rw [Int.natCast_add, Int.natCast_one] at g
      exact g
    rw [mm_e199_16, c_many hd, mm_cI_ok, eN, mm_br_le (by omega) (by omega) (by omega) (by omega), if_neg (by omega), mm_br_eq (by omega) (by omega) (by omega) (by omega), mm_i_add]
    by_cases q1 : (i : Int) = k
    · rw [if_pos q1]
      exact skip (by unfold bb_ex; rw [decide_eq_true q1, Bool.not_true, Bool.and_false]) (n + 1) (by omega)
    · rw [if_neg q1, c_isOf hd sp0 (by omega) (by omega), mm_cI_ok, mm_br_b1]
      by_cases q2 : mm_bt sp i = true
      · have hq : bb_ex (mm_bt sp) k i = true := by unfold bb_ex; rw [q2, decide_eq_false q1]; rfl
        have ma := bb_ma_r (t := w) hs (show 0 ≤ (i : Int) by omega) (by omega) q2 w1
        have em := hm i w (by omega) (by omega) q2 w0 w1
        have p := bb_pl_r (x := v) (y := bb_ma S i w) hv.1 ma.1
        rw [if_pos q2, mm_e199_40]
        simp (disch := omega) only [mm_ptM, mm_hm]
        rw [em, m_plus hd (by omega) (by omega) (by omega) (by omega), mm_cI_ok]
        have xa := bb_ma_xa (S := S) (k := (i : Int)) w0 w1
        have st := pp_xb_s (m := min 1000000000 (bb_ma S i w)) hq hb xa b0 (by omega)
        have g := ih (i + 1) n (bb_pl v (bb_ma S i w)) _ (by omega) (by omega) ⟨p.1, p.2.1⟩ (by omega) st (by omega)
        rw [Int.natCast_add, Int.natCast_one] at g
        exact g
      · rw [if_neg q2]
        exact skip (by unfold bb_ex; rw [Bool.eq_false_iff.mpr q2, Bool.false_and]) (n + 1) (by omega)
theorem m_oneAt {sp k w oo : Int} (hd : 2 ≤ d) (hM : bb_MC S f wd H) (sp0 : 0 ≤ sp) (w0 : 0 ≤ w) (w1 : w ≤ H) (hs : bb_sR S H (mm_bt sp)) (hm : ∀ i t : Int, 0 ≤ i → i < f 0 → mm_bt sp i = true → 0 ≤ t → t ≤ H → S.A 109 (120 * i + t) = bb_ma S i t) (k0 : 0 ≤ k) (k1 : k < f 0) (hk : mm_bt sp k = true) (ho : oo ≤ w) :
    ∃ v', (0 ≤ v' ∧ v' < 2 * 1000000000) ∧ pp_mi 1000000000 (fun v => ∃ x, pp_xb oo (bb_ex (mm_bt sp) k) (fun _ => H) (bb_mc S) (f 0).toNat w x ∧ v = x + bb_mc S k w) (min 1000000000 v') ∧ mm_ev E d 199 [.ref (mm_ad B 101), .int (mm_i sp), .int (mm_i k), .int (mm_i w)] (mm_hp B S c) = mm_oI v' (mm_hp B S c) := by
  have n12 := hM.2.1.1
  have hH2 := hM.2.2.2.1
  have r := hs k w k0 (by omega) hk w0 w1
  obtain ⟨e, rfl⟩ : ∃ k, d = k + 1 := ⟨d - 1, by omega⟩
  obtain ⟨F, hF, h⟩ := mm_w199 E e B S c (mm_i sp) (mm_i k) (mm_i w)
  rw [h, mm_e199_0]
  simp (disch := omega) only [mm_ptM, mm_hm]
  have z := pp_xb_0 (F := 1000000000) (oo := oo) (q := bb_ex (mm_bt sp) k) (U := fun _ => H) (c := bb_mc S) (w := w) (by omega)
  rw [if_neg (by omega)] at z
  exact l_oneAt (by omega) hM sp0 w0 w1 hs hm k0 (by omega) (by unfold bb_mc; omega) (f 0).toNat 0 (F + 99) (S.A 108 (120 * k + w)) 0 (by omega) (by omega) r (by omega) z (by unfold bb_mc; omega)
end
