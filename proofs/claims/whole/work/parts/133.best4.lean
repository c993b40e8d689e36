/-! WHAT CUSTOMERS COST, by the time -/
def bb_hl (T : Int → Int) (s t : Int) : Bool := decide ((T (s * 7 + 6) = -1 ∨ t = T (s * 7 + 6)) ∧ (T (s * 7 + 5) = -1 ∨ t ≤ T (s * 7 + 5)))
def bb_ow (T : Int → Int) (s t : Int) : Int := if bb_hl T s t = true then (if s < 4 then t * bb_pw s * 18446744073709551616 else t * bb_pw s) else 5316911983139663491615228241121378304
theorem bb_ow_r {T : Int → Int} {s t : Int} (h0 : 0 ≤ s) (h1 : s < 12) (t0 : 0 ≤ t) (t1 : t ≤ 127) : 0 ≤ bb_ow T s t ∧ bb_ow T s t ≤ 5316911983139663491615228241121378304 ∧ (0 ≤ t * bb_pw s ∧ t * bb_pw s ≤ 72057594037927936 ∧ (s < 4 → t * bb_pw s ≤ 268435456)) := by
  have r := bb_pw_r h0 h1
  have b0 : 0 ≤ t * bb_pw s := Int.mul_nonneg t0 (by omega)
  have b1 : t * bb_pw s ≤ 127 * 562949953421312 := Int.mul_le_mul t1 r.2.1 (by omega) (by omega)
  have b2 : s < 4 → t * bb_pw s ≤ 127 * 2097152 := fun h => Int.mul_le_mul t1 (r.2.2 h) (by omega) (by omega)
  have b3 : s < 4 → t * bb_pw s ≤ 268435456 := fun h => by have := b2 h; omega
  refine ⟨?_, ?_, b0, by omega, b3⟩
  · unfold bb_ow
    by_cases q : bb_hl T s t = true
    · rw [if_pos q]
      by_cases q2 : s < 4
      · rw [if_pos q2]; omega
      · rw [if_neg q2]; omega
    · rw [if_neg q]; omega
  · unfold bb_ow
    by_cases q : bb_hl T s t = true
    · rw [if_pos q]
      by_cases q2 : s < 4
      · have := b3 q2
        rw [if_pos q2]; omega
      · rw [if_neg q2]; omega
    · rw [if_neg q]; omega
section
variable {E : mm_E} {d B : Nat} {S : mm_S} {c : mm_N} {a : Nat}
theorem bb_bits {s t : Int} (h0 : 0 ≤ s) (h1 : s < 12) (t0 : 0 ≤ t) (t1 : t ≤ 127) : (Int32.toInt64 (mm_i t)) <<< (Int32.toInt64 (mm_i (bb_sh s)) &&& 63) = mm_j (t * bb_pw s) := by
  have r := bb_sh_r h0 h1
  have g := bb_shl (t := t) (k := (bb_sh s).toNat) t0 (by omega)
  rw [show (((bb_sh s).toNat : Nat) : Int) = bb_sh s by omega] at g
  rw [mm_i2l (by omega) (by omega)]
  exact g
theorem l_wc1 {s pin pro L : Int} {T : Int → Int} (hd : 1 ≤ d) (ha : a = 3 ∨ a = 14 ∨ a = 25) (h1 : 0 ≤ s) (h2 : s < 12) (hL : S.A (a + 10) s = L) (hL2 : 0 ≤ L ∧ L ≤ 117) (hp : T (s * 7 + 6) = pin) (hq : T (s * 7 + 5) = pro) (hp2 : -1 ≤ pin ∧ pin ≤ 200) (hq2 : -1 ≤ pro ∧ pro ≤ 200) : ∀ (j n : Nat) (t : Int) (f g : Int → Int) (o6 o7 o8 : Option Value), 0 ≤ t → t + j = L + 1 → 3 * j < n → pp_vr f g (t - 1) 72057594037927936 (bb_ow T s) →
    ∃ m f' g' o6' o7' o8', n ≤ m + 3 * j + 1 ∧ pp_vr f' g' L 72057594037927936 (bb_ow T s) ∧ mm_r13_19 E (mm_ev E d) n (mm_ad B 40) (mm_ad B a) (mm_i s) (mm_i pin) (mm_i pro) (mm_i t) o6 o7 o8 (mm_hp B ((S.sL 49 f).sL 50 g) c) = mm_r13_122 E (mm_ev E d) m (mm_ad B 40) (mm_ad B a) (mm_i s) (mm_i pin) (mm_i pro) (mm_i 0) o6' o7' o8' (mm_hp B ((S.sL 49 f').sL 50 g') c) := by
  intro j
  induction j with
  | zero =>
    intro n t f g o6 o7 o8 t0 tj hn hf
    obtain ⟨n, rfl⟩ : ∃ m, n = m + 1 := ⟨n - 1, by omega⟩
    refine ⟨n, f, g, o6, o7, o8, by omega, by rw [show L = t - 1 by omega]; exact hf, ?_⟩
    rw [mm_e13_19]
    simp (disch := omega) only [mm_ptN, mm_gs, hL, mm_br_lt]
    rw [if_pos (by omega)]
  | succ j ih =>
    intro n t f g o6 o7 o8 t0 tj hn hf
    obtain ⟨n, rfl⟩ : ∃ m, n = m + 3 := ⟨n - 3, by omega⟩
    have ob := bb_ow_r (T := T) h1 h2 t0 (by omega)
    have e1 : mm_r13_19 E (mm_ev E d) (n + 3) (mm_ad B 40) (mm_ad B a) (mm_i s) (mm_i pin) (mm_i pro) (mm_i t) o6 o7 o8 (mm_hp B ((S.sL 49 f).sL 50 g) c) = mm_r13_59 E (mm_ev E d) (n + 2) (mm_ad B 40) (mm_ad B a) (mm_i s) (mm_i pin) (mm_i pro) (mm_i t) o6 o7 o8 (mm_i (mm_b1 (bb_hl T s t))) (mm_hp B ((S.sL 49 f).sL 50 g) c) := by
      rw [mm_e13_19]
      simp (disch := omega) only [mm_ptN, mm_gs, hL, mm_br_lt, mm_br_eq]
      rw [if_neg (by omega)]
      by_cases q1 : pin = -1
      · simp only [if_pos q1]
        by_cases q2 : pro = -1
        · simp only [if_pos q2]
          rw [show bb_hl T s t = true from decide_eq_true (by omega)]; rfl
        · simp only [if_neg q2]
          by_cases q3 : pro < t
          · simp only [if_pos q3]
            rw [show bb_hl T s t = false from decide_eq_false (by omega)]; rfl
          · simp only [if_neg q3]
            rw [show bb_hl T s t = true from decide_eq_true (by omega)]; rfl
      · simp only [if_neg q1]
        by_cases q4 : t = pin
        · simp only [if_pos q4]
          by_cases q2 : pro = -1
          · simp only [if_pos q2]
            rw [show bb_hl T s t = true from decide_eq_true (by omega)]; rfl
          · simp only [if_neg q2]
            by_cases q3 : pro < t
            · simp only [if_pos q3]
              rw [show bb_hl T s t = false from decide_eq_false (by omega)]; rfl
            · simp only [if_neg q3]
              rw [show bb_hl T s t = true from decide_eq_true (by omega)]; rfl
        · simp only [if_neg q4]
          rw [show bb_hl T s t = false from decide_eq_false (by omega)]; rfl
    have bits := bb_bits (s := s) (t := t) h1 h2 t0 (by omega)
    have e2 : ∃ (h l : Int) (u7 : Int64), (0 ≤ h ∧ h ≤ 288230376151711744 ∧ 0 ≤ l ∧ l ≤ 72057594037927936 ∧ h * 18446744073709551616 + l = bb_ow T s t) ∧ mm_r13_59 E (mm_ev E d) (n + 2) (mm_ad B 40) (mm_ad B a) (mm_i s) (mm_i pin) (mm_i pro) (mm_i t) o6 o7 o8 (mm_i (mm_b1 (bb_hl T s t))) (mm_hp B ((S.sL 49 f).sL 50 g) c) = mm_r13_19 E (mm_ev E d) n (mm_ad B 40) (mm_ad B a) (mm_i s) (mm_i pin) (mm_i pro) (mm_i (t + 1)) (some (.int (mm_i (mm_b1 (bb_hl T s t))))) (some (.long u7)) none (mm_hp B ((S.sL 49 (mm_u f t h)).sL 50 (mm_u g t l)) c) := by
      obtain ⟨hi, lo, hb, hh⟩ : ∃ hi lo : Int, (0 ≤ hi ∧ hi ≤ 8 * 288230376151711744 ∧ 0 ≤ lo ∧ lo ≤ 72057594037927936 ∧ min 5316911983139663491615228241121378304 (hi * 18446744073709551616 + lo) = bb_ow T s t) ∧ (hi = (if bb_hl T s t = true then (if 4 ≤ s then 0 else t * bb_pw s) else 288230376151711744)) ∧ lo = (if 4 ≤ s then t * bb_pw s else 0) := by
        refine ⟨_, _, ?_, rfl, rfl⟩
        unfold bb_ow
        by_cases q1 : bb_hl T s t = true
        · simp only [if_pos q1]
          by_cases q2 : s < 4
          · have := ob.2.2.2.2 q2
            simp only [if_pos q2, if_neg (show ¬ 4 ≤ s by omega)]
            omega
          · simp only [if_neg q2, if_pos (show 4 ≤ s by omega)]
            omega
        · simp only [if_neg q1]
          by_cases q2 : s < 4
          · simp only [if_neg (show ¬ 4 ≤ s by omega)]
            omega
          · simp only [if_pos (show 4 ≤ s by omega)]
            omega
      obtain ⟨h, l, hh1, he⟩ := c_put (E := E) (d := d) (B := B) (c := c) (S := ((S.sL 49 f).sL 50 g)) (a := 48) (a1 := 49) (a2 := 50) (i := t) (h := hi) (l := lo) hd rfl rfl (by omega) (by omega) (by omega) (by omega) (by omega) (by omega) (by omega)
      simp (disch := omega) only [pp_cm, mm_gs, mm_gL_ne] at he
      refine ⟨h, l, mm_j (t * bb_pw s), ⟨by omega, by omega, by omega, by omega, by omega⟩, ?_⟩
      rw [mm_e13_59, c_shiftOf (by omega) h1 h2]
      simp (disch := omega) only [mm_cI_ok, mm_ptB, bits, mm_br_b1, mm_br_le]
      by_cases q1 : bb_hl T s t = true
      · by_cases q2 : 4 ≤ s
        · rw [if_pos q1, if_pos q2] at hh
          rw [if_pos q2] at hh
          rw [if_pos q1, if_pos q2, mm_e13_99, mm_br_le (by omega) (by omega) (by omega) (by omega), if_pos q2, ← hh.1, ← hh.2, he, mm_cV_ok, mm_i_add]
        · rw [if_pos q1, if_neg q2, if_neg q2] at hh
          rw [if_pos q1, if_neg q2, mm_e13_99, mm_br_le (by omega) (by omega) (by omega) (by omega), if_neg q2, ← hh.1, show mm_j 0 = mm_j lo by rw [hh.2], he, mm_cV_ok, mm_i_add]
      · by_cases q2 : 4 ≤ s
        · rw [if_neg q1, if_pos q2] at hh
          rw [if_neg q1, mm_e13_99, mm_br_le (by omega) (by omega) (by omega) (by omega), if_pos q2, ← hh.1, ← hh.2, he, mm_cV_ok, mm_i_add]
        · rw [if_neg q1, if_neg q2] at hh
          rw [if_neg q1, mm_e13_99, mm_br_le (by omega) (by omega) (by omega) (by omega), if_neg q2, ← hh.1, show mm_j 0 = mm_j lo by rw [hh.2], he, mm_cV_ok, mm_i_add]
    obtain ⟨h, l, u7, hh, e2⟩ := e2
    rw [e1, e2]
    obtain ⟨m, f', g', o6', o7', o8', r1, r2, r3⟩ := ih n (t + 1) _ _ (some (.int (mm_i (mm_b1 (bb_hl T s t))))) (some (.long u7)) none (by omega) (by omega) (by omega) (by rw [show t + 1 - 1 = t by omega]; exact pp_vr_st hf hh)
    exact ⟨m, f', g', o6', o7', o8', by omega, r2, r3⟩
theorem l_wc3 {s L b : Int} {k : Nat} {x3 x4 : Int32} {own cc f0 g0 : Int → Int} (hd : 1 ≤ d) (ha : a = 3 ∨ a = 14 ∨ a = 25) (hk : k < 12) (h1 : 0 ≤ s) (h2 : s < 12) (hL : S.A (a + 10) s = L) (hL2 : 0 ≤ L ∧ L ≤ 117) (hb : 0 ≤ b ∧ b + 72057594037927936 ≤ 2305843009213693952) (h0 : pp_vr f0 g0 L b own) (hc : pp_vr (S.L (58 + 3 * k)) (S.L (59 + 3 * k)) L 72057594037927936 cc) : ∀ (j n : Nat) (t : Int) (f g : Int → Int) (o7 o8 : Option Value), 0 ≤ t → t + j = L + 1 → j < n → (∀ i : Int, t ≤ i → f i = f0 i ∧ g i = g0 i) → pp_vr f g (t - 1) (b + 72057594037927936) (fun t => min 5316911983139663491615228241121378304 (own t + cc t)) →
    ∃ m f' g' o6' o7' o8', n ≤ m + j + 1 ∧ pp_vr f' g' L (b + 72057594037927936) (fun t => min 5316911983139663491615228241121378304 (own t + cc t)) ∧ mm_r13_155 E (mm_ev E d) n (mm_ad B 40) (mm_ad B a) (mm_i s) x3 x4 (mm_i (k : Int)) (mm_i t) o7 o8 (mm_hp B ((S.sL 49 f).sL 50 g) c) = mm_r13_122 E (mm_ev E d) m (mm_ad B 40) (mm_ad B a) (mm_i s) x3 x4 (mm_i ((k : Int) + 1)) o6' o7' o8' (mm_hp B ((S.sL 49 f').sL 50 g') c) := by
  intro j
  induction j with
  | zero =>
    intro n t f g o7 o8 t0 tj hn hs hf
    obtain ⟨n, rfl⟩ : ∃ m, n = m + 1 := ⟨n - 1, by omega⟩
    refine ⟨n, f, g, some (.int (mm_i t)), o7, o8, by omega, by rw [show L = t - 1 by omega]; exact hf, ?_⟩
    rw [mm_e13_155]
    simp (disch := omega) only [mm_ptN, mm_gs, hL, mm_br_lt, mm_hm]
    rw [if_pos (by omega)]
  | succ j ih =>
    intro n t f g o7 o8 t0 tj hn hs hf
    obtain ⟨n, rfl⟩ : ∃ m, n = m + 1 := ⟨n - 1, by omega⟩
    have sw := hs t (Int.le_refl t)
    have r0 := h0 t t0 (by omega)
    have rc := hc t t0 (by omega)
    obtain ⟨h, l, hh, he⟩ := c_put (E := E) (d := d) (B := B) (c := c) (S := ((S.sL 49 f).sL 50 g)) (a := 48) (a1 := 49) (a2 := 50) (i := t) (h := f t + S.L (58 + 3 * k) t) (l := g t + S.L (59 + 3 * k) t) hd rfl rfl (by omega) (by omega) (by omega) (by omega) (by omega) (by omega) (by omega)
    simp (disch := omega) only [pp_cm, mm_gs, mm_gL_ne] at he
    have step : mm_r13_155 E (mm_ev E d) (n + 1) (mm_ad B 40) (mm_ad B a) (mm_i s) x3 x4 (mm_i (k : Int)) (mm_i t) o7 o8 (mm_hp B ((S.sL 49 f).sL 50 g) c) = mm_r13_155 E (mm_ev E d) n (mm_ad B 40) (mm_ad B a) (mm_i s) x3 x4 (mm_i (k : Int)) (mm_i (t + 1)) o7 o8 (mm_hp B ((S.sL 49 (mm_u f t h)).sL 50 (mm_u g t l)) c) := by
      rw [mm_e13_155]
      simp (disch := omega) only [mm_ptN, mm_gs, hL, mm_br_lt]
      rw [if_neg (by omega)]
      simp (disch := omega) only [mm_ptB, mm_ptRR, pp_pq, mm_gs, mm_gL_ne, Int.toNat_natCast, mm_hm]
      rw [he, mm_cV_ok]
    rw [step]
    obtain ⟨m, f', g', o6', o7', o8', r1, r2, r3⟩ := ih n (t + 1) (mm_u f t h) (mm_u g t l) o7 o8 (by omega) (by omega) (by omega) (fun i hi => by
      simp only [mm_u_ne (show i ≠ t by omega)]
      exact hs i (by omega)) (by
      rw [show t + 1 - 1 = t by omega]
      exact pp_vr_st hf ⟨by omega, by omega, by omega, by omega, by omega⟩)
    exact ⟨m, f', g', o6', o7', o8', by omega, r2, r3⟩
theorem l_wc2 {s inw L : Int} {x3 x4 : Int32} {cc : Int → Int → Int} (hd : 1 ≤ d) (ha : a = 3 ∨ a = 14 ∨ a = 25) (hT : pp_NT S a) (h1 : 0 ≤ s) (h2 : s < S.I a 10) (hi : S.A 56 s = inw) (hi2 : -1 ≤ inw ∧ inw < 12) (hL : S.A (a + 10) s = L) (hL2 : 0 ≤ L ∧ L ≤ 117) (hR : bb_RW S a cc (pp_k2 (pp_Wf (S.I a 10) (S.A (a + 3))) s inw) (fun _ => L)) : ∀ (j i n : Nat) (f g : Int → Int) (o6 o7 o8 : Option Value), (S.I a 10).toNat = i + j → 200 * j < n → pp_vr f g L ((i + 1) * 72057594037927936) (fun t => min 5316911983139663491615228241121378304 (bb_ow (S.A (a + 1)) s t + pp_sm (fun k => if pp_k2 (pp_Wf (S.I a 10) (S.A (a + 3))) s inw k = true then cc k t else 0) i)) →
    ∃ f' g', pp_vr f' g' L (13 * 72057594037927936) (fun t => min 5316911983139663491615228241121378304 (pp_bl (S.I a 10) (pp_Wf (S.I a 10) (S.A (a + 3))) (bb_ow (S.A (a + 1))) cc s inw t)) ∧ mm_r13_122 E (mm_ev E d) n (mm_ad B 40) (mm_ad B a) (mm_i s) x3 x4 (mm_i i) o6 o7 o8 (mm_hp B ((S.sL 49 f).sL 50 g) c) = mm_oV (mm_hp B ((S.sL 49 f').sL 50 g') c) := by
  have hN := hT.1.1
  intro j
  induction j with
  | zero =>
    intro i n f g o6 o7 o8 hi hn hf
    obtain ⟨n, rfl⟩ : ∃ m, n = m + 1 := ⟨n - 1, by omega⟩
    refine ⟨f, g, fun x x1 x2 => ?_, ?_⟩
    · have z := hf x x1 x2
      unfold pp_bl
      dsimp only at z ⊢
      rw [show (S.I a 10).toNat = i by omega]
      omega
    · rw [mm_e13_122]
      simp (disch := omega) only [mm_ptN, mm_gs, mm_br_le]
      rw [if_pos (by omega)]
  | succ j ih =>
    intro i n f g o6 o7 o8 hij hn hf
    obtain ⟨n, rfl⟩ : ∃ m, n = m + 1 := ⟨n - 1, by omega⟩
    have hb := hT.1.2.2.1 i (by omega) (by omega)
    have eW : pp_Wf (S.I a 10) (S.A (a + 3)) s (i : Int) = mm_bt (S.A (a + 3) i) s := pp_Wf_eq ⟨h1, h2, by omega, by omega⟩
    have es : ∀ t : Int, pp_sm (fun k => if pp_k2 (pp_Wf (S.I a 10) (S.A (a + 3))) s inw k = true then cc k t else 0) (i + 1) = pp_sm (fun k => if pp_k2 (pp_Wf (S.I a 10) (S.A (a + 3))) s inw k = true then cc k t else 0) i + (if pp_k2 (pp_Wf (S.I a 10) (S.A (a + 3))) s inw i = true then cc i t else 0) := fun t => rfl
    rw [mm_e13_122]
    simp (disch := omega) only [mm_ptN, mm_gs, mm_br_le]
    rw [if_neg (by omega), c_supplies (by omega) ha h1 (by omega) (by omega) (by omega) (by simp (disch := omega) only [mm_gs]; omega)]
    simp (disch := omega) only [mm_cI_ok, mm_gs, mm_br_b1, mm_ptB, hi, mm_br_eq, mm_hm]
    have skip : pp_k2 (pp_Wf (S.I a 10) (S.A (a + 3))) s inw i = false → ∃ f' g', pp_vr f' g' L (13 * 72057594037927936) (fun t => min 5316911983139663491615228241121378304 (pp_bl (S.I a 10) (pp_Wf (S.I a 10) (S.A (a + 3))) (bb_ow (S.A (a + 1))) cc s inw t)) ∧ mm_r13_122 E (mm_ev E d) n (mm_ad B 40) (mm_ad B a) (mm_i s) x3 x4 (mm_i ((i : Int) + 1)) o6 o7 o8 (mm_hp B ((S.sL 49 f).sL 50 g) c) = mm_oV (mm_hp B ((S.sL 49 f').sL 50 g') c) := by
      intro hq
      have g := ih (i + 1) n f g o6 o7 o8 (by omega) (by omega) (fun x x1 x2 => by
        have z := hf x x1 x2
        show _ ∧ _ ∧ _ ∧ _ ∧ _ = min 5316911983139663491615228241121378304 (_ + pp_sm _ (i + 1))
        rw [es, hq, if_neg Bool.false_ne_true, Int.add_zero]
        dsimp only at z
        omega)
      rw [Int.natCast_add, Int.natCast_one] at g
      exact g
    by_cases q1 : mm_bt (S.A (a + 3) i) s = true
    · rw [if_pos q1]
      by_cases q2 : (i : Int) = inw
      · rw [if_pos q2]
        exact skip (by unfold pp_k2; rw [decide_eq_true q2, Bool.not_true, Bool.and_false])
      · rw [if_neg q2]
        have hq : pp_k2 (pp_Wf (S.I a 10) (S.A (a + 3))) s inw i = true := pp_k2_t.mpr ⟨eW.trans q1, q2⟩
        have r := hR i hq
        obtain ⟨m, f', g', o6', o7', o8', r1, r2, r3⟩ := l_wc3 (E := E) (d := d) (B := B) (S := S) (c := c) (a := a) (s := s) (L := L) (b := ((i : Int) + 1) * 72057594037927936) (k := i) (x3 := x3) (x4 := x4) (own := fun t => min 5316911983139663491615228241121378304 (bb_ow (S.A (a + 1)) s t + pp_sm (fun k => if pp_k2 (pp_Wf (S.I a 10) (S.A (a + 3))) s inw k = true then cc k t else 0) i)) (cc := cc i) (f0 := f) (g0 := g) hd ha (by omega) h1 (by omega) hL hL2 (by omega) hf r (L + 1).toNat n 0 f g o7 o8 (by omega) (by omega) (by omega) (fun _ _ => ⟨rfl, rfl⟩) (fun x x1 x2 => by omega)
        rw [r3]
        have g := ih (i + 1) m f' g' o6' o7' o8' (by omega) (by omega) (fun x x1 x2 => by
          have z := r2 x x1 x2
          have zc := r x x1 x2
          show _ ∧ _ ∧ _ ∧ _ ∧ _ = min 5316911983139663491615228241121378304 (_ + pp_sm _ (i + 1))
          rw [es, if_pos hq]
          have z5 : f' x * 18446744073709551616 + g' x = min 5316911983139663491615228241121378304 (min 5316911983139663491615228241121378304 (bb_ow (S.A (a + 1)) s x + pp_sm (fun k => if pp_k2 (pp_Wf (S.I a 10) (S.A (a + 3))) s inw k = true then cc k x else 0) i) + cc i x) := z.2.2.2.2
          omega)
        rw [Int.natCast_add, Int.natCast_one] at g
        exact g
    · rw [if_neg q1]
      exact skip (by unfold pp_k2; rw [eW, Bool.eq_false_iff.mpr q1, Bool.false_and])
theorem c_weighC {s inw L : Int} {cc : Int → Int → Int} (hd : 2 ≤ d) (ha : a = 3 ∨ a = 14 ∨ a = 25) (hT : pp_NT S a) (h1 : 0 ≤ s) (h2 : s < S.I a 10) (hi : S.A 56 s = inw) (hi2 : -1 ≤ inw ∧ inw < 12) (hL : S.A (a + 10) s = L) (hR : bb_RW S a cc (pp_k2 (pp_Wf (S.I a 10) (S.A (a + 3))) s inw) (fun _ => L)) :
    ∃ f' g', pp_vr f' g' L (13 * 72057594037927936) (fun t => min 5316911983139663491615228241121378304 (pp_bl (S.I a 10) (pp_Wf (S.I a 10) (S.A (a + 3))) (bb_ow (S.A (a + 1))) cc s inw t)) ∧ mm_ev E d 13 [.ref (mm_ad B 40), .ref (mm_ad B a), .int (mm_i s)] (mm_hp B S c) = mm_oV (mm_hp B ((S.sL 49 f').sL 50 g') c) := by
  have hN := hT.1.1
  obtain ⟨hl1, hl2, hl3, _⟩ := bb_lat hT h1 h2
  have t := hT.1.2.2.2.2 s h1 (by omega)
  obtain ⟨_, _, _, _, _, t5, t6⟩ := t
  obtain ⟨e, rfl⟩ : ∃ k, d = k + 1 := ⟨d - 1, by omega⟩
  obtain ⟨F, hF, h⟩ := mm_w13 E e B S c (mm_ad B a) (mm_i s)
  rw [h, mm_e13_0, c_told (by omega) ha h1 (by omega) (by omega) (by omega), mm_cI_ok, c_told (by omega) ha h1 (by omega) (by omega) (by omega), mm_cI_ok]
  obtain ⟨m, f', g', o6', o7', o8', r1, r2, r3⟩ := l_wc1 (E := E) (d := e) (B := B) (S := S) (c := c) (a := a) (s := s) (T := S.A (a + 1)) (by omega) ha h1 (by omega) hL (by omega) rfl rfl (by omega) (by omega) (L + 1).toNat (F + 99) 0 (S.L 49) (S.L 50) none none none (by omega) (by omega) (by omega) (fun x x1 x2 => by omega)
  simp only [pp_sL_id] at r3
  rw [r3]
  exact l_wc2 (by omega) ha hT h1 h2 hi hi2 hL (by omega) hR (S.I a 10).toNat 0 m f' g' o6' o7' o8' (by omega) (by omega) (fun x x1 x2 => by
    have z := r2 x x1 x2
    have ob := bb_ow_r (T := S.A (a + 1)) (s := s) (t := x) h1 (by omega) x1 (by omega)
    show _ ∧ _ ∧ _ ∧ _ ∧ _ = min 5316911983139663491615228241121378304 (_ + 0)
    omega)
end
