/-! WHAT A STAGE TELLS INWARD -/
section
variable {E : mm_E} {d B : Nat} {S : mm_S} {c : mm_N} {a : Nat}
theorem bb_sL2 (S : mm_S) (x y : Nat) (h : x ≠ y) : (S.sL x (S.L x)).sL y (S.L y) = S := by
  rw [pp_sL_id, pp_sL_id]
theorem l_tellT {s L dy : Int} {k : Nat} {ju own mf : Int → Int} (hd : 2 ≤ d) (ha : a = 3 ∨ a = 14 ∨ a = 25) (hk : k < 12) (hs : s = k) (hL : S.A (a + 10) s = L) (hL2 : 0 ≤ L ∧ L ≤ 117) (hdy : 0 ≤ dy ∧ dy ≤ 9 ∧ dy ≤ L) (hj : pp_vr (S.L 46) (S.L 47) (L - dy) (12 * 72057594037927936) ju) (ho : pp_vr (S.L 49) (S.L 50) L (13 * 72057594037927936) own) (hp : ∀ i : Int, 0 ≤ i → i ≤ L → 0 ≤ S.L 54 i ∧ S.L 54 i ≤ 288230376151711744) (hm : ∀ t : Int, 0 ≤ t → t ≤ L → 0 ≤ mf t ∧ pp_mi 5316911983139663491615228241121378304 (fun v => ∃ i : Int, (0 ≤ i ∧ i ≤ L - dy ∧ 0 ≤ i + (dy - t)) ∧ v = ju i + S.L 54 (i + (dy - t)) * 18446744073709551616) (mf t)) : ∀ (j n : Nat) (t : Int) (f g p q : Int → Int), 0 ≤ t → t + j = L + 1 → 2 * j < n → pp_vr f g (t - 1) (25 * 72057594037927936) (fun t => min 5316911983139663491615228241121378304 (mf t + own t)) →
    ∃ f' g' p' q', pp_vr f' g' L (25 * 72057594037927936) (fun t => min 5316911983139663491615228241121378304 (mf t + own t)) ∧ mm_r14_29 E (mm_ev E d) n (mm_ad B 40) (mm_ad B a) (mm_i s) (mm_ad B (57 + 3 * k)) (mm_i dy) (mm_i (L - dy)) (mm_i t) (mm_hp B ((((S.sL 52 p).sL 53 q).sL (58 + 3 * k) f).sL (59 + 3 * k) g) c) = mm_oV (mm_hp B ((((S.sL 52 p').sL 53 q').sL (58 + 3 * k) f').sL (59 + 3 * k) g') c) := by
  intro j
  induction j with
  | zero =>
    intro n t f g p q t0 tj hn hf
    obtain ⟨n, rfl⟩ : ∃ m, n = m + 1 := ⟨n - 1, by omega⟩
    refine ⟨f, g, p, q, by rw [show L = t - 1 by omega]; exact hf, ?_⟩
    rw [mm_e14_29]
    simp (disch := omega) only [mm_ptN, mm_gs, hL, mm_br_lt]
    rw [if_pos (by omega)]
  | succ j ih =>
    intro n t f g p q t0 tj hn hf
    obtain ⟨n, rfl⟩ : ∃ m, n = m + 2 := ⟨n - 2, by omega⟩
    have ro := ho t t0 (by omega)
    obtain ⟨m0, hmt⟩ := hm t t0 (by omega)
    obtain ⟨h1, l1, hh1, he1⟩ := c_put (E := E) (d := d) (B := B) (c := c) (S := ((((S.sL 52 p).sL 53 q).sL (58 + 3 * k) f).sL (59 + 3 * k) g)) (a := 57 + 3 * k) (a1 := 58 + 3 * k) (a2 := 59 + 3 * k) (i := t) (h := 288230376151711744) (l := 0) (by omega) (by omega) (by omega) (by omega) (by omega) (by omega) (by omega) (by omega) (by omega) (by omega)
    simp (disch := omega) only [pp_cm, mm_gs, mm_gL_ne] at he1
    by_cases q1 : S.L 49 t < 288230376151711744
    · obtain ⟨h2, l2, hh2, hm2, he2⟩ := c_pickW (E := E) (d := d) (B := B) (c := c) (S := ((((S.sL 52 p).sL 53 q).sL (58 + 3 * k) (mm_u f t h1)).sL (59 + 3 * k) (mm_u g t l1))) (more := dy - t) (latest := L - dy) (b := 12 * 72057594037927936) (ju := ju) hd (by omega) (by omega) (by omega) (by omega) (by simp (disch := omega) only [mm_gs, mm_gL_ne]; exact hj) (by simp (disch := omega) only [mm_gs, mm_gL_ne]; exact fun i i1 i2 => hp i i1 (by omega)) (by omega)
      simp (disch := omega) only [pp_cm, mm_gs, mm_gL_ne] at hm2 he2
      have em := pp_mi_one hm2 hmt
      obtain ⟨h3, l3, hh3, he3⟩ := c_put (E := E) (d := d) (B := B) (c := c) (S := ((((S.sL 52 (mm_u p 0 h2)).sL 53 (mm_u q 0 l2)).sL (58 + 3 * k) (mm_u f t h1)).sL (59 + 3 * k) (mm_u g t l1))) (a := 57 + 3 * k) (a1 := 58 + 3 * k) (a2 := 59 + 3 * k) (i := t) (h := h2 + S.L 49 t) (l := l2 + S.L 50 t) (by omega) (by omega) (by omega) (by omega) (by omega) (by omega) (by omega) (by omega) (by omega) (by omega)
      simp (disch := omega) only [pp_cm, mm_gs, mm_gL_ne, mm_u_u] at he3
      have step : mm_r14_29 E (mm_ev E d) (n + 2) (mm_ad B 40) (mm_ad B a) (mm_i s) (mm_ad B (57 + 3 * k)) (mm_i dy) (mm_i (L - dy)) (mm_i t) (mm_hp B ((((S.sL 52 p).sL 53 q).sL (58 + 3 * k) f).sL (59 + 3 * k) g) c) = mm_r14_29 E (mm_ev E d) n (mm_ad B 40) (mm_ad B a) (mm_i s) (mm_ad B (57 + 3 * k)) (mm_i dy) (mm_i (L - dy)) (mm_i (t + 1)) (mm_hp B ((((S.sL 52 (mm_u p 0 h2)).sL 53 (mm_u q 0 l2)).sL (58 + 3 * k) (mm_u f t h3)).sL (59 + 3 * k) (mm_u g t l3)) c) := by
        rw [mm_e14_29]
        simp (disch := omega) only [mm_ptN, mm_gs, hL, mm_br_lt]
        rw [if_neg (by omega), he1, mm_cV_ok]
        simp (disch := omega) only [mm_ptB, pp_pq, mm_gs, mm_gL_ne, mm_j_cmp, mm_cm_ge]
        rw [if_pos q1, mm_e14_67, mm_i_sub, he2, mm_cV_ok]
        simp (disch := omega) only [mm_ptB, pp_pq, mm_gs, mm_gL_ne, mm_u_eq, mm_hm]
        rw [he3, mm_cV_ok]
      rw [step]
      exact ih n (t + 1) _ _ _ _ (by omega) (by omega) (by omega) (by
        rw [show t + 1 - 1 = t by omega]
        refine pp_vr_st hf ⟨by omega, by omega, by omega, by omega, ?_⟩
        show _ = min 5316911983139663491615228241121378304 (mf t + own t)
        omega)
    · have step : mm_r14_29 E (mm_ev E d) (n + 2) (mm_ad B 40) (mm_ad B a) (mm_i s) (mm_ad B (57 + 3 * k)) (mm_i dy) (mm_i (L - dy)) (mm_i t) (mm_hp B ((((S.sL 52 p).sL 53 q).sL (58 + 3 * k) f).sL (59 + 3 * k) g) c) = mm_r14_29 E (mm_ev E d) (n + 1) (mm_ad B 40) (mm_ad B a) (mm_i s) (mm_ad B (57 + 3 * k)) (mm_i dy) (mm_i (L - dy)) (mm_i (t + 1)) (mm_hp B ((((S.sL 52 p).sL 53 q).sL (58 + 3 * k) (mm_u f t h1)).sL (59 + 3 * k) (mm_u g t l1)) c) := by
        rw [mm_e14_29]
        simp (disch := omega) only [mm_ptN, mm_gs, hL, mm_br_lt]
        rw [if_neg (by omega), he1, mm_cV_ok]
        simp (disch := omega) only [mm_ptB, pp_pq, mm_gs, mm_gL_ne, mm_j_cmp, mm_cm_ge, mm_hm]
        rw [if_neg q1]
      rw [step]
      exact ih (n + 1) (t + 1) _ _ _ _ (by omega) (by omega) (by omega) (by
        rw [show t + 1 - 1 = t by omega]
        refine pp_vr_st hf ⟨by omega, by omega, by omega, by omega, ?_⟩
        show _ = min 5316911983139663491615228241121378304 (mf t + own t)
        omega)
theorem c_tellT {s L dy : Int} {k : Nat} {ju own mf : Int → Int} (hd : 3 ≤ d) (ha : a = 3 ∨ a = 14 ∨ a = 25) (hk : k < 12) (hs : s = k) (hL : S.A (a + 10) s = L) (hD : S.A (a + 1) (s * 7 + 0) = dy) (hL2 : 0 ≤ L ∧ L ≤ 117) (hdy : 0 ≤ dy ∧ dy ≤ 9 ∧ dy ≤ L) (hj : pp_vr (S.L 46) (S.L 47) (L - dy) (12 * 72057594037927936) ju) (ho : pp_vr (S.L 49) (S.L 50) L (13 * 72057594037927936) own) (hp : ∀ i : Int, 0 ≤ i → i ≤ L → 0 ≤ S.L 54 i ∧ S.L 54 i ≤ 288230376151711744) (hm : ∀ t : Int, 0 ≤ t → t ≤ L → 0 ≤ mf t ∧ pp_mi 5316911983139663491615228241121378304 (fun v => ∃ i : Int, (0 ≤ i ∧ i ≤ L - dy ∧ 0 ≤ i + (dy - t)) ∧ v = ju i + S.L 54 (i + (dy - t)) * 18446744073709551616) (mf t)) :
    ∃ f' g' p' q', pp_vr f' g' L (25 * 72057594037927936) (fun t => min 5316911983139663491615228241121378304 (mf t + own t)) ∧ mm_ev E d 14 [.ref (mm_ad B 40), .ref (mm_ad B a), .int (mm_i s)] (mm_hp B S c) = mm_oV (mm_hp B ((((S.sL 52 p').sL 53 q').sL (58 + 3 * k) f').sL (59 + 3 * k) g') c) := by
  obtain ⟨e, rfl⟩ : ∃ k, d = k + 1 := ⟨d - 1, by omega⟩
  obtain ⟨F, hF, h⟩ := mm_w14 E e B S c (mm_ad B a) (mm_i s)
  rw [h, mm_e14_0]
  simp (disch := omega) only [mm_ptB, mm_ptRR]
  rw [c_told (by omega) ha (by omega) (by omega) (by omega) (by omega)]
  simp (disch := omega) only [mm_cI_ok, mm_ptN, hL, hD, mm_hm]
  rw [show s.toNat = k by omega]
  have g := l_tellT (E := E) (d := e) (B := B) (S := S) (c := c) (a := a) (s := s) (L := L) (dy := dy) (k := k) (ju := ju) (own := own) (mf := mf) (by omega) ha hk hs hL hL2 hdy hj ho hp hm (L + 1).toNat (F + 99) 0 (S.L (58 + 3 * k)) (S.L (59 + 3 * k)) (S.L 52) (S.L 53) (by omega) (by omega) (by omega) (fun x x1 x2 => by omega)
  simp only [pp_sL_id] at g
  exact g
/-- the cheapest of what is later than x -/
def bb_la (ju qf : Int → Int) (latest x : Int) : Int := pp_mr 5316911983139663491615228241121378304 (fun i => ju (latest - i) + qf (latest - i)) (latest - x).toNat
theorem bb_la_st {ju qf : Int → Int} {latest x : Int} (h : x ≤ latest) : bb_la ju qf latest (x - 1) = min (bb_la ju qf latest x) (ju x + qf x) := by
  unfold bb_la
  rw [show (latest - (x - 1)).toNat = (latest - x).toNat + 1 by omega]
  show min _ (ju (latest - ((latest - x).toNat : Int)) + qf (latest - ((latest - x).toNat : Int))) = _
  rw [show latest - ((latest - x).toNat : Int) = x by omega]
theorem bb_la_r {ju qf : Int → Int} {latest : Int} (hj : ∀ w : Int, 0 ≤ w → w ≤ latest → 0 ≤ ju w) (hq : ∀ w : Int, 0 ≤ w → w ≤ latest → 0 ≤ qf w) {x : Int} (hx : -1 ≤ x) : 0 ≤ bb_la ju qf latest x ∧ bb_la ju qf latest x ≤ 5316911983139663491615228241121378304 := by
  have h := pp_mr_mi 5316911983139663491615228241121378304 (fun i => ju (latest - i) + qf (latest - i)) (latest - x).toNat
  refine ⟨pp_mi_nn h (by omega) ?_, h.1⟩
  rintro y ⟨i, i1, i2, rfl⟩
  have := hj (latest - i) (by omega) (by omega)
  have := hq (latest - i) (by omega) (by omega)
  omega
theorem bb_la_mi {ju qf : Int → Int} {latest x : Int} : pp_mi 5316911983139663491615228241121378304 (fun v => ∃ w : Int, (x < w ∧ w ≤ latest) ∧ v = ju w + qf w) (bb_la ju qf latest x) := by
  refine pp_mi_to (pp_mr_mi 5316911983139663491615228241121378304 (fun i => ju (latest - i) + qf (latest - i)) (latest - x).toNat) ?_ ?_
  · rintro _ ⟨w, w1, rfl⟩
    exact ⟨_, ⟨latest - w, by omega, by omega, rfl⟩, by rw [show latest - (latest - w) = w by omega]; omega⟩
  · rintro _ ⟨i, i1, i2, e⟩
    exact ⟨latest - i, by omega, e⟩
/-- what stands in the row -/
def bb_rs (by_ ju qf : Int → Int) (latest x : Int) : Int := min (bb_la ju qf latest x) (by_ x + qf x)
theorem l_tellS {s o L dy : Int} {k : Nat} {by_ ju own qf : Int → Int} {x6 : Int32} (hd : 2 ≤ d) (hk : k < 12) (ho1 : 0 ≤ o ∧ o ≤ 9) (hL2 : 0 ≤ L ∧ L ≤ 117) (hdy : 0 ≤ dy ∧ dy ≤ 9) (hoL : o ≤ L - dy) (hb : pp_vr (S.L 43) (S.L 44) (L - dy) (12 * 72057594037927936) by_) (hj : pp_vr (S.L 46) (S.L 47) (L - dy) (12 * 72057594037927936) ju) (ho : pp_vr (S.L 49) (S.L 50) L (13 * 72057594037927936) own) (hp : ∀ i : Int, 0 ≤ i → i ≤ L → 0 ≤ S.L 54 i ∧ S.L 54 i ≤ 288230376151711744) (hq : ∀ w : Int, 0 ≤ w → w ≤ L - dy → 0 ≤ qf w ∧ pp_mi 5316911983139663491615228241121378304 (fun v => ∃ i : Int, (0 ≤ i ∧ i < w + dy + 1) ∧ v = own i + S.L 54 (w + dy - i) * 18446744073709551616) (qf w)) : ∀ (j n : Nat) (w lh ll : Int) (f g p q : Int → Int), w + 1 = o + j → w ≤ L - dy → 4 * j < n → (0 ≤ lh ∧ lh ≤ 288230376151711744 ∧ 0 ≤ ll ∧ ll ≤ 25 * 72057594037927936 ∧ lh * 18446744073709551616 + ll = bb_la ju qf (L - dy) w) → (∀ i : Int, w < i → i ≤ L - dy → 0 ≤ f i ∧ f i ≤ 288230376151711744 ∧ 0 ≤ g i ∧ g i ≤ 25 * 72057594037927936 ∧ f i * 18446744073709551616 + g i = bb_rs by_ ju qf (L - dy) i) →
    ∃ m f' g' p' q' y7 y9, n ≤ m + 4 * j + 1 ∧ (∀ i : Int, o ≤ i → i ≤ L - dy → 0 ≤ f' i ∧ f' i ≤ 288230376151711744 ∧ 0 ≤ g' i ∧ g' i ≤ 25 * 72057594037927936 ∧ f' i * 18446744073709551616 + g' i = bb_rs by_ ju qf (L - dy) i) ∧ mm_r16_46 E (mm_ev E d) n (mm_ad B 40) (mm_ad B a) (mm_i s) (mm_ad B (57 + 3 * k)) (mm_i o) (mm_i dy) x6 (mm_j lh) (mm_j ll) (mm_i w) (mm_hp B ((((S.sL 52 p).sL 53 q).sL (58 + 3 * k) f).sL (59 + 3 * k) g) c) = mm_r16_209 E (mm_ev E d) m (mm_ad B 40) (mm_ad B a) (mm_i s) (mm_ad B (57 + 3 * k)) (mm_i o) (mm_i dy) x6 y7 y9 (mm_i 0) (mm_hp B ((((S.sL 52 p').sL 53 q').sL (58 + 3 * k) f').sL (59 + 3 * k) g') c) := by
  intro j
  induction j with
  | zero =>
    intro n w lh ll f g p q wj wL hn hh hf
    obtain ⟨n, rfl⟩ : ∃ m, n = m + 1 := ⟨n - 1, by omega⟩
    refine ⟨n, f, g, p, q, mm_j lh, mm_j ll, by omega, fun i i1 i2 => hf i (by omega) i2, ?_⟩
    rw [mm_e16_46, mm_br_lt (by omega) (by omega) (by omega) (by omega), if_pos (by omega)]
  | succ j ih =>
    intro n w lh ll f g p q wj wL hn hh hf
    obtain ⟨n, rfl⟩ : ∃ m, n = m + 4 := ⟨n - 4, by omega⟩
    have rb := hb w (by omega) wL
    have rj := hj w (by omega) wL
    obtain ⟨q0, hqw⟩ := hq w (by omega) wL
    have st := bb_la_st (ju := ju) (qf := qf) wL
    obtain ⟨h1, l1, hh1, hm1, he1⟩ := c_pickT (E := E) (d := d) (B := B) (c := c) (S := ((((S.sL 52 p).sL 53 q).sL (58 + 3 * k) f).sL (59 + 3 * k) g)) (tog := w + dy) (b := 13 * 72057594037927936) (own := own) hd (by omega) (by omega) (by simp (disch := omega) only [mm_gs, mm_gL_ne]; exact fun i i1 i2 => ho i i1 (by omega)) (by simp (disch := omega) only [mm_gs, mm_gL_ne]; exact fun i i1 i2 => hp i i1 (by omega))
    simp (disch := omega) only [pp_cm, mm_gs, mm_gL_ne] at hm1 he1
    have em := pp_mi_one hm1 hqw
    obtain ⟨h2, l2, hh2, he2⟩ := c_put (E := E) (d := d) (B := B) (c := c) (S := ((((S.sL 52 (mm_u p 0 h1)).sL 53 (mm_u q 0 l1)).sL (58 + 3 * k) f).sL (59 + 3 * k) g)) (a := 57 + 3 * k) (a1 := 58 + 3 * k) (a2 := 59 + 3 * k) (i := w) (h := lh) (l := ll) (by omega) (by omega) (by omega) (by omega) (by omega) (by omega) (by omega) (by omega) (by omega) (by omega)
    simp (disch := omega) only [pp_cm, mm_gs, mm_gL_ne] at he2
    obtain ⟨h3, l3, hh3, he3⟩ := c_lower (E := E) (d := d) (B := B) (c := c) (S := ((((S.sL 52 (mm_u p 0 h1)).sL 53 (mm_u q 0 l1)).sL (58 + 3 * k) (mm_u f w h2)).sL (59 + 3 * k) (mm_u g w l2))) (a := 57 + 3 * k) (a1 := 58 + 3 * k) (a2 := 59 + 3 * k) (i := w) (h := S.L 43 w + h1) (l := S.L 44 w + l1) (by omega) (by omega) (by omega) (by omega) (by omega) (by omega) (by omega) (by omega) (by omega) (by omega) (by simp (disch := omega) only [mm_gs, mm_gL_ne, mm_u_eq]; omega) (by simp (disch := omega) only [mm_gs, mm_gL_ne, mm_u_eq]; omega)
    simp (disch := omega) only [pp_cm, mm_gs, mm_gL_ne, mm_u_u, mm_u_eq] at hh3 he3
    obtain ⟨h4, l4, hh4, he4⟩ := c_putP (E := E) (d := d) (B := B) (c := c) (S := ((((S.sL 52 (mm_u p 0 h1)).sL 53 (mm_u q 0 l1)).sL (58 + 3 * k) (mm_u f w h3)).sL (59 + 3 * k) (mm_u g w l3))) (h := S.L 46 w + h1) (l := S.L 47 w + l1) (by omega) (by omega) (by omega) (by omega) (by omega)
    simp (disch := omega) only [pp_cm, mm_gs, mm_gL_ne, mm_u_u] at he4
    obtain ⟨h5, l5, hh5, he5⟩ := c_lowerP (E := E) (d := d) (B := B) (c := c) (S := ((((S.sL 52 (mm_u p 0 h4)).sL 53 (mm_u q 0 l4)).sL (58 + 3 * k) (mm_u f w h3)).sL (59 + 3 * k) (mm_u g w l3))) (h := lh) (l := ll) (by omega) (by omega) (by omega) (by omega) (by omega) (by simp (disch := omega) only [mm_gs, mm_gL_ne, mm_u_eq]; omega) (by simp (disch := omega) only [mm_gs, mm_gL_ne, mm_u_eq]; omega)
    simp (disch := omega) only [pp_cm, mm_gs, mm_gL_ne, mm_u_u, mm_u_eq] at hh5 he5
    have laR := bb_la_r (ju := ju) (qf := qf) (latest := L - dy) (fun i i1 i2 => by have := hj i i1 i2; omega) (fun i i1 i2 => (hq i i1 i2).1) (x := w) (by omega)
    have step : mm_r16_46 E (mm_ev E d) (n + 4) (mm_ad B 40) (mm_ad B a) (mm_i s) (mm_ad B (57 + 3 * k)) (mm_i o) (mm_i dy) x6 (mm_j lh) (mm_j ll) (mm_i w) (mm_hp B ((((S.sL 52 p).sL 53 q).sL (58 + 3 * k) f).sL (59 + 3 * k) g) c) = mm_r16_46 E (mm_ev E d) n (mm_ad B 40) (mm_ad B a) (mm_i s) (mm_ad B (57 + 3 * k)) (mm_i o) (mm_i dy) x6 (mm_j h5) (mm_j l5) (mm_i (w - 1)) (mm_hp B ((((S.sL 52 (mm_u p 0 h5)).sL 53 (mm_u q 0 l5)).sL (58 + 3 * k) (mm_u f w h3)).sL (59 + 3 * k) (mm_u g w l3)) c) := by
      rw [mm_e16_46, mm_br_lt (by omega) (by omega) (by omega) (by omega), if_neg (by omega), mm_i_add, he1, mm_cV_ok, he2, mm_cV_ok, mm_e16_72]
      simp (disch := omega) only [mm_ptB, pp_pq, mm_gs, mm_gL_ne, mm_u_eq, mm_hm]
      rw [he3, mm_cV_ok, mm_e16_118]
      simp (disch := omega) only [mm_ptB, pp_pq, mm_gs, mm_gL_ne, mm_u_eq, mm_hm]
      rw [he4, mm_cV_ok, mm_e16_166]
      simp (disch := omega) only [mm_ptB]
      rw [he5, mm_cV_ok]
      simp (disch := omega) only [mm_ptB, pp_pq, mm_gs, mm_gL_ne, mm_u_eq, mm_hm]
      rw [show w + -1 = w - 1 by omega]
    rw [step]
    obtain ⟨m, f', g', p', q', y7, y9, r1, r2, r3⟩ := ih n (w - 1) h5 l5 (mm_u f w h3) (mm_u g w l3) _ _ (by omega) (by omega) (by omega) (by rw [st]; omega) (fun i i1 i2 => by
      by_cases e : i = w
      · subst e
        simp only [mm_u_eq]
        unfold bb_rs
        omega
      · simp only [mm_u_ne e]
        exact hf i (by omega) i2)
    exact ⟨m, f', g', p', q', y7, y9, by omega, r2, r3⟩
theorem l_tellS2 {s o L v : Int} {k : Nat} {x5 x6 : Int32} {y7 y9 : Int64} {p q : Int → Int} (hd : 1 ≤ d) (hk : k < 12) (ho1 : 0 ≤ o ∧ o ≤ 9) : ∀ (j n : Nat) (w : Int) (f g : Int → Int), 0 ≤ w → w + j = o → j < n → (0 ≤ f o ∧ f o ≤ 288230376151711744 ∧ 0 ≤ g o ∧ g o ≤ 25 * 72057594037927936 ∧ f o * 18446744073709551616 + g o = v) → (∀ i : Int, 0 ≤ i → i < w → 0 ≤ f i ∧ f i ≤ 288230376151711744 ∧ 0 ≤ g i ∧ g i ≤ 25 * 72057594037927936 ∧ f i * 18446744073709551616 + g i = v) → v ≤ 5316911983139663491615228241121378304 →
    ∃ f' g', (∀ i : Int, 0 ≤ i → i < o → 0 ≤ f' i ∧ f' i ≤ 288230376151711744 ∧ 0 ≤ g' i ∧ g' i ≤ 25 * 72057594037927936 ∧ f' i * 18446744073709551616 + g' i = v) ∧ (∀ i : Int, o ≤ i → f' i = f i ∧ g' i = g i) ∧ mm_r16_209 E (mm_ev E d) n (mm_ad B 40) (mm_ad B a) (mm_i s) (mm_ad B (57 + 3 * k)) (mm_i o) x5 x6 y7 y9 (mm_i w) (mm_hp B ((((S.sL 52 p).sL 53 q).sL (58 + 3 * k) f).sL (59 + 3 * k) g) c) = mm_oV (mm_hp B ((((S.sL 52 p).sL 53 q).sL (58 + 3 * k) f').sL (59 + 3 * k) g') c) := by
  intro j
  induction j with
  | zero =>
    intro n w f g w0 wj hn ho hf hv
    obtain ⟨n, rfl⟩ : ∃ m, n = m + 1 := ⟨n - 1, by omega⟩
    refine ⟨f, g, fun i i1 i2 => hf i i1 (by omega), fun _ _ => ⟨rfl, rfl⟩, ?_⟩
    rw [mm_e16_209, mm_br_le (by omega) (by omega) (by omega) (by omega), if_pos (by omega)]
  | succ j ih =>
    intro n w f g w0 wj hn ho hf hv
    obtain ⟨n, rfl⟩ : ∃ m, n = m + 1 := ⟨n - 1, by omega⟩
    obtain ⟨h2, l2, hh2, he2⟩ := c_put (E := E) (d := d) (B := B) (c := c) (S := ((((S.sL 52 p).sL 53 q).sL (58 + 3 * k) f).sL (59 + 3 * k) g)) (a := 57 + 3 * k) (a1 := 58 + 3 * k) (a2 := 59 + 3 * k) (i := w) (h := f o) (l := g o) (by omega) (by omega) (by omega) (by omega) (by omega) (by omega) (by omega) (by omega) (by omega) (by omega)
    simp (disch := omega) only [pp_cm, mm_gs, mm_gL_ne] at he2
    rw [mm_e16_209, mm_br_le (by omega) (by omega) (by omega) (by omega), if_neg (by omega)]
    simp (disch := omega) only [pp_pq, mm_gs, mm_gL_ne]
    rw [he2, mm_cV_ok, mm_i_add]
    obtain ⟨f', g', r1, r2, r3⟩ := ih n (w + 1) (mm_u f w h2) (mm_u g w l2) (by omega) (by omega) (by omega) (by simp only [mm_u_ne (show o ≠ w by omega)]; exact ho) (fun i i1 i2 => by
      by_cases e : i = w
      · subst e
        simp only [mm_u_eq]
        omega
      · simp only [mm_u_ne e]
        exact hf i i1 (by omega)) hv
    refine ⟨f', g', r1, fun i hi => ?_, r3⟩
    have := r2 i hi
    simp only [mm_u_ne (show i ≠ w by omega)] at this
    exact this
theorem c_tellS {s o L dy : Int} {k : Nat} {by_ ju own qf : Int → Int} (hd : 3 ≤ d) (ha : a = 3 ∨ a = 14 ∨ a = 25) (hk : k < 12) (hs : s = k) (hL : S.A (a + 10) s = L) (hD : S.A (a + 1) (s * 7 + 0) = dy) (hO : S.A (a + 1) (s * 7 + 2) = o) (ho1 : 0 ≤ o ∧ o ≤ 9) (hL2 : 0 ≤ L ∧ L ≤ 117) (hdy : 0 ≤ dy ∧ dy ≤ 9) (hoL : o ≤ L - dy) (hb : pp_vr (S.L 43) (S.L 44) (L - dy) (12 * 72057594037927936) by_) (hj : pp_vr (S.L 46) (S.L 47) (L - dy) (12 * 72057594037927936) ju) (ho : pp_vr (S.L 49) (S.L 50) L (13 * 72057594037927936) own) (hp : ∀ i : Int, 0 ≤ i → i ≤ L → 0 ≤ S.L 54 i ∧ S.L 54 i ≤ 288230376151711744) (hq : ∀ w : Int, 0 ≤ w → w ≤ L - dy → 0 ≤ qf w ∧ pp_mi 5316911983139663491615228241121378304 (fun v => ∃ i : Int, (0 ≤ i ∧ i < w + dy + 1) ∧ v = own i + S.L 54 (w + dy - i) * 18446744073709551616) (qf w)) :
    ∃ f' g' p' q', pp_vr f' g' (L - dy) (25 * 72057594037927936) (fun x => bb_rs by_ ju qf (L - dy) (max o x)) ∧ mm_ev E d 16 [.ref (mm_ad B 40), .ref (mm_ad B a), .int (mm_i s)] (mm_hp B S c) = mm_oV (mm_hp B ((((S.sL 52 p').sL 53 q').sL (58 + 3 * k) f').sL (59 + 3 * k) g') c) := by
  obtain ⟨e, rfl⟩ : ∃ k, d = k + 1 := ⟨d - 1, by omega⟩
  obtain ⟨F, hF, h⟩ := mm_w16 E e B S c (mm_ad B a) (mm_i s)
  rw [h, mm_e16_0]
  simp (disch := omega) only [mm_ptB, mm_ptRR]
  rw [c_told (by omega) ha (by omega) (by omega) (by omega) (by omega), mm_cI_ok, c_told (by omega) ha (by omega) (by omega) (by omega) (by omega), mm_cI_ok, mm_e16_23]
  simp (disch := omega) only [mm_ptN, hL, hD, hO, mm_hm]
  rw [show s.toNat = k by omega]
  obtain ⟨m, f1, g1, p1, q1, y7, y9, r1, r2, r3⟩ := l_tellS (E := E) (d := e) (B := B) (S := S) (c := c) (a := a) (s := s) (o := o) (L := L) (dy := dy) (k := k) (by_ := by_) (ju := ju) (own := own) (qf := qf) (x6 := mm_i (L - dy)) (by omega) hk ho1 hL2 hdy hoL hb hj ho hp hq (L - dy + 1 - o).toNat (F + 98) (L - dy) 288230376151711744 0 (S.L (58 + 3 * k)) (S.L (59 + 3 * k)) (S.L 52) (S.L 53) (by omega) (by omega) (by omega) (by
    have z : bb_la ju qf (L - dy) (L - dy) = 5316911983139663491615228241121378304 := by
      unfold bb_la
      rw [show (L - dy - (L - dy)).toNat = 0 by omega]
      rfl
    rw [z]
    omega) (fun i i1 i2 => by omega)
  simp only [pp_sL_id] at r3
  rw [r3]
  have laR := bb_la_r (ju := ju) (qf := qf) (latest := L - dy) (fun i i1 i2 => by have := hj i i1 i2; omega) (fun i i1 i2 => (hq i i1 i2).1) (x := o) (by omega)
  obtain ⟨f2, g2, t1, t2, t3⟩ := l_tellS2 (E := E) (d := e) (B := B) (S := S) (c := c) (a := a) (s := s) (o := o) (L := L) (v := bb_rs by_ ju qf (L - dy) o) (k := k) (x5 := mm_i dy) (x6 := mm_i (L - dy)) (y7 := y7) (y9 := y9) (p := p1) (q := q1) (by omega) hk ho1 o.toNat m 0 f1 g1 (by omega) (by omega) (by omega) (r2 o (by omega) hoL) (fun i i1 i2 => by omega) (by unfold bb_rs; omega)
  rw [t3]
  refine ⟨f2, g2, p1, q1, fun i i1 i2 => ?_, rfl⟩
  show _ ∧ _ ∧ _ ∧ _ ∧ _ = bb_rs by_ ju qf (L - dy) (max o i)
  by_cases e : i < o
  · rw [show max o i = o by omega]
    exact t1 i i1 e
  · rw [show max o i = i by omega, (t2 i (by omega)).1, (t2 i (by omega)).2]
    exact r2 i (by omega) i2
end
