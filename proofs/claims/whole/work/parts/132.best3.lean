/-! SHIFTS of longs -/
theorem bb_sl64 : ∀ k, k < 64 → ((Int32.toInt64 (nI k) &&& 63).toBitVec.smod 64).toNat = k := by decide +kernel
theorem bb_jn (m : Nat) : (mm_j (m : Int)).toBitVec = BitVec.ofNat 64 m := by
  show BitVec.ofInt 64 (m : Int) = _
  exact BitVec.ofInt_natCast 64 m
theorem bb_shl {t : Int} {k : Nat} (h0 : 0 ≤ t) (hk : k < 64) : mm_j t <<< (Int32.toInt64 (mm_i (k : Int)) &&& 63) = mm_j (t * (2 ^ k : Nat)) := by
  obtain ⟨m, rfl⟩ : ∃ m : Nat, t = m := ⟨t.toNat, by omega⟩
  apply Int64.toBitVec_inj.mp
  rw [Int64.toBitVec_shiftLeft, mm_i_cast, BitVec.shiftLeft_eq']
  show (mm_j (m : Int)).toBitVec <<< ((Int32.toInt64 (nI k) &&& 63).toBitVec.smod 64).toNat = _
  rw [bb_sl64 k hk, ← Int.natCast_mul, bb_jn, bb_jn]
  apply BitVec.eq_of_toNat_eq
  rw [BitVec.toNat_shiftLeft, BitVec.toNat_ofNat, BitVec.toNat_ofNat, Nat.shiftLeft_eq, Nat.mod_mul_mod]
theorem bb_shr {t : Int} {k : Nat} (h0 : 0 ≤ t) (h1 : t < 9223372036854775808) (hk : k < 64) : mm_j t >>> (Int32.toInt64 (mm_i (k : Int)) &&& 63) = mm_j (t / (2 ^ k : Nat)) := by
  have hd : 0 ≤ t / ((2 ^ k : Nat) : Int) := Int.ediv_nonneg h0 (Int.natCast_nonneg _)
  have hl : t / ((2 ^ k : Nat) : Int) ≤ t := Int.ediv_le_self _ h0
  apply Int64.toInt_inj.mp
  rw [mm_j_in (by omega) (by omega)]
  show ((mm_j t >>> (Int32.toInt64 (mm_i (k : Int)) &&& 63)).toBitVec).toInt = _
  rw [Int64.toBitVec_shiftRight, mm_i_cast]
  show ((mm_j t).toBitVec.sshiftRight ((Int32.toInt64 (nI k) &&& 63).toBitVec.smod 64).toNat).toInt = _
  rw [bb_sl64 k hk, BitVec.toInt_sshiftRight, Int.shiftRight_eq_div_pow]
  show (mm_j t).toInt / _ = _
  rw [mm_j_in (by omega) (by omega)]
theorem bb_127 {t : Int} (h0 : 0 ≤ t) (h1 : t < 9223372036854775808) : mm_j t &&& mm_j 127 = mm_j (t % 128) := by
  obtain ⟨m, rfl⟩ : ∃ m : Nat, t = m := ⟨t.toNat, by omega⟩
  apply Int64.toBitVec_inj.mp
  rw [Int64.toBitVec_and, bb_jn, show ((m : Int) % 128) = ((m % 128 : Nat) : Int) from rfl, bb_jn, show (mm_j 127) = mm_j ((127 : Nat) : Int) from rfl, bb_jn]
  apply BitVec.eq_of_toNat_eq
  rw [BitVec.toNat_and, BitVec.toNat_ofNat, BitVec.toNat_ofNat, BitVec.toNat_ofNat, Nat.mod_eq_of_lt (show m < 2 ^ 64 by omega), show 127 % 2 ^ 64 = 2 ^ 7 - 1 by rfl, Nat.and_two_pow_sub_one_eq_mod, Nat.mod_eq_of_lt (show m % 128 < 2 ^ 64 by omega)]
/-- where the time of a stage stands -/
def bb_sh (s : Int) : Int := if s < 4 then 21 - 7 * s else 49 - 7 * (s - 4)
def bb_pw (s : Int) : Int := ((2 ^ (bb_sh s).toNat : Nat) : Int)
theorem bb_sh_r {s : Int} (h0 : 0 ≤ s) (h1 : s < 12) : 0 ≤ bb_sh s ∧ bb_sh s ≤ 49 := by
  unfold bb_sh
  by_cases h : s < 4
  · rw [if_pos h]; omega
  · rw [if_neg h]; omega
theorem bb_pw_r {s : Int} (h0 : 0 ≤ s) (h1 : s < 12) : 1 ≤ bb_pw s ∧ bb_pw s ≤ 562949953421312 ∧ (s < 4 → bb_pw s ≤ 2097152) := by
  unfold bb_pw
  have r := bb_sh_r h0 h1
  have p1 : 1 ≤ 2 ^ (bb_sh s).toNat := Nat.one_le_two_pow
  have p2 : 2 ^ (bb_sh s).toNat ≤ 2 ^ 49 := Nat.pow_le_pow_right (by decide) (by omega)
  refine ⟨by omega, by omega, fun h => ?_⟩
  have e : bb_sh s ≤ 21 := by unfold bb_sh; rw [if_pos h]; omega
  have p3 : 2 ^ (bb_sh s).toNat ≤ 2 ^ 21 := Nat.pow_le_pow_right (by decide) (by omega)
  omega
section
variable {E : mm_E} {d B : Nat} {S : mm_S} {c : mm_N} {a : Nat}
theorem bb_ite_nn {p : Prop} [Decidable p] {x y : Int} (hx : 0 ≤ x) (hy : 0 ≤ y) : 0 ≤ if p then x else y := by
  by_cases h : p
  · rw [if_pos h]; exact hx
  · rw [if_neg h]; exact hy
theorem c_shiftOf {s : Int} (hd : 1 ≤ d) (h0 : 0 ≤ s) (h1 : s < 12) : mm_ev E d 7 [.int (mm_i s)] (mm_hp B S c) = mm_oI (bb_sh s) (mm_hp B S c) := by
  refine mm_v7 (by omega) (fun F e hF he => ?_)
  rw [mm_e7_0, mm_br_le (by omega) (by omega) (by omega) (by omega)]
  unfold bb_sh
  by_cases h : s < 4
  · rw [if_neg (by omega), if_pos h]
    simp only [mm_hm]
  · rw [if_pos (by omega), if_neg h]
    simp only [mm_hm]
/-- what a Net says of the waits of a stage -/
theorem bb_lat {s : Int} (hT : pp_NT S a) (h1 : 0 ≤ s) (h2 : s < S.I a 10) : (0 ≤ S.A (a + 1) (s * 7 + 2) ∧ S.A (a + 1) (s * 7 + 2) ≤ S.A (a + 10) s - S.A (a + 1) (s * 7 + 0)) ∧ (0 ≤ S.A (a + 1) (s * 7 + 0) ∧ S.A (a + 1) (s * 7 + 0) ≤ 9) ∧ (0 ≤ S.A (a + 10) s ∧ S.A (a + 10) s ≤ 117) ∧ (∀ k, pp_Wf (S.I a 10) (S.A (a + 3)) k s = true → 0 ≤ S.A (a + 10) k ∧ S.A (a + 10) k ≤ S.A (a + 10) s - S.A (a + 1) (s * 7 + 0)) := by
  have hN := hT.1.1
  have t := hT.1.2.2.2.2 s h1 (by omega)
  have q := hT.2.2.2.2.2.1 s h1 h2
  have l := hT.2.2.2.2.2.2.1 s h1 h2
  have l0 := hT.2.2.2.2.2.2.2 s h1 (by omega)
  have g := pp_gx_ge (S.A (a + 1) (s * 7 + 2)) (fun k => pp_Wf (S.I a 10) (S.A (a + 3)) k s) (S.A (a + 10)) (S.I a 10).toNat
  obtain ⟨t0, t1, t2, _⟩ := t
  refine ⟨by omega, t0, by omega, fun k hk => ?_⟩
  have r := pp_Wf_in _ _ _ _ hk
  have g2 := pp_gx_of (b := S.A (a + 1) (s * 7 + 2)) (p := fun k => pp_Wf (S.I a 10) (S.A (a + 3)) k s) (g := S.A (a + 10)) (S.I a 10).toNat k r.1 (by omega) hk
  have l1 := hT.2.2.2.2.2.2.2 k r.1 (by omega)
  omega
theorem l_ws1 {s o latest : Int} (hd : 1 ≤ d) (ho : 0 ≤ o ∧ o ≤ 9) (hl : 0 ≤ latest ∧ latest < 120) : ∀ (j n : Nat) (w : Int) (f g f2 g2 : Int → Int), 0 ≤ w → w + j = latest + 1 → 2 * j < n → pp_vr f g (w - 1) 0 (fun w => if w < o then 5316911983139663491615228241121378304 else 0) → pp_vr f2 g2 (w - 1) 0 (fun w => if w = o then 0 else 5316911983139663491615228241121378304) →
    ∃ m f' g' f2' g2', n ≤ m + 2 * j + 1 ∧ pp_vr f' g' latest 0 (fun w => if w < o then 5316911983139663491615228241121378304 else 0) ∧ pp_vr f2' g2' latest 0 (fun w => if w = o then 0 else 5316911983139663491615228241121378304) ∧ mm_r11_25 E (mm_ev E d) n (mm_ad B 40) (mm_ad B a) (mm_i s) (mm_i o) (mm_i latest) (mm_i w) (mm_hp B ((((S.sL 43 f).sL 44 g).sL 46 f2).sL 47 g2) c) = mm_r11_87 E (mm_ev E d) m (mm_ad B 40) (mm_ad B a) (mm_i s) (mm_i o) (mm_i latest) (mm_i 0) (mm_hp B ((((S.sL 43 f').sL 44 g').sL 46 f2').sL 47 g2') c) := by
  intro j
  induction j with
  | zero =>
    intro n w f g f2 g2 w0 wj hn hf hf2
    obtain ⟨n, rfl⟩ : ∃ m, n = m + 1 := ⟨n - 1, by omega⟩
    refine ⟨n, f, g, f2, g2, by omega, by rw [show latest = w - 1 by omega]; exact hf, by rw [show latest = w - 1 by omega]; exact hf2, ?_⟩
    rw [mm_e11_25, mm_br_lt (by omega) (by omega) (by omega) (by omega), if_pos (by omega)]
  | succ j ih =>
    intro n w f g f2 g2 w0 wj hn hf hf2
    obtain ⟨n, rfl⟩ : ∃ m, n = m + 2 := ⟨n - 2, by omega⟩
    have s1 : ∃ h l, (0 ≤ h ∧ h ≤ 288230376151711744 ∧ 0 ≤ l ∧ l ≤ 0 ∧ h * 18446744073709551616 + l = (if w < o then 5316911983139663491615228241121378304 else 0)) ∧ mm_r11_25 E (mm_ev E d) (n + 2) (mm_ad B 40) (mm_ad B a) (mm_i s) (mm_i o) (mm_i latest) (mm_i w) (mm_hp B ((((S.sL 43 f).sL 44 g).sL 46 f2).sL 47 g2) c) = mm_r11_55 E (mm_ev E d) (n + 1) (mm_ad B 40) (mm_ad B a) (mm_i s) (mm_i o) (mm_i latest) (mm_i w) (mm_hp B ((((S.sL 43 (mm_u f w h)).sL 44 (mm_u g w l)).sL 46 f2).sL 47 g2) c) := by
      by_cases q : w < o
      · obtain ⟨h, l, hh, he⟩ := c_put (E := E) (d := d) (B := B) (c := c) (S := ((((S.sL 43 f).sL 44 g).sL 46 f2).sL 47 g2)) (a := 42) (a1 := 43) (a2 := 44) (i := w) (h := 288230376151711744) (l := 0) hd rfl rfl (by omega) (by omega) (by omega) (by omega) (by omega) (by omega) (by omega)
        simp (disch := omega) only [pp_cm, mm_gs, mm_gL_ne] at he
        refine ⟨h, l, ⟨by omega, by omega, by omega, by omega, by rw [if_pos q]; omega⟩, ?_⟩
        rw [mm_e11_25, mm_br_lt (by omega) (by omega) (by omega) (by omega), if_neg (by omega)]
        simp (disch := omega) only [mm_ptB, mm_br_le]
        rw [if_neg (by omega), he, mm_cV_ok]
      · obtain ⟨h, l, hh, he⟩ := c_put (E := E) (d := d) (B := B) (c := c) (S := ((((S.sL 43 f).sL 44 g).sL 46 f2).sL 47 g2)) (a := 42) (a1 := 43) (a2 := 44) (i := w) (h := 0) (l := 0) hd rfl rfl (by omega) (by omega) (by omega) (by omega) (by omega) (by omega) (by omega)
        simp (disch := omega) only [pp_cm, mm_gs, mm_gL_ne] at he
        refine ⟨h, l, ⟨by omega, by omega, by omega, by omega, by rw [if_neg q]; omega⟩, ?_⟩
        rw [mm_e11_25, mm_br_lt (by omega) (by omega) (by omega) (by omega), if_neg (by omega)]
        simp (disch := omega) only [mm_ptB, mm_br_le]
        rw [if_pos (by omega), he, mm_cV_ok]
    obtain ⟨h1, l1, hh1, e1⟩ := s1
    rw [e1]
    have s2 : ∃ h l, (0 ≤ h ∧ h ≤ 288230376151711744 ∧ 0 ≤ l ∧ l ≤ 0 ∧ h * 18446744073709551616 + l = (if w = o then 0 else 5316911983139663491615228241121378304)) ∧ mm_r11_55 E (mm_ev E d) (n + 1) (mm_ad B 40) (mm_ad B a) (mm_i s) (mm_i o) (mm_i latest) (mm_i w) (mm_hp B ((((S.sL 43 (mm_u f w h1)).sL 44 (mm_u g w l1)).sL 46 f2).sL 47 g2) c) = mm_r11_25 E (mm_ev E d) n (mm_ad B 40) (mm_ad B a) (mm_i s) (mm_i o) (mm_i latest) (mm_i (w + 1)) (mm_hp B ((((S.sL 43 (mm_u f w h1)).sL 44 (mm_u g w l1)).sL 46 (mm_u f2 w h)).sL 47 (mm_u g2 w l)) c) := by
      by_cases q : w = o
      · obtain ⟨h, l, hh, he⟩ := c_put (E := E) (d := d) (B := B) (c := c) (S := ((((S.sL 43 (mm_u f w h1)).sL 44 (mm_u g w l1)).sL 46 f2).sL 47 g2)) (a := 45) (a1 := 46) (a2 := 47) (i := w) (h := 0) (l := 0) hd rfl rfl (by omega) (by omega) (by omega) (by omega) (by omega) (by omega) (by omega)
        simp (disch := omega) only [pp_cm, mm_gs, mm_gL_ne] at he
        refine ⟨h, l, ⟨by omega, by omega, by omega, by omega, by rw [if_pos q]; omega⟩, ?_⟩
        rw [mm_e11_55]
        simp (disch := omega) only [mm_ptB, mm_br_eq, mm_hm]
        rw [if_pos q, he, mm_cV_ok]
      · obtain ⟨h, l, hh, he⟩ := c_put (E := E) (d := d) (B := B) (c := c) (S := ((((S.sL 43 (mm_u f w h1)).sL 44 (mm_u g w l1)).sL 46 f2).sL 47 g2)) (a := 45) (a1 := 46) (a2 := 47) (i := w) (h := 288230376151711744) (l := 0) hd rfl rfl (by omega) (by omega) (by omega) (by omega) (by omega) (by omega) (by omega)
        simp (disch := omega) only [pp_cm, mm_gs, mm_gL_ne] at he
        refine ⟨h, l, ⟨by omega, by omega, by omega, by omega, by rw [if_neg q]; omega⟩, ?_⟩
        rw [mm_e11_55]
        simp (disch := omega) only [mm_ptB, mm_br_eq, mm_hm]
        rw [if_neg q, he, mm_cV_ok]
    obtain ⟨h2, l2, hh2, e2⟩ := s2
    rw [e2]
    obtain ⟨m, f', g', f2', g2', r1, r2, r3, r4⟩ := ih n (w + 1) _ _ _ _ (by omega) (by omega) (by omega) (by rw [show w + 1 - 1 = w by omega]; exact pp_vr_st hf hh1) (by rw [show w + 1 - 1 = w by omega]; exact pp_vr_st hf2 hh2)
    exact ⟨m, f', g', f2', g2', by omega, r2, r3, r4⟩
/-- waits: what a Net's suppliers but one cost -/
def bb_WB (S : mm_S) (a : Nat) (cc : Int → Int → Int) (s inw latest : Int) (j : Nat) (by_ ju : Int → Int) : Prop := ∀ w : Int, 0 ≤ w → w ≤ latest → (0 ≤ by_ w ∧ pp_mi 5316911983139663491615228241121378304 (pp_xb (S.A (a + 1) (s * 7 + 2)) (pp_k1 (pp_Wf (S.I a 10) (S.A (a + 3))) s inw) (S.A (a + 10)) cc j w) (by_ w)) ∧ (0 ≤ ju w ∧ pp_mi 5316911983139663491615228241121378304 (pp_xj (S.A (a + 1) (s * 7 + 2)) (pp_k1 (pp_Wf (S.I a 10) (S.A (a + 3))) s inw) (S.A (a + 10)) cc j w) (ju w))
theorem bb_am_xa {U : Int → Int} {cc : Int → Int → Int} {j w : Int} (w0 : 0 ≤ w) (hU : 0 ≤ U j) : pp_mi 5316911983139663491615228241121378304 (pp_xa U cc j w) (bb_am (cc j) (U j) w) := by
  refine pp_mi_to (pp_mr_mi 5316911983139663491615228241121378304 (cc j) (min w (U j) + 1).toNat) ?_ ?_
  · rintro _ ⟨z, z1, z2, z3, rfl⟩
    exact ⟨_, ⟨z, z1, by omega, rfl⟩, Int.le_refl _⟩
  · rintro _ ⟨i, i1, i2, i3⟩
    exact ⟨i, i1, by omega, by omega, i3⟩
theorem bb_WB_st {cc : Int → Int → Int} {s inw latest : Int} {j : Nat} {by_ ju : Int → Int} (hq : pp_k1 (pp_Wf (S.I a 10) (S.A (a + 3))) s inw j = true) (hU : 0 ≤ S.A (a + 10) j) (hc : ∀ i : Int, 0 ≤ i → i ≤ S.A (a + 10) j → 0 ≤ cc j i) (h : bb_WB S a cc s inw latest j by_ ju) : bb_WB S a cc s inw latest (j + 1) (bb_nb by_ (cc j) (S.A (a + 10) j)) (bb_nj by_ ju (cc j) (S.A (a + 10) j)) := by
  intro w w0 w1
  obtain ⟨⟨b0, hb⟩, ⟨j0, hj⟩⟩ := h w w0 w1
  have am0 := bb_am_r (cc := cc j) (last := S.A (a + 10) j) hc w
  have am := bb_am_xa (U := S.A (a + 10)) (cc := cc) (j := j) w0 hU
  refine ⟨⟨?_, pp_xb_s hq hb am b0 am0.1⟩, ⟨?_, ?_⟩⟩
  · unfold bb_nb; omega
  · unfold bb_nj
    by_cases e : w ≤ S.A (a + 10) j
    · have := hc w w0 e
      rw [if_pos e]; omega
    · rw [if_neg e]; omega
  · have g := pp_xj_s (l := if w ≤ S.A (a + 10) j then min 5316911983139663491615228241121378304 (by_ w + cc j w) else 5316911983139663491615228241121378304) hq hb hj am b0 j0 am0.1 w0 (by
      by_cases e : w ≤ S.A (a + 10) j
      · have := hc w w0 e
        rw [if_pos e]
        refine ⟨by omega, ?_, ?_⟩
        · rintro _ ⟨_, rfl⟩; omega
        · by_cases e2 : by_ w + cc j w < 5316911983139663491615228241121378304
          · exact Or.inr ⟨e, by omega⟩
          · exact Or.inl (by omega)
      · rw [if_neg e]
        refine pp_mi_no ?_
        rintro _ ⟨q, _⟩
        exact absurd q e) (fun e => hc w w0 e)
    have e : bb_nj by_ ju (cc j) (S.A (a + 10) j) w = min (min 5316911983139663491615228241121378304 (ju w + bb_am (cc j) (S.A (a + 10) j) w)) (if w ≤ S.A (a + 10) j then min 5316911983139663491615228241121378304 (by_ w + cc j w) else 5316911983139663491615228241121378304) := by
      unfold bb_nj
      by_cases e : w ≤ S.A (a + 10) j
      · rw [if_pos e, if_pos e]; omega
      · rw [if_neg e, if_neg e]; omega
    rw [e]
    exact g
/-- the rows of the neighbours outward -/
def bb_RW (S : mm_S) (a : Nat) (cc : Int → Int → Int) (q : Int → Bool) (U : Int → Int) : Prop := ∀ k : Int, q k = true → pp_vr (S.L (58 + 3 * k.toNat)) (S.L (59 + 3 * k.toNat)) (U k) 72057594037927936 (cc k)
theorem l_ws2 {s o latest inw : Int} {cc : Int → Int → Int} (hd : 2 ≤ d) (ha : a = 3 ∨ a = 14 ∨ a = 25) (hT : pp_NT S a) (h1 : 0 ≤ s) (h2 : s < S.I a 10) (hl : 0 ≤ latest ∧ latest < 120) (hi : S.A 56 s = inw) (hi2 : -1 ≤ inw ∧ inw < 12) (hR : bb_RW S a cc (pp_k1 (pp_Wf (S.I a 10) (S.A (a + 3))) s inw) (S.A (a + 10))) : ∀ (j i n : Nat) (f g f2 g2 p q by_ ju : Int → Int), (S.I a 10).toNat = i + j → 2 * j < n → pp_vr f g latest (i * 72057594037927936) by_ → pp_vr f2 g2 latest (i * 72057594037927936) ju → bb_WB S a cc s inw latest i by_ ju →
    ∃ f' g' f2' g2' p' q' by' ju', pp_vr f' g' latest (12 * 72057594037927936) by' ∧ pp_vr f2' g2' latest (12 * 72057594037927936) ju' ∧ bb_WB S a cc s inw latest (S.I a 10).toNat by' ju' ∧ mm_r11_87 E (mm_ev E d) n (mm_ad B 40) (mm_ad B a) (mm_i s) (mm_i o) (mm_i latest) (mm_i i) (mm_hp B ((((((S.sL 43 f).sL 44 g).sL 46 f2).sL 47 g2).sL 52 p).sL 53 q) c) = mm_oV (mm_hp B ((((((S.sL 43 f').sL 44 g').sL 46 f2').sL 47 g2').sL 52 p').sL 53 q') c) := by
  have hN := hT.1.1
  have hb := hT.1.2.2.1 s h1 (by omega)
  intro j
  induction j with
  | zero =>
    intro i n f g f2 g2 p q by_ ju hi hn hf hf2 hw
    obtain ⟨n, rfl⟩ : ∃ m, n = m + 1 := ⟨n - 1, by omega⟩
    refine ⟨f, g, f2, g2, p, q, by_, ju, fun x x1 x2 => ?_, fun x x1 x2 => ?_, by rw [hi]; exact hw, ?_⟩
    · have := hf x x1 x2; omega
    · have := hf2 x x1 x2; omega
    · rw [mm_e11_87]
      simp (disch := omega) only [mm_ptN, mm_gs, mm_br_le]
      rw [if_pos (by omega)]
  | succ j ih =>
    intro i n f g f2 g2 p q by_ ju hij hn hf hf2 hw
    obtain ⟨n, rfl⟩ : ∃ m, n = m + 2 := ⟨n - 2, by omega⟩
    have eW : pp_Wf (S.I a 10) (S.A (a + 3)) (i : Int) s = mm_bt (S.A (a + 3) s) i := pp_Wf_eq ⟨by omega, by omega, h1, h2⟩
    rw [mm_e11_87]
    simp (disch := omega) only [mm_ptN, mm_gs, mm_br_le]
    rw [if_neg (by omega), c_supplies (by omega) ha (by omega) (by omega) h1 (by omega) (by simp (disch := omega) only [mm_gs]; omega)]
    simp (disch := omega) only [mm_cI_ok, mm_gs, mm_br_b1, mm_ptB, hi, mm_br_eq, mm_hm]
    have skip : pp_k1 (pp_Wf (S.I a 10) (S.A (a + 3))) s inw i = false → ∃ f' g' f2' g2' p' q' by' ju', pp_vr f' g' latest (12 * 72057594037927936) by' ∧ pp_vr f2' g2' latest (12 * 72057594037927936) ju' ∧ bb_WB S a cc s inw latest (S.I a 10).toNat by' ju' ∧ mm_r11_87 E (mm_ev E d) (n + 1) (mm_ad B 40) (mm_ad B a) (mm_i s) (mm_i o) (mm_i latest) (mm_i ((i : Int) + 1)) (mm_hp B ((((((S.sL 43 f).sL 44 g).sL 46 f2).sL 47 g2).sL 52 p).sL 53 q) c) = mm_oV (mm_hp B ((((((S.sL 43 f').sL 44 g').sL 46 f2').sL 47 g2').sL 52 p').sL 53 q') c) := by
      intro hq
      have g := ih (i + 1) (n + 1) f g f2 g2 p q by_ ju (by omega) (by omega) (fun x x1 x2 => by have := hf x x1 x2; omega) (fun x x1 x2 => by have := hf2 x x1 x2; omega) (fun w w0 w1 => by
        obtain ⟨⟨b0, hb⟩, ⟨j0, hj⟩⟩ := hw w w0 w1
        exact ⟨⟨b0, pp_mi_to hb (fun y hy => ⟨y, (pp_x_n hq).1.mp hy, Int.le_refl y⟩) (fun _ hy => (pp_x_n hq).1.mpr hy)⟩, ⟨j0, pp_mi_to hj (fun y hy => ⟨y, (pp_x_n hq).2.mp hy, Int.le_refl y⟩) (fun _ hy => (pp_x_n hq).2.mpr hy)⟩⟩)
      rw [Int.natCast_add, Int.natCast_one] at g
      exact g
    by_cases q1 : mm_bt (S.A (a + 3) s) i = true
    · rw [if_pos q1]
      by_cases q2 : (i : Int) = inw
      · rw [if_pos q2]
        exact skip (by unfold pp_k1; rw [decide_eq_true q2, Bool.not_true, Bool.and_false])
      · rw [if_neg q2]
        have hq : pp_k1 (pp_Wf (S.I a 10) (S.A (a + 3))) s inw i = true := pp_k1_t.mpr ⟨eW.trans q1, q2⟩
        have r := hR i hq
        have hL := (bb_lat hT h1 h2).2.2.2 i (eW.trans q1)
        have hL2 := bb_lat hT (s := (i : Int)) (by omega) (by omega)
        have hc0 : ∀ x : Int, 0 ≤ x → x ≤ S.A (a + 10) i → 0 ≤ cc i x := fun x x1 x2 => by have := r x x1 x2; omega
        obtain ⟨f', g', f2', g2', p', q', e1, e2, e3⟩ := c_addS (E := E) (d := d) (B := B) (c := c) (S := ((((((S.sL 43 f).sL 44 g).sL 46 f2).sL 47 g2).sL 52 p).sL 53 q)) (k := i) (last := S.A (a + 10) i) (latest := latest) (b := i * 72057594037927936) (by_ := by_) (ju := ju) (cc := cc i) hd (by omega) hl (by omega) (by simp (disch := omega) only [mm_gs, mm_gL_ne]; exact hf) (by simp (disch := omega) only [mm_gs, mm_gL_ne]; exact hf2) (by simp (disch := omega) only [mm_gs, mm_gL_ne]; exact r) (by omega)
        simp (disch := omega) only [pp_cm, mm_gs, mm_gL_ne] at e3
        rw [mm_e11_117]
        simp (disch := omega) only [mm_ptB, mm_ptRR, mm_ptN, mm_gs, Int.toNat_natCast]
        rw [e3, mm_cV_ok, mm_i_add]
        have g := ih (i + 1) n f' g' f2' g2' p' q' _ _ (by omega) (by omega) (by rw [show ((i + 1 : Nat) : Int) * 72057594037927936 = (i : Int) * 72057594037927936 + 72057594037927936 by omega]; exact e1) (by rw [show ((i + 1 : Nat) : Int) * 72057594037927936 = (i : Int) * 72057594037927936 + 72057594037927936 by omega]; exact e2) (bb_WB_st hq hL.1 hc0 hw)
        rw [Int.natCast_add, Int.natCast_one] at g
        exact g
    · rw [if_neg q1]
      exact skip (by unfold pp_k1; rw [eW, Bool.eq_false_iff.mpr q1, Bool.false_and])
theorem c_weighS {s inw : Int} {cc : Int → Int → Int} (hd : 3 ≤ d) (ha : a = 3 ∨ a = 14 ∨ a = 25) (hT : pp_NT S a) (h1 : 0 ≤ s) (h2 : s < S.I a 10) (hi : S.A 56 s = inw) (hi2 : -1 ≤ inw ∧ inw < 12) (hR : bb_RW S a cc (pp_k1 (pp_Wf (S.I a 10) (S.A (a + 3))) s inw) (S.A (a + 10))) :
    ∃ f' g' f2' g2' p' q' by' ju', pp_vr f' g' (S.A (a + 10) s - S.A (a + 1) (s * 7 + 0)) (12 * 72057594037927936) by' ∧ pp_vr f2' g2' (S.A (a + 10) s - S.A (a + 1) (s * 7 + 0)) (12 * 72057594037927936) ju' ∧ bb_WB S a cc s inw (S.A (a + 10) s - S.A (a + 1) (s * 7 + 0)) (S.I a 10).toNat by' ju' ∧ mm_ev E d 11 [.ref (mm_ad B 40), .ref (mm_ad B a), .int (mm_i s)] (mm_hp B S c) = mm_oV (mm_hp B ((((((S.sL 43 f').sL 44 g').sL 46 f2').sL 47 g2').sL 52 p').sL 53 q') c) := by
  have hN := hT.1.1
  obtain ⟨hl1, hl2, hl3, _⟩ := bb_lat hT h1 h2
  have t := hT.1.2.2.2.2 s h1 (by omega)
  obtain ⟨e, rfl⟩ : ∃ k, d = k + 1 := ⟨d - 1, by omega⟩
  obtain ⟨F, hF, h⟩ := mm_w11 E e B S c (mm_ad B a) (mm_i s)
  rw [h, mm_e11_0]
  rw [c_told (by omega) ha h1 (by omega) (by omega) (by omega)]
  simp (disch := omega) only [mm_cI_ok, mm_ptN]
  rw [c_told (by omega) ha h1 (by omega) (by omega) (by omega)]
  simp (disch := omega) only [mm_cI_ok, mm_hm]
  obtain ⟨m, f', g', f2', g2', r1, r2, r3, r4⟩ := l_ws1 (E := E) (d := e) (B := B) (S := S) (c := c) (a := a) (s := s) (o := S.A (a + 1) (s * 7 + 2)) (latest := S.A (a + 10) s - S.A (a + 1) (s * 7 + 0)) (by omega) ⟨hl1.1, t.2.2.1.2⟩ (by omega) (S.A (a + 10) s - S.A (a + 1) (s * 7 + 0) + 1).toNat (F + 99) 0 (S.L 43) (S.L 44) (S.L 46) (S.L 47) (by omega) (by omega) (by omega) (fun i i1 i2 => by omega) (fun i i1 i2 => by omega)
  simp only [pp_sL_id] at r4
  rw [r4]
  have g := l_ws2 (E := E) (d := e) (B := B) (S := S) (c := c) (a := a) (s := s) (o := S.A (a + 1) (s * 7 + 2)) (latest := S.A (a + 10) s - S.A (a + 1) (s * 7 + 0)) (inw := inw) (cc := cc) (by omega) ha hT h1 h2 (by omega) hi hi2 hR (S.I a 10).toNat 0 m f' g' f2' g2' (S.L 52) (S.L 53) _ _ (by omega) (by omega) r2 r3 (fun w w0 w1 => ⟨⟨bb_ite_nn (by omega) (by omega), pp_xb_0 (by omega)⟩, ⟨bb_ite_nn (by omega) (by omega), pp_xj_0 (by omega)⟩⟩)
  have e0 : ((((((S.sL 43 f').sL 44 g').sL 46 f2').sL 47 g2').sL 52 (S.L 52)).sL 53 (S.L 53)) = ((((S.sL 43 f').sL 44 g').sL 46 f2').sL 47 g2') := by
    have z : ∀ (T : mm_S), T.sL 52 (T.L 52) = T := fun T => pp_sL_id T 52
    have z3 : ∀ (T : mm_S), T.sL 53 (T.L 53) = T := fun T => pp_sL_id T 53
    rw [show S.L 52 = (((((S.sL 43 f').sL 44 g').sL 46 f2').sL 47 g2')).L 52 by simp (disch := omega) only [mm_gL_ne], z, show S.L 53 = (((((S.sL 43 f').sL 44 g').sL 46 f2').sL 47 g2')).L 53 by simp (disch := omega) only [mm_gL_ne], z3]
  rw [e0] at g
  exact g
end
