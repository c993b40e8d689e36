/-! A STAGE IS WEIGHED -/
theorem pp_rt_nn (q : Int) : 0 ≤ pp_rt q := by
  unfold pp_rt
  by_cases h : ∃ x, pp_isR q x
  · rw [dif_pos h]; exact (Classical.choose_spec h).1
  · rw [dif_neg h]; exact Int.le_refl 0
noncomputable def bb_pr (S : mm_S) (a : Nat) (u z : Int) : Int := S.A (a + 1) (u * 7 + 1) * pp_rt (pp_qd (S.I a 11) (S.A (a + 9) u) z) * 268435456 * 18446744073709551616
def bb_c (S : mm_S) (k x : Int) : Int := S.L (58 + 3 * k.toNat) x * 18446744073709551616 + S.L (59 + 3 * k.toNat) x
def bb_rok (S : mm_S) (a : Nat) (s p : Int) : Prop := ∀ x : Int, 0 ≤ x → x ≤ (if (pp_Wf (S.I a 10) (S.A (a + 3))) p s = true then (S.A (a + 10)) p else (S.A (a + 10)) s) → 0 ≤ S.L (58 + 3 * s.toNat) x ∧ S.L (58 + 3 * s.toNat) x ≤ 288230376151711744 ∧ 0 ≤ S.L (59 + 3 * s.toNat) x ∧ S.L (59 + 3 * s.toNat) x ≤ 72057594037927936 ∧ ((pp_Wf (S.I a 10) (S.A (a + 3))) p s = true → pp_mi 5316911983139663491615228241121378304 (pp_CS (S.I a 10) 5316911983139663491615228241121378304 (pp_Wf (S.I a 10) (S.A (a + 3))) (S.A (a + 10)) (fun u => S.A (a + 1) (u * 7 + 2)) (fun u => S.A (a + 1) (u * 7 + 0)) (bb_ow (S.A (a + 1))) (bb_pr S a) s p x) (bb_c S s x)) ∧ ((pp_Wf (S.I a 10) (S.A (a + 3))) p s = false → pp_mi 5316911983139663491615228241121378304 (pp_CO (S.I a 10) 5316911983139663491615228241121378304 (pp_Wf (S.I a 10) (S.A (a + 3))) (S.A (a + 10)) (fun u => S.A (a + 1) (u * 7 + 2)) (fun u => S.A (a + 1) (u * 7 + 0)) (bb_ow (S.A (a + 1))) (bb_pr S a) s p x) (bb_c S s x))
/-! what a plan costs: its price, the times of the first four, of the others -/
theorem bb_lin {g p t1 t2 : Int → Int} : ∀ (k : Nat), (∀ i : Int, 0 ≤ i → i < k → g i = (p i * 268435456 + t1 i) * 18446744073709551616 + t2 i) → pp_sm g k = (pp_sm p k * 268435456 + pp_sm t1 k) * 18446744073709551616 + pp_sm t2 k
  | 0, _ => rfl
  | k + 1, h => by
    have i1 := bb_lin k (fun i h1 h2 => h i h1 (by omega))
    have i2 := h k (by omega) (by omega)
    show pp_sm g k + g k = ((pp_sm p k + p k) * 268435456 + (pp_sm t1 k + t1 k)) * 18446744073709551616 + (pp_sm t2 k + t2 k)
    omega
theorem bb_sm_up {g : Int → Int} {k : Nat} : ∀ (j : Nat), (∀ i : Int, 0 ≤ i → i < k + j → 0 ≤ g i) → pp_sm g k ≤ pp_sm g (k + j)
  | 0, _ => Int.le_refl _
  | j + 1, h => by
    have i1 := bb_sm_up (k := k) j (fun i h1 h2 => h i h1 (by omega))
    have i2 := h ((k + j : Nat) : Int) (by omega) (by omega)
    show pp_sm g k ≤ pp_sm g (k + j) + g ((k + j : Nat) : Int)
    omega
def bb_b1 (u : Int) : Int := if u < 4 then 127 * bb_pw u else 0
def bb_b2 (u : Int) : Int := if u < 4 then 0 else 127 * bb_pw u
theorem bb_b1_12 : pp_sm bb_b1 12 = 268435455 := by decide +kernel
theorem bb_b2_12 : pp_sm bb_b2 12 = 72057594037927935 := by decide +kernel
noncomputable def bb_p0 (S : mm_S) (a : Nat) (q : Int → Bool) (t : Int → Int) (u : Int) : Int := if q u = true then S.A (a + 1) (u * 7 + 1) * pp_rt (pp_qd (S.I a 11) (S.A (a + 9) u) (pp_pw (S.I a 10) (pp_Wf (S.I a 10) (S.A (a + 3))) (fun u => S.A (a + 1) (u * 7 + 2)) t u + S.A (a + 1) (u * 7 + 0) - t u)) else 0
def bb_t1 (q : Int → Bool) (t : Int → Int) (u : Int) : Int := if q u = true then (if u < 4 then t u * bb_pw u else 0) else 0
def bb_t2 (q : Int → Bool) (t : Int → Int) (u : Int) : Int := if q u = true then (if u < 4 then 0 else t u * bb_pw u) else 0
theorem bb_dec {S : mm_S} {a : Nat} {q : Int → Bool} {t : Int → Int} (hT : pp_NT S a) (hq : ∀ u : Int, 0 ≤ u → u < (S.I a 10) → q u = true → pp_pf (S.I a 10) 5316911983139663491615228241121378304 (pp_Wf (S.I a 10) (S.A (a + 3))) (S.A (a + 10)) (fun u => S.A (a + 1) (u * 7 + 2)) (fun u => S.A (a + 1) (u * 7 + 0)) (bb_ow (S.A (a + 1))) t u) :
    pp_sm (fun u => if q u = true then pp_pv (S.I a 10) (pp_Wf (S.I a 10) (S.A (a + 3))) (fun u => S.A (a + 1) (u * 7 + 2)) (fun u => S.A (a + 1) (u * 7 + 0)) (bb_ow (S.A (a + 1))) (bb_pr S a) t u else 0) ((S.I a 10)).toNat = (pp_sm (bb_p0 S a q t) ((S.I a 10)).toNat * 268435456 + pp_sm (bb_t1 q t) ((S.I a 10)).toNat) * 18446744073709551616 + pp_sm (bb_t2 q t) ((S.I a 10)).toNat
      ∧ (0 ≤ pp_sm (bb_t1 q t) ((S.I a 10)).toNat ∧ pp_sm (bb_t1 q t) ((S.I a 10)).toNat ≤ 268435455) ∧ (0 ≤ pp_sm (bb_t2 q t) ((S.I a 10)).toNat ∧ pp_sm (bb_t2 q t) ((S.I a 10)).toNat ≤ 72057594037927935) := by
  have hN := hT.1.1
  have tr : ∀ u : Int, 0 ≤ u → u < (S.I a 10) → q u = true → 0 ≤ t u ∧ t u ≤ 127 ∧ bb_hl (S.A (a + 1)) u (t u) = true := fun u u1 u2 u3 => by
    have p := hq u u1 u2 u3
    have l := (bb_lat hT u1 u2).2.2.1
    refine ⟨p.1, by have := p.2.1; omega, ?_⟩
    have z := p.2.2.2
    by_cases e : bb_hl (S.A (a + 1)) u (t u) = true
    · exact e
    · unfold bb_ow at z
      rw [if_neg e] at z
      omega
  have pw : ∀ u : Int, 0 ≤ u → u < (S.I a 10) → q u = true → 0 ≤ t u * bb_pw u ∧ t u * bb_pw u ≤ 127 * bb_pw u := fun u u1 u2 u3 => by
    have := tr u u1 u2 u3
    have r := bb_pw_r u1 (by omega)
    exact ⟨Int.mul_nonneg (by omega) (by omega), Int.mul_le_mul_of_nonneg_right (by omega) (by omega)⟩
  have nb : ∀ i : Int, 0 ≤ i → i < 12 → 0 ≤ bb_b1 i ∧ 0 ≤ bb_b2 i := fun i i1 i2 => by
    have r := bb_pw_r i1 i2
    unfold bb_b1 bb_b2
    by_cases e : i < 4
    · rw [if_pos e, if_pos e]; omega
    · rw [if_neg e, if_neg e]; omega
  have u1 := bb_sm_up (g := bb_b1) (k := ((S.I a 10)).toNat) (12 - ((S.I a 10)).toNat) (fun i i1 i2 => (nb i i1 (by omega)).1)
  have u2 := bb_sm_up (g := bb_b2) (k := ((S.I a 10)).toNat) (12 - ((S.I a 10)).toNat) (fun i i1 i2 => (nb i i1 (by omega)).2)
  rw [show ((S.I a 10)).toNat + (12 - ((S.I a 10)).toNat) = 12 by omega] at u1 u2
  rw [bb_b1_12] at u1
  rw [bb_b2_12] at u2
  have a1 : pp_sm (bb_t1 q t) ((S.I a 10)).toNat ≤ pp_sm bb_b1 ((S.I a 10)).toNat := by
    apply pp_sm_mono
    intro i i1 i2
    have r := bb_pw_r i1 (show i < 12 by omega)
    unfold bb_t1 bb_b1
    by_cases e : q i = true
    · have := pw i i1 (by omega) e
      rw [if_pos e]
      by_cases e2 : i < 4
      · rw [if_pos e2, if_pos e2]; omega
      · rw [if_neg e2, if_neg e2]; omega
    · rw [if_neg e]
      by_cases e2 : i < 4
      · rw [if_pos e2]; omega
      · rw [if_neg e2]; omega
  have a2 : pp_sm (bb_t2 q t) ((S.I a 10)).toNat ≤ pp_sm bb_b2 ((S.I a 10)).toNat := by
    apply pp_sm_mono
    intro i i1 i2
    have r := bb_pw_r i1 (show i < 12 by omega)
    unfold bb_t2 bb_b2
    by_cases e : q i = true
    · have := pw i i1 (by omega) e
      rw [if_pos e]
      by_cases e2 : i < 4
      · rw [if_pos e2, if_pos e2]; omega
      · rw [if_neg e2, if_neg e2]; omega
    · rw [if_neg e]
      by_cases e2 : i < 4
      · rw [if_pos e2]; omega
      · rw [if_neg e2]; omega
  refine ⟨?_, ⟨?_, by omega⟩, ⟨?_, by omega⟩⟩
  · apply bb_lin
    intro u u1 u2
    show (if q u = true then pp_pv (S.I a 10) (pp_Wf (S.I a 10) (S.A (a + 3))) (fun u => S.A (a + 1) (u * 7 + 2)) (fun u => S.A (a + 1) (u * 7 + 0)) (bb_ow (S.A (a + 1))) (bb_pr S a) t u else 0) = _
    unfold bb_p0 bb_t1 bb_t2
    by_cases e : q u = true
    · rw [if_pos e, if_pos e, if_pos e, if_pos e]
      have h := (tr u u1 (by omega) e).2.2
      show bb_ow (S.A (a + 1)) u (t u) + S.A (a + 1) (u * 7 + 1) * pp_rt (pp_qd (S.I a 11) (S.A (a + 9) u) (pp_pw (S.I a 10) (pp_Wf (S.I a 10) (S.A (a + 3))) (fun u => S.A (a + 1) (u * 7 + 2)) t u + S.A (a + 1) (u * 7 + 0) - t u)) * 268435456 * 18446744073709551616 = _
      unfold bb_ow
      rw [if_pos h]
      by_cases e2 : u < 4
      · rw [if_pos e2, if_pos e2, if_pos e2]; omega
      · rw [if_neg e2, if_neg e2, if_neg e2]; omega
    · rw [if_neg e, if_neg e, if_neg e, if_neg e]; rfl
  · apply pp_sm_nn
    intro i i1 i2
    unfold bb_t1
    by_cases e : q i = true
    · have := pw i i1 (by omega) e
      rw [if_pos e]
      by_cases e2 : i < 4
      · rw [if_pos e2]; omega
      · rw [if_neg e2]; omega
    · rw [if_neg e]; omega
  · apply pp_sm_nn
    intro i i1 i2
    unfold bb_t2
    by_cases e : q i = true
    · have := pw i i1 (by omega) e
      rw [if_pos e]
      by_cases e2 : i < 4
      · rw [if_pos e2]; omega
      · rw [if_neg e2]; omega
    · rw [if_neg e]; omega
/-- the low number of a cell is small -/
theorem bb_low {S : mm_S} {a : Nat} {s p h l : Int} {X : Int → Prop} (hT : pp_NT S a) (h1 : 0 ≤ s) (h2 : s < (S.I a 10)) (hh : 0 ≤ h ∧ h ≤ 288230376151711744 ∧ 0 ≤ l ∧ l ≤ 25 * 72057594037927936) (hX : ∀ v, X v → ∃ t : Int → Int, pp_FE (S.I a 10) 5316911983139663491615228241121378304 (pp_Wf (S.I a 10) (S.A (a + 3))) (S.A (a + 10)) (fun u => S.A (a + 1) (u * 7 + 2)) (fun u => S.A (a + 1) (u * 7 + 0)) (bb_ow (S.A (a + 1))) s p t ∧ v = pp_SU (S.I a 10) (pp_Wf (S.I a 10) (S.A (a + 3))) (fun u => S.A (a + 1) (u * 7 + 2)) (fun u => S.A (a + 1) (u * 7 + 0)) (bb_ow (S.A (a + 1))) (bb_pr S a) s p t) (hm : pp_mi 5316911983139663491615228241121378304 X (h * 18446744073709551616 + l)) : l ≤ 72057594037927936 := by
  rcases hm.2.2 with e | e
  · omega
  · obtain ⟨t, t1, t2⟩ := hX _ e
    have g := bb_dec (q := pp_sb (pp_Wf (S.I a 10) (S.A (a + 3))) s p) hT (fun u u1 u2 u3 => t1 u (pp_sb_t.mp u3))
    have e2 : h * 18446744073709551616 + l = (pp_sm (bb_p0 S a (pp_sb (pp_Wf (S.I a 10) (S.A (a + 3))) s p) t) ((S.I a 10)).toNat * 268435456 + pp_sm (bb_t1 (pp_sb (pp_Wf (S.I a 10) (S.A (a + 3))) s p) t) ((S.I a 10)).toNat) * 18446744073709551616 + pp_sm (bb_t2 (pp_sb (pp_Wf (S.I a 10) (S.A (a + 3))) s p) t) ((S.I a 10)).toNat := t2.trans g.1
    omega
section
variable {E : mm_E} {d B : Nat} {S : mm_S} {c : mm_N} {a : Nat}
theorem bb_sh28 {x : Int} (h0 : 0 ≤ x) : mm_j x <<< (Int32.toInt64 (mm_i 28) &&& 63) = mm_j (x * 268435456) := bb_shl (k := 28) h0 (by omega)
theorem l_prices {s L : Int} (hd : 1 ≤ d) (ha : a = 3 ∨ a = 14 ∨ a = 25) (hT : pp_NT S a) (h1 : 0 ≤ s) (h2 : s < S.I a 10) (hL : S.A (a + 10) s = L) : ∀ (j n : Nat) (x r : Int) (f : Int → Int), 0 ≤ x → x + j = L + 1 → 2 * j < n → (∀ i : Int, 0 ≤ i → i < x → f i = S.A (a + 1) (s * 7 + 1) * pp_rt (pp_qd (S.I a 11) (S.A (a + 9) s) i) * 268435456) → (0 ≤ r ∧ r ≤ 44722) → (∀ y : Int, 0 ≤ y → y < r → 10000 * y * y < pp_qd (S.I a 11) (S.A (a + 9) s) x) →
    ∃ m r' f', n ≤ m + 2 * j ∧ (∀ i : Int, 0 ≤ i → i ≤ L → f' i = S.A (a + 1) (s * 7 + 1) * pp_rt (pp_qd (S.I a 11) (S.A (a + 9) s) i) * 268435456) ∧ mm_r10_5 E (mm_ev E d) n (mm_ad B 40) (mm_ad B a) (mm_i s) (mm_i r) (mm_i x) (mm_hp B (S.sL 54 f) c) = mm_r10_5 E (mm_ev E d) m (mm_ad B 40) (mm_ad B a) (mm_i s) r' (mm_i (L + 1)) (mm_hp B (S.sL 54 f') c) := by
  have z := hT.1.2.1
  have hn := hT.1.1
  have wd := pp_NT_wd hT h1 h2
  have la := bb_lat hT h1 h2
  have tt := (hT.1.2.2.2.2 s h1 (by omega)).2.1
  intro j
  induction j with
  | zero =>
    intro n x r f x0 xj hn hf hr hy
    exact ⟨n, mm_i r, f, by omega, fun i i1 i2 => hf i i1 (by omega), by rw [show L + 1 = x by omega]⟩
  | succ j ih =>
    intro n x r f x0 xj hn hf hr hy
    obtain ⟨n, rfl⟩ : ∃ q, n = q + 2 := ⟨n - 2, by omega⟩
    have b := pp_qd_b (n := x) z.1 z.2 wd.1 (by omega) (by omega) (by omega)
    have rt := pp_rt_is b.1 b.2
    have mo := pp_qd_mono (n := x) (m := x + 1) z.1 wd.1 (by omega)
    have rt0 := pp_rt_nn (pp_qd (S.I a 11) (S.A (a + 9) s) x)
    have cr : 0 ≤ S.A (a + 1) (s * 7 + 1) * pp_rt (pp_qd (S.I a 11) (S.A (a + 9) s) x) := Int.mul_nonneg tt.1 rt.1.1
    have step : mm_r10_5 E (mm_ev E d) (n + 2) (mm_ad B 40) (mm_ad B a) (mm_i s) (mm_i r) (mm_i x) (mm_hp B (S.sL 54 f) c) = mm_r10_5 E (mm_ev E d) n (mm_ad B 40) (mm_ad B a) (mm_i s) (mm_i (pp_rt (pp_qd (S.I a 11) (S.A (a + 9) s) x))) (mm_i (x + 1)) (mm_hp B (S.sL 54 (mm_u f x (S.A (a + 1) (s * 7 + 1) * pp_rt (pp_qd (S.I a 11) (S.A (a + 9) s) x) * 268435456))) c) := by
      rw [mm_e10_5]
      simp (disch := omega) only [mm_ptN, mm_gs, hL, mm_br_lt]
      rw [if_neg (by omega), c_rootFrom (S := (S.sL 54 f)) hd ha z h1 (by omega) (by simp only [mm_gs]; omega) (by omega) (by omega) (by simp only [mm_gs]; exact hy), mm_cI_ok, mm_e10_25]
      simp (disch := omega) only [mm_ptB, mm_gs]
      rw [c_told (by omega) ha h1 (by omega) (by omega) (by omega), mm_cI_ok]
      simp (disch := omega) only [mm_gs]
      rw [mm_i2l (by omega) (by omega), mm_i2l (by omega) (by omega), mm_j_mul, bb_sh28 cr]
      simp (disch := omega) only [mm_ptB, mm_gs, mm_hm]
    rw [step]
    obtain ⟨m, r', f', q1, q2, q3⟩ := ih n (x + 1) (pp_rt (pp_qd (S.I a 11) (S.A (a + 9) s) x)) (mm_u f x (S.A (a + 1) (s * 7 + 1) * pp_rt (pp_qd (S.I a 11) (S.A (a + 9) s) x) * 268435456)) (by omega) (by omega) (by omega) (fun i i1 i2 => by
      by_cases e : i = x
      · rw [e, mm_u_eq]
      · rw [mm_u_ne e]; exact hf i i1 (by omega)) ⟨rt.1.1, rt.2⟩ (fun y y1 y2 => by
        have := rt.1.2.2 y y1 y2
        omega)
    exact ⟨m, r', f', by omega, q2, q3⟩
end
