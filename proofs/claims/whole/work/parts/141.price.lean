/-! BEST of the class: its price, its times -/
def bb_PL (S : mm_S) (a : Nat) (t : Int → Int) : Prop := ∀ u : Int, 0 ≤ u → u < (S.I a 10) → pp_pf (S.I a 10) 5316911983139663491615228241121378304 (pp_Wf (S.I a 10) (S.A (a + 3))) (S.A (a + 10)) (fun u => S.A (a + 1) (u * 7 + 2)) (fun u => S.A (a + 1) (u * 7 + 0)) (bb_ow (S.A (a + 1))) t u
noncomputable def bb_vl (S : mm_S) (a : Nat) (t : Int → Int) : Int := pp_sm (fun u => pp_pv (S.I a 10) (pp_Wf (S.I a 10) (S.A (a + 3))) (fun u => S.A (a + 1) (u * 7 + 2)) (fun u => S.A (a + 1) (u * 7 + 0)) (bb_ow (S.A (a + 1))) (bb_pr S a) t u) ((S.I a 10)).toNat
noncomputable def bb_pc (S : mm_S) (a : Nat) (t : Int → Int) : Int := pp_sm (bb_p0 S a (fun _ => true) t) ((S.I a 10)).toNat
def bb_T1 (S : mm_S) (a : Nat) (t : Int → Int) : Int := pp_sm (bb_t1 (fun _ => true) t) ((S.I a 10)).toNat
def bb_T2 (S : mm_S) (a : Nat) (t : Int → Int) : Int := pp_sm (bb_t2 (fun _ => true) t) ((S.I a 10)).toNat
theorem bb_vl_dec {S : mm_S} {a : Nat} {t : Int → Int} (hT : pp_NT S a) (h : bb_PL S a t) : bb_vl S a t = (bb_pc S a t * 268435456 + bb_T1 S a t) * 18446744073709551616 + bb_T2 S a t ∧ (0 ≤ bb_T1 S a t ∧ bb_T1 S a t ≤ 268435455) ∧ (0 ≤ bb_T2 S a t ∧ bb_T2 S a t ≤ 72057594037927935) ∧ (0 ≤ bb_pc S a t ∧ bb_pc S a t ≤ 536127336) := by
  have hN := hT.1.1
  have g := bb_dec (q := fun _ => true) hT (fun u u1 u2 _ => h u u1 u2)
  have e : bb_vl S a t = pp_sm (fun u => if (fun _ : Int => true) u = true then pp_pv (S.I a 10) (pp_Wf (S.I a 10) (S.A (a + 3))) (fun u => S.A (a + 1) (u * 7 + 2)) (fun u => S.A (a + 1) (u * 7 + 0)) (bb_ow (S.A (a + 1))) (bb_pr S a) t u else 0) ((S.I a 10)).toNat := pp_sm_congr _ (fun u _ _ => (if_pos rfl).symm)
  have pb : ∀ u : Int, 0 ≤ u → u < (S.I a 10) → 0 ≤ bb_p0 S a (fun _ => true) t u ∧ bb_p0 S a (fun _ => true) t u ≤ 44677278 := by
    intro u u0 u1
    have f := h u u0 u1
    have la := bb_lat hT u0 u1
    have z := hT.1.2.1
    have wd := pp_NT_wd hT u0 u1
    have tt := (hT.1.2.2.2.2 u u0 (by omega)).2.1
    have wb : pp_pw (S.I a 10) (pp_Wf (S.I a 10) (S.A (a + 3))) (fun u => S.A (a + 1) (u * 7 + 2)) t u ≤ 200 := pp_gx_le _ (by show S.A (a + 1) (u * 7 + 2) ≤ 200; omega) (fun k k0 k1 hk => by
      have fk := h k k0 (by omega)
      have lk := (bb_lat hT k0 (show k < (S.I a 10) by omega)).2.2.1
      have := fk.2.1
      omega)
    have f3 : 0 ≤ pp_pw (S.I a 10) (pp_Wf (S.I a 10) (S.A (a + 3))) (fun u => S.A (a + 1) (u * 7 + 2)) t u + S.A (a + 1) (u * 7 + 0) - t u := f.2.2.1
    have f1 := f.1
    have b := pp_qd_b (n := pp_pw (S.I a 10) (pp_Wf (S.I a 10) (S.A (a + 3))) (fun u => S.A (a + 1) (u * 7 + 2)) t u + S.A (a + 1) (u * 7 + 0) - t u) z.1 z.2 wd.1 (by omega) f3 (by omega)
    have rt := (pp_rt_is b.1 b.2).2
    have rt0 := pp_rt_nn (pp_qd (S.I a 11) (S.A (a + 9) u) (pp_pw (S.I a 10) (pp_Wf (S.I a 10) (S.A (a + 3))) (fun u => S.A (a + 1) (u * 7 + 2)) t u + S.A (a + 1) (u * 7 + 0) - t u))
    have c0 := Int.mul_nonneg tt.1 rt0
    have c1 := Int.mul_le_mul tt.2 rt rt0 (show (0 : Int) ≤ 999 by omega)
    unfold bb_p0
    rw [if_pos rfl]
    exact ⟨c0, by omega⟩
  have p0 : 0 ≤ bb_pc S a t := pp_sm_nn _ (fun u u0 u1 => (pb u u0 (by omega)).1)
  have p1 : bb_pc S a t ≤ (((S.I a 10)).toNat : Int) * 44677278 := pp_sm_le _ (fun u u0 u1 => (pb u u0 (by omega)).2)
  exact ⟨e.trans g.1, g.2.1, g.2.2, p0, by omega⟩
theorem bb_up0 {n : Int} {W : pp_W} {at_ sz sn : Int} {wk iw : Int → Int} (h : bb_BI n W at_ sz sn wk iw) : ∀ (m : Nat) (i : Int), i.toNat ≤ m → 0 ≤ i → i < sz → ∃ r : Int, 0 ≤ r ∧ r ≤ i ∧ iw (wk r) = -1 ∧ pp_cn W (wk i) (wk r) := by
  obtain ⟨_, _, _, _, _, h5, _, _⟩ := h
  intro m
  induction m with
  | zero =>
    intro i hm i0 i1
    rcases h5 i i0 i1 with e | ⟨j, j0, j1, _⟩
    · exact ⟨i, i0, Int.le_refl i, e, pp_cn_rf _ _⟩
    · omega
  | succ m ih =>
    intro i hm i0 i1
    rcases h5 i i0 i1 with e | ⟨j, j0, j1, j2, j3, j4⟩
    · exact ⟨i, i0, Int.le_refl i, e, pp_cn_rf _ _⟩
    · obtain ⟨r, r0, r1, r2, r3⟩ := ih j (by omega) j0 (by omega)
      exact ⟨r, r0, by omega, r2, pp_cn_tr (pp_cn_st (pp_cn_rf _ (wk i)) j4.symm) r3⟩
theorem bb_BI_RT {n : Int} {W : pp_W} {sn : Int} {wk iw : Int → Int} (hn : n ≤ 12) (h : bb_BI n W n n sn wk iw) : (∀ u : Int, 0 ≤ u → u < n → ∃ i : Int, 0 ≤ i ∧ i < n ∧ wk i = u) ∧ pp_RT n W (fun r => decide (iw r = -1)) := by
  have up := bb_up0 h
  obtain ⟨b1, b2, b3, b4, b5, b6, b7, b8⟩ := h
  have sur : ∀ u : Int, 0 ≤ u → u < n → ∃ i : Int, 0 ≤ i ∧ i < n ∧ wk i = u := fun u u0 u1 => (b5 u u0 u1).mp (pp_cnt_all n.toNat (by omega) u u0 (by omega))
  refine ⟨sur, ?_, ?_⟩
  · intro u u0 u1
    obtain ⟨i, i0, i1, i2⟩ := sur u u0 u1
    obtain ⟨r, r0, r1, r2, r3⟩ := up i.toNat i (Nat.le_refl _) i0 i1
    have rr := b3 r r0 (by omega)
    exact ⟨wk r, decide_eq_true r2, rr.1, rr.2, by rw [← i2]; exact pp_cn_sy r3⟩
  · intro r q hr hq r0 r1 q0 q1 cn
    obtain ⟨i, i0, i1, i2⟩ := sur r r0 r1
    obtain ⟨j, j0, j1, j2⟩ := sur q q0 q1
    have er := of_decide_eq_true hr
    have eq := of_decide_eq_true hq
    by_cases e : i = j
    · rw [← i2, ← j2, e]
    · exfalso
      by_cases z : i < j
      · exact b8 j i i0 z j1 (by rw [j2]; exact eq) (by rw [i2, j2]; exact cn)
      · exact b8 i j j0 (by omega) i1 (by rw [i2]; exact er) (by rw [i2, j2]; exact pp_cn_sy cn)
/-- what is found -/
def bb_BS (S T : mm_S) (a : Nat) (v : Int) : Prop := (v = -1 ∧ ∀ t, ¬ bb_PL S a t) ∨ ∃ t, bb_PL S a t ∧ (∀ t', bb_PL S a t' → bb_vl S a t ≤ bb_vl S a t') ∧ v = bb_pc S a t ∧ T.J 40 8 = v * 268435456 + bb_T1 S a t ∧ T.J 40 9 = bb_T2 S a t
/-- what the search leaves as it was -/
def bb_FR (S T : mm_S) : Prop := T.I = S.I ∧ (∀ x, x ≠ 55 → x ≠ 56 → T.A x = S.A x) ∧ (∀ x, (x < 43 ∨ 92 < x) → T.L x = S.L x) ∧ (∀ x k, x ≠ 40 → T.J x k = S.J x k)
section
variable {E : mm_E} {d B : Nat} {S : mm_S} {c : mm_N} {a : Nat}
theorem bb_sr28 {x : Int} (h0 : 0 ≤ x) (h1 : x < 9223372036854775808) : mm_j x >>> (Int32.toInt64 (mm_i 28) &&& 63) = mm_j (x / 268435456) := bb_shr (k := 28) h0 h1 (by omega)
theorem bb_min_TO {f : Int} (hm : pp_mi 5316911983139663491615228241121378304 (pp_TO (S.I a 10) 5316911983139663491615228241121378304 (pp_Wf (S.I a 10) (S.A (a + 3))) (S.A (a + 10)) (fun u => S.A (a + 1) (u * 7 + 2)) (fun u => S.A (a + 1) (u * 7 + 0)) (bb_ow (S.A (a + 1))) (bb_pr S a)) (min 5316911983139663491615228241121378304 f)) (hf : f < 5316911983139663491615228241121378304) : ∃ t, bb_PL S a t ∧ (∀ t', bb_PL S a t' → bb_vl S a t ≤ bb_vl S a t') ∧ f = bb_vl S a t := by
  rw [show min 5316911983139663491615228241121378304 f = f by omega] at hm
  obtain ⟨m1, m2, m3⟩ := hm
  rcases m3 with m3 | ⟨t, t1, t2⟩
  · omega
  · refine ⟨t, t1, fun t' h' => ?_, t2⟩
    have t2 : f = bb_vl S a t := t2
    rw [← t2]
    exact m2 _ ⟨t', h', rfl⟩
theorem bb_no_TO {f : Int} (hT : pp_NT S a) (hm : pp_mi 5316911983139663491615228241121378304 (pp_TO (S.I a 10) 5316911983139663491615228241121378304 (pp_Wf (S.I a 10) (S.A (a + 3))) (S.A (a + 10)) (fun u => S.A (a + 1) (u * 7 + 2)) (fun u => S.A (a + 1) (u * 7 + 0)) (bb_ow (S.A (a + 1))) (bb_pr S a)) (min 5316911983139663491615228241121378304 f)) (hf : 5316911983139663491615228241121378304 ≤ f) : ∀ t, ¬ bb_PL S a t := by
  intro t ht
  rw [show min 5316911983139663491615228241121378304 f = 5316911983139663491615228241121378304 by omega] at hm
  have z := hm.2.1 (bb_vl S a t) ⟨t, ht, rfl⟩
  have g := bb_vl_dec hT ht
  omega
theorem c_leastPrice (hd : 5 ≤ d) (ha : a = 3 ∨ a = 14 ∨ a = 25) (hT : pp_NT S a) : ∃ (T : mm_S) (v : Int), bb_FR S T ∧ bb_BS S T a v ∧ mm_ev E d 5 [.ref (mm_ad B 40), .ref (mm_ad B a)] (mm_hp B S c) = mm_oI v (mm_hp B T c) := by
  have hN := hT.1.1
  obtain ⟨e, rfl⟩ : ∃ k, d = k + 1 := ⟨d - 1, by omega⟩
  obtain ⟨F, hF, h⟩ := mm_w5 E e B S c (mm_ad B a)
  obtain ⟨sn, wk, iw, hB, he⟩ := c_walk (E := E) (d := e) (B := B) (c := c) (S := ((S.sJ 40 8 0).sJ 40 9 0)) (a := a) (by omega) ha hT.1 hT.2.1
  obtain ⟨l, hl⟩ := bb_rl_ex hT
  have hTU : pp_NT ((((S.sJ 40 8 0).sJ 40 9 0).sA 55 wk).sA 56 iw) a := by
    unfold pp_NT pp_NK pp_GK
    simp (disch := omega) only [mm_gs, mm_gA_ne]
    exact hT
  have hlU : bb_rl ((((S.sJ 40 8 0).sJ 40 9 0).sA 55 wk).sA 56 iw) a l := by
    have e : bb_pr ((((S.sJ 40 8 0).sJ 40 9 0).sA 55 wk).sA 56 iw) a = bb_pr S a := by
      funext u z
      unfold bb_pr
      simp (disch := omega) only [mm_gs, mm_gA_ne]
    unfold bb_rl
    rw [e]
    simp (disch := omega) only [mm_gs, mm_gA_ne]
    exact hl
  have hBU : bb_BI (S.I a 10) (pp_Wf (S.I a 10) (S.A (a + 3))) (S.I a 10) (S.I a 10) sn wk iw := hB
  obtain ⟨m, V, o3', m1, hV, ev⟩ := l_least (E := E) (d := e) (B := B) (c := c) (S := ((((S.sJ 40 8 0).sJ 40 9 0).sA 55 wk).sA 56 iw)) (a := a) (sn := sn) (wk := wk) (iw := iw) (l := l) (by omega) ha hTU (by simp (disch := omega) only [mm_gs, mm_gA_ne]; exact hBU) (by simp (disch := omega) only [mm_gs, mm_gA_ne]) (by simp (disch := omega) only [mm_gs, mm_gA_ne]) hlU ((S.I a 10)).toNat (F + 99) ((S.I a 10) - 1) ((((S.sJ 40 8 0).sJ 40 9 0).sA 55 wk).sA 56 iw) none (by omega) (by simp (disch := omega) only [mm_gs]; omega) (by omega) (by
    refine ⟨rfl, rfl, fun _ _ => rfl, fun _ _ _ => rfl, fun m m0 m1 => ?_, ?_, ?_⟩
    · simp (disch := omega) only [mm_gs] at m1
      omega
    · simp (disch := omega) only [mm_gs, mm_gJ_ne]
      omega
    · simp (disch := omega) only [mm_gs, mm_gJ_ne]
      rw [pp_sm_zero]
      · rfl
      · intro i i0 i1
        exact if_neg (by omega))
  obtain ⟨m, rfl⟩ : ∃ q, m = q + 1 := ⟨m - 1, by omega⟩
  obtain ⟨vI, vA, vL, vJ, _, vb, vs⟩ := hV
  simp (disch := omega) only [mm_gs] at vb vs
  obtain ⟨sur, hRT⟩ := bb_BI_RT hN.2 hBU
  have b3 := hBU.2.2.1
  have b4 := hBU.2.2.2.1
  have sum : V.J 40 8 * 18446744073709551616 + V.J 40 9 = pp_sm (fun r => if (fun r => decide (iw r = -1)) r = true then l r else 0) ((S.I a 10)).toNat := by
    rw [vs, ← bb_sm_perm (g := fun r => if (fun r => decide (iw r = -1)) r = true then l r else 0) b3 b4 sur]
    apply pp_sm_congr
    intro i i0 i1
    show (if -1 < i then _ else (0 : Int)) = if decide (iw (wk i) = -1) = true then l (wk i) else 0
    rw [if_pos (by omega)]
    by_cases q : iw (wk i) = -1
    · rw [if_pos q, if_pos (decide_eq_true q)]
    · rw [if_neg q, if_neg (fun z => q (of_decide_eq_true z))]
  have mi := pp_dpR (F := 5316911983139663491615228241121378304) (U := (S.A (a + 10))) (o := (fun u => S.A (a + 1) (u * 7 + 2))) (dy := (fun u => S.A (a + 1) (u * 7 + 0))) (ow := (bb_ow (S.A (a + 1)))) (pr := (bb_pr S a)) (l := l) (pp_Wf_in _ _) hRT (fun r _ r0 r1 => hl r r0 r1)
  rw [← sum] at mi
  have fr : bb_FR S V := by
    refine ⟨vI.trans rfl, fun x x1 x2 => ?_, fun x hx => ?_, fun x k hx => ?_⟩
    · rw [vA]
      simp (disch := omega) only [mm_gs, mm_gA_ne]
    · rw [vL x hx]
      simp (disch := omega) only [mm_gs]
    · rw [vJ x k hx]
      simp (disch := omega) only [mm_gs, mm_gJ_ne]
  have go : mm_ev E (e + 1) 5 [.ref (mm_ad B 40), .ref (mm_ad B a)] (mm_hp B S c) = mm_r5_22 E (mm_ev E e) (m + 1) (mm_ad B 40) (mm_ad B a) (mm_i (-1)) o3' (mm_hp B V c) := by
    rw [h, mm_e5_0]
    simp (disch := omega) only [mm_ptB]
    rw [he, mm_cV_ok]
    simp (disch := omega) only [mm_ptN, mm_gs, mm_hm]
    exact ev
  by_cases q : V.J 40 8 < 288230376151711744
  · obtain ⟨t, t1, t2, t3⟩ := bb_min_TO mi (by omega)
    have g := bb_vl_dec hT t1
    have j8 : V.J 40 8 = bb_pc S a t * 268435456 + bb_T1 S a t := by omega
    refine ⟨V, bb_pc S a t, fr, Or.inr ⟨t, t1, t2, rfl, j8, by omega⟩, ?_⟩
    rw [go, mm_e5_22, mm_br_lt (by omega) (by omega) (by omega) (by omega), if_pos (by omega)]
    simp (disch := omega) only [mm_ptB, mm_j_cmp, mm_cm_ge]
    rw [if_pos q, bb_sr28 (by omega) (by omega), mm_l2i (by omega) (by omega), show V.J 40 8 / 268435456 = bb_pc S a t by omega]
  · refine ⟨V, -1, fr, Or.inl ⟨rfl, bb_no_TO hT mi (by omega)⟩, ?_⟩
    rw [go, mm_e5_22, mm_br_lt (by omega) (by omega) (by omega) (by omega), if_pos (by omega)]
    simp (disch := omega) only [mm_ptB, mm_j_cmp, mm_cm_ge]
    rw [if_neg q]
end
