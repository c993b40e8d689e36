/-! A STAGE IS WEIGHED, the least of a root is added -/
/-- there is a least -/
theorem bb_mi_has {F : Int} {X : Int → Prop} (h0 : 0 ≤ F) (hx : ∀ x, X x → 0 ≤ x) : ∃ m, pp_mi F X m := by
  by_cases h : ∃ x, X x ∧ x < F
  · have key : ∀ (k : Nat) (x : Int), x.toNat ≤ k → X x → x < F → ∃ m, pp_mi F X m := by
      intro k
      induction k with
      | zero =>
        intro x hk x1 x2
        have := hx x x1
        exact ⟨x, by omega, fun y hy => by have := hx y hy; omega, Or.inr x1⟩
      | succ k ih =>
        intro x hk x1 x2
        by_cases e : ∃ y, X y ∧ y < x
        · obtain ⟨y, y1, y2⟩ := e
          have := hx y y1
          exact ih y (by omega) y1 (by omega)
        · exact ⟨x, by omega, fun y hy => by
            by_cases z : y < x
            · exact absurd ⟨y, hy, z⟩ e
            · omega, Or.inr x1⟩
    obtain ⟨x, x1, x2⟩ := h
    exact key x.toNat x (Nat.le_refl _) x1 x2
  · refine ⟨F, pp_mi_no (fun x hx => ?_)⟩
    by_cases z : x < F
    · exact absurd ⟨x, hx, z⟩ h
    · omega
section
variable {E : mm_E} {d B : Nat} {S : mm_S} {c : mm_N} {a : Nat}
theorem bb_SU_nn {s p : Int} {t : Int → Int} (hT : pp_NT S a) (h1 : 0 ≤ s) (h2 : s < (S.I a 10)) (ht : pp_FE (S.I a 10) 5316911983139663491615228241121378304 (pp_Wf (S.I a 10) (S.A (a + 3))) (S.A (a + 10)) (fun u => S.A (a + 1) (u * 7 + 2)) (fun u => S.A (a + 1) (u * 7 + 0)) (bb_ow (S.A (a + 1))) s p t) : 0 ≤ pp_SU (S.I a 10) (pp_Wf (S.I a 10) (S.A (a + 3))) (fun u => S.A (a + 1) (u * 7 + 2)) (fun u => S.A (a + 1) (u * 7 + 0)) (bb_ow (S.A (a + 1))) (bb_pr S a) s p t := by
  have hN := hT.1.1
  apply pp_sm_nn
  intro u u1 u2
  show 0 ≤ if pp_sb (pp_Wf (S.I a 10) (S.A (a + 3))) s p u = true then _ else (0 : Int)
  by_cases q : pp_sb (pp_Wf (S.I a 10) (S.A (a + 3))) s p u = true
  · rw [if_pos q]
    have f := ht u (pp_sb_t.mp q)
    have l := (bb_lat hT u1 (by omega)).2.2.1
    have o := (bb_ow_r (T := S.A (a + 1)) (s := u) (t := t u) u1 (by omega) f.1 (by have := f.2.1; omega)).1
    have pr := bb_pr_nn hT u1 (by omega) (pp_pw (S.I a 10) (pp_Wf (S.I a 10) (S.A (a + 3))) (fun u => S.A (a + 1) (u * 7 + 2)) t u + S.A (a + 1) (u * 7 + 0) - t u)
    exact Int.add_nonneg o pr
  · rw [if_neg q]; exact Int.le_refl 0
theorem bb_NT_cg {T : mm_S} (hI : T.I = S.I) (hA : T.A = S.A) (h : pp_NT S a) : pp_NT T a := by
  unfold pp_NT pp_NK pp_GK at h ⊢
  rw [hI, hA]
  exact h
theorem bb_rok_mk {T : mm_S} {s p : Int} (hI : T.I = S.I) (hA : T.A = S.A) (h : ∀ x : Int, 0 ≤ x → x ≤ (if (pp_Wf (S.I a 10) (S.A (a + 3))) p s = true then (S.A (a + 10)) p else (S.A (a + 10)) s) → 0 ≤ T.L (58 + 3 * s.toNat) x ∧ T.L (58 + 3 * s.toNat) x ≤ 288230376151711744 ∧ 0 ≤ T.L (59 + 3 * s.toNat) x ∧ T.L (59 + 3 * s.toNat) x ≤ 72057594037927936 ∧ ((pp_Wf (S.I a 10) (S.A (a + 3))) p s = true → pp_mi 5316911983139663491615228241121378304 (pp_CS (S.I a 10) 5316911983139663491615228241121378304 (pp_Wf (S.I a 10) (S.A (a + 3))) (S.A (a + 10)) (fun u => S.A (a + 1) (u * 7 + 2)) (fun u => S.A (a + 1) (u * 7 + 0)) (bb_ow (S.A (a + 1))) (bb_pr S a) s p x) (bb_c T s x)) ∧ ((pp_Wf (S.I a 10) (S.A (a + 3))) p s = false → pp_mi 5316911983139663491615228241121378304 (pp_CO (S.I a 10) 5316911983139663491615228241121378304 (pp_Wf (S.I a 10) (S.A (a + 3))) (S.A (a + 10)) (fun u => S.A (a + 1) (u * 7 + 2)) (fun u => S.A (a + 1) (u * 7 + 0)) (bb_ow (S.A (a + 1))) (bb_pr S a) s p x) (bb_c T s x))) : bb_rok T a s p := by
  have e : bb_pr T a = bb_pr S a := by
    funext u z
    unfold bb_pr
    rw [hI, hA]
  unfold bb_rok
  rw [hI, hA, e]
  exact h
/-- what stands when a stage's neighbours are weighed -/
def bb_WH (S T : mm_S) (a : Nat) (s inw : Int) (by_ ju : Int → Int) : Prop := T.I = S.I ∧ T.J = S.J ∧ T.A = S.A ∧ (∀ x, 57 ≤ x → T.L x = S.L x) ∧ (∀ x, x < 43 → T.L x = S.L x) ∧ pp_vr (T.L 43) (T.L 44) ((S.A (a + 10)) s - S.A (a + 1) (s * 7 + 0)) (12 * 72057594037927936) by_ ∧ pp_vr (T.L 46) (T.L 47) ((S.A (a + 10)) s - S.A (a + 1) (s * 7 + 0)) (12 * 72057594037927936) ju ∧ pp_vr (T.L 49) (T.L 50) ((S.A (a + 10)) s) (13 * 72057594037927936) (fun t => min 5316911983139663491615228241121378304 (pp_bl (S.I a 10) (pp_Wf (S.I a 10) (S.A (a + 3))) (bb_ow (S.A (a + 1))) (bb_c S) s inw t)) ∧ (∀ i : Int, 0 ≤ i → i ≤ (S.A (a + 10)) s → 0 ≤ T.L 54 i ∧ T.L 54 i ≤ 288230376151711744 ∧ T.L 54 i * 18446744073709551616 = bb_pr S a s i) ∧ bb_WB S a (bb_c S) s inw ((S.A (a + 10)) s - S.A (a + 1) (s * 7 + 0)) ((S.I a 10)).toNat by_ ju
theorem c_weighP {e : Nat} {s inw : Int} (hd : 3 ≤ e) (ha : a = 3 ∨ a = 14 ∨ a = 25) (hT : pp_NT S a) (h1 : 0 ≤ s) (h2 : s < S.I a 10) (hi : S.A 56 s = inw) (hi2 : inw = -1 ∨ (0 ≤ inw ∧ inw < S.I a 10)) (hR : ∀ k, pp_nb (pp_Wf (S.I a 10) (S.A (a + 3))) k s → k ≠ inw → bb_rok S a k s) :
    ∃ (T : mm_S) (m : Nat) (r' x' : Int32) (by_ ju : Int → Int), bb_WH S T a s inw by_ ju ∧ mm_ev E (e + 1) 10 [.ref (mm_ad B 40), .ref (mm_ad B a), .int (mm_i s)] (mm_hp B S c) = mm_r10_63 E (mm_ev E e) (m + 3) (mm_ad B 40) (mm_ad B a) (mm_i s) r' x' (mm_hp B T c) := by
  have hN := hT.1.1
  obtain ⟨hl1, hl2, hl3, hl4⟩ := bb_lat hT h1 h2
  have tt := hT.1.2.2.2.2 s h1 (by omega)
  obtain ⟨cz, rw1, rw2⟩ := bb_cz hT h1 h2 hR
  have cost := tt.2.1
  obtain ⟨F, hF, h⟩ := mm_w10 E e B S c (mm_ad B a) (mm_i s)
  -- prices
  obtain ⟨m, r', f54, m1, p54, e54⟩ := l_prices (E := E) (d := e) (B := B) (S := S) (c := c) (a := a) (s := s) (L := S.A (a + 10) s) (by omega) ha hT h1 h2 rfl (S.A (a + 10) s + 1).toNat (F + 99) 0 0 (S.L 54) (by omega) (by omega) (by omega) (fun i i1 i2 => by omega) (by omega) (fun y y1 y2 => by omega)
  rw [pp_sL_id] at e54
  obtain ⟨m, rfl⟩ : ∃ q, m = q + 4 := ⟨m - 4, by omega⟩
  have pr : ∀ i : Int, 0 ≤ i → i ≤ S.A (a + 10) s → 0 ≤ f54 i ∧ f54 i ≤ 288230376151711744 ∧ f54 i * 18446744073709551616 = bb_pr S a s i := by
    intro i i1 i2
    have b := pp_qd_b (n := i) hT.1.2.1.1 hT.1.2.1.2 (pp_NT_wd hT h1 h2).1 (by have := (pp_NT_wd hT h1 h2).2; omega) i1 (by omega)
    have rt := (pp_rt_is b.1 b.2).2
    have rt0 := pp_rt_nn (pp_qd (S.I a 11) (S.A (a + 9) s) i)
    have c0 : 0 ≤ S.A (a + 1) (s * 7 + 1) * pp_rt (pp_qd (S.I a 11) (S.A (a + 9) s) i) := Int.mul_nonneg cost.1 rt0
    have c1 : S.A (a + 1) (s * 7 + 1) * pp_rt (pp_qd (S.I a 11) (S.A (a + 9) s) i) ≤ 999 * 44722 := Int.mul_le_mul cost.2 rt rt0 (by omega)
    have e := p54 i i1 i2
    refine ⟨by omega, by omega, ?_⟩
    unfold bb_pr
    rw [e]
  -- suppliers
  obtain ⟨f43, g44, f46, g47, p52, q53, by', ju', v1, v2, v3, e1⟩ := c_weighS (E := E) (d := e) (B := B) (c := c) (S := (S.sL 54 f54)) (a := a) (s := s) (inw := inw) (cc := bb_c S) (by omega) ha (bb_NT_cg rfl rfl hT) h1 h2 hi (by omega) (fun j hj => by simp (disch := omega) only [mm_gL_ne]; exact rw1 j hj)
  simp (disch := omega) only [pp_cm, mm_gs] at v1 v2 e1
  have v3 : bb_WB S a (bb_c S) s inw (S.A (a + 10) s - S.A (a + 1) (s * 7 + 0)) (S.I a 10).toNat by' ju' := v3
  -- customers
  obtain ⟨f49, g50, v4, e2⟩ := c_weighC (E := E) (d := e) (B := B) (c := c) (S := (((((((S.sL 43 f43).sL 44 g44).sL 46 f46).sL 47 g47).sL 52 p52).sL 53 q53).sL 54 f54)) (a := a) (s := s) (inw := inw) (L := S.A (a + 10) s) (cc := bb_c S) (by omega) ha (bb_NT_cg rfl rfl hT) h1 h2 hi (by omega) rfl (fun j hj => by simp (disch := omega) only [mm_gL_ne]; exact rw2 j hj)
  simp (disch := omega) only [pp_cm, mm_gs] at v4 e2
  refine ⟨(((((((((S.sL 43 f43).sL 44 g44).sL 46 f46).sL 47 g47).sL 49 f49).sL 50 g50).sL 52 p52).sL 53 q53).sL 54 f54), m, r', mm_i (S.A (a + 10) s + 1), by', ju', ⟨rfl, rfl, rfl, ?_, ?_, ?_, ?_, ?_, ?_, v3⟩, ?_⟩
  · intro x x1
    simp (disch := omega) only [mm_gL_ne]
  · intro x x1
    simp (disch := omega) only [mm_gL_ne]
  · simp (disch := omega) only [mm_gs, mm_gL_ne]; exact v1
  · simp (disch := omega) only [mm_gs, mm_gL_ne]; exact v2
  · simp (disch := omega) only [mm_gs, mm_gL_ne]; exact v4
  · simp (disch := omega) only [mm_gs, mm_gL_ne]; exact pr
  · rw [h, mm_e10_0]
    refine e54.trans ?_
    rw [mm_e10_5]
    simp (disch := omega) only [mm_ptN, mm_gs, mm_br_lt]
    rw [if_pos (by omega), e1, mm_cV_ok, e2, mm_cV_ok]
/-- the row is told -/
def bb_TD (S T : mm_S) (a : Nat) (s inw : Int) : Prop := T.I = S.I ∧ T.J = S.J ∧ T.A = S.A ∧ (∀ x, 57 ≤ x → x ≠ 58 + 3 * s.toNat → x ≠ 59 + 3 * s.toNat → T.L x = S.L x) ∧ (∀ x, x < 43 → T.L x = S.L x) ∧ bb_rok T a s inw
theorem c_weighQ1 {e : Nat} {T : mm_S} {s inw : Int} {by_ ju : Int → Int} (hd : 3 ≤ e) (ha : a = 3 ∨ a = 14 ∨ a = 25) (hT : pp_NT S a) (h1 : 0 ≤ s) (h2 : s < S.I a 10) (w : (pp_Wf (S.I a 10) (S.A (a + 3))) inw s = true) (hR : ∀ k, pp_nb (pp_Wf (S.I a 10) (S.A (a + 3))) k s → k ≠ inw → bb_rok S a k s) (hw : bb_WH S T a s inw by_ ju) : ∃ V : mm_S, bb_TD S V a s inw ∧ mm_ev E e 16 [.ref (mm_ad B 40), .ref (mm_ad B a), .int (mm_i s)] (mm_hp B T c) = mm_oV (mm_hp B V c) := by
  have hN := hT.1.1
  obtain ⟨hl1, hl2, hl3, hl4⟩ := bb_lat hT h1 h2
  have tt := hT.1.2.2.2.2 s h1 (by omega)
  obtain ⟨cz, _, _⟩ := bb_cz hT h1 h2 hR
  obtain ⟨eI, eJ, eA, eL, eL2, v1, v2, v4, pr, v3⟩ := hw
  have hex : ∀ x : Int, ∃ q, 0 ≤ x → x ≤ S.A (a + 10) s - S.A (a + 1) (s * 7 + 0) → 0 ≤ q ∧ pp_mi 5316911983139663491615228241121378304 (fun v => ∃ i : Int, (0 ≤ i ∧ i < x + S.A (a + 1) (s * 7 + 0) + 1) ∧ v = min 5316911983139663491615228241121378304 (pp_bl (S.I a 10) (pp_Wf (S.I a 10) (S.A (a + 3))) (bb_ow (S.A (a + 1))) (bb_c S) s inw i) + bb_pr S a s (x + S.A (a + 1) (s * 7 + 0) - i)) q := by
    intro x
    by_cases z : 0 ≤ x ∧ x ≤ S.A (a + 10) s - S.A (a + 1) (s * 7 + 0)
    · have nn : ∀ y, (∃ i : Int, (0 ≤ i ∧ i < x + S.A (a + 1) (s * 7 + 0) + 1) ∧ y = min 5316911983139663491615228241121378304 (pp_bl (S.I a 10) (pp_Wf (S.I a 10) (S.A (a + 3))) (bb_ow (S.A (a + 1))) (bb_c S) s inw i) + bb_pr S a s (x + S.A (a + 1) (s * 7 + 0) - i)) → 0 ≤ y := by
        rintro y ⟨i, hi, rfl⟩
        have := bb_bl_nn (t := i) hT h1 h2 cz hi.1 (by omega)
        have := bb_pr_nn hT h1 h2 (x + S.A (a + 1) (s * 7 + 0) - i)
        omega
      obtain ⟨q, hq⟩ := bb_mi_has (F := 5316911983139663491615228241121378304) (by omega) nn
      exact ⟨q, fun _ _ => ⟨pp_mi_nn hq (by omega) nn, hq⟩⟩
    · exact ⟨0, fun z1 z2 => absurd ⟨z1, z2⟩ z⟩
  obtain ⟨qf, hqf⟩ := Classical.axiomOfChoice hex
  have hq : ∀ x : Int, 0 ≤ x → x ≤ S.A (a + 10) s - S.A (a + 1) (s * 7 + 0) → 0 ≤ qf x ∧ pp_mi 5316911983139663491615228241121378304 (fun v => ∃ i : Int, (0 ≤ i ∧ i < x + S.A (a + 1) (s * 7 + 0) + 1) ∧ v = min 5316911983139663491615228241121378304 (pp_bl (S.I a 10) (pp_Wf (S.I a 10) (S.A (a + 3))) (bb_ow (S.A (a + 1))) (bb_c S) s inw i) + T.L 54 (x + S.A (a + 1) (s * 7 + 0) - i) * 18446744073709551616) (qf x) := by
    intro x x0 x1
    obtain ⟨q0, qm⟩ := hqf x x0 x1
    refine ⟨q0, pp_mi_to qm ?_ ?_⟩
    · rintro y ⟨i, hi, rfl⟩
      exact ⟨_, ⟨i, hi, rfl⟩, by rw [(pr (x + S.A (a + 1) (s * 7 + 0) - i) (by omega) (by omega)).2.2]; exact Int.le_refl _⟩
    · rintro _ ⟨i, hi, e⟩
      exact ⟨i, hi, by rw [(pr (x + S.A (a + 1) (s * 7 + 0) - i) (by omega) (by omega)).2.2]; exact e⟩
  obtain ⟨f', g', p', q', v5, e3⟩ := c_tellS (E := E) (d := e) (B := B) (c := c) (S := T) (a := a) (s := s) (o := S.A (a + 1) (s * 7 + 2)) (L := S.A (a + 10) s) (dy := S.A (a + 1) (s * 7 + 0)) (k := s.toNat) (by_ := by_) (ju := ju) (own := fun t => min 5316911983139663491615228241121378304 (pp_bl (S.I a 10) (pp_Wf (S.I a 10) (S.A (a + 3))) (bb_ow (S.A (a + 1))) (bb_c S) s inw t)) (qf := qf) hd ha (by omega) (by omega) (by rw [eA]) (by rw [eA]) (by rw [eA]) ⟨hl1.1, tt.2.2.1.2⟩ (by omega) hl2 hl1.2 v1 v2 v4 (fun i i1 i2 => ⟨(pr i i1 i2).1, (pr i i1 i2).2.1⟩) hq
  refine ⟨_, ?_, e3⟩
  refine ⟨eI, eJ, eA, ?_, ?_, bb_rok_mk (S := S) eI eA ?_⟩
  · intro x x1 x2 x3
    simp (disch := omega) only [mm_gL_ne]
    exact eL x x1
  · intro x x1
    simp (disch := omega) only [mm_gL_ne]
    exact eL2 x x1
  · intro x x0 x1
    rw [if_pos w] at x1
    have xl := hl4 inw w
    have r := v5 x x0 (by omega)
    have fin := bb_fin_S (own := fun t => min 5316911983139663491615228241121378304 (pp_bl (S.I a 10) (pp_Wf (S.I a 10) (S.A (a + 3))) (bb_ow (S.A (a + 1))) (bb_c S) s inw t)) hT h1 h2 w cz v3 (fun _ _ _ => rfl) (fun y y0 y1 => hqf y y0 y1) x0 (by omega)
    have r5 : f' x * 18446744073709551616 + g' x = bb_rs by_ ju qf (S.A (a + 10) s - S.A (a + 1) (s * 7 + 0)) (max (S.A (a + 1) (s * 7 + 2)) x) := r.2.2.2.2
    have lo := bb_low (X := pp_CS (S.I a 10) 5316911983139663491615228241121378304 (pp_Wf (S.I a 10) (S.A (a + 3))) (S.A (a + 10)) (fun u => S.A (a + 1) (u * 7 + 2)) (fun u => S.A (a + 1) (u * 7 + 0)) (bb_ow (S.A (a + 1))) (bb_pr S a) s inw x) hT h1 h2 (show 0 ≤ f' x ∧ f' x ≤ 288230376151711744 ∧ 0 ≤ g' x ∧ g' x ≤ 25 * 72057594037927936 by omega) (fun v hv => by obtain ⟨t, t1, _, t3⟩ := hv; exact ⟨t, t1, t3⟩) (by rw [r5]; exact fin)
    unfold bb_c
    simp (disch := omega) only [mm_gs, mm_gL_ne]
    refine ⟨r.1, r.2.1, r.2.2.1, lo, fun _ => ?_, fun z => ?_⟩
    · rw [r5]; exact fin
    · rw [w] at z; cases z
theorem c_weighQ2 {e : Nat} {T : mm_S} {s inw : Int} {by_ ju : Int → Int} (hd : 3 ≤ e) (ha : a = 3 ∨ a = 14 ∨ a = 25) (hT : pp_NT S a) (h1 : 0 ≤ s) (h2 : s < S.I a 10) (w : (pp_Wf (S.I a 10) (S.A (a + 3))) inw s = false) (hR : ∀ k, pp_nb (pp_Wf (S.I a 10) (S.A (a + 3))) k s → k ≠ inw → bb_rok S a k s) (hw : bb_WH S T a s inw by_ ju) : ∃ V : mm_S, bb_TD S V a s inw ∧ mm_ev E e 14 [.ref (mm_ad B 40), .ref (mm_ad B a), .int (mm_i s)] (mm_hp B T c) = mm_oV (mm_hp B V c) := by
  have hN := hT.1.1
  obtain ⟨hl1, hl2, hl3, hl4⟩ := bb_lat hT h1 h2
  obtain ⟨cz, _, _⟩ := bb_cz hT h1 h2 hR
  obtain ⟨eI, eJ, eA, eL, eL2, v1, v2, v4, pr, v3⟩ := hw
  have hex : ∀ x : Int, ∃ q, 0 ≤ x → x ≤ S.A (a + 10) s → 0 ≤ q ∧ pp_mi 5316911983139663491615228241121378304 (fun v => ∃ i : Int, (0 ≤ i ∧ i ≤ S.A (a + 10) s - S.A (a + 1) (s * 7 + 0) ∧ 0 ≤ i + (S.A (a + 1) (s * 7 + 0) - x)) ∧ v = ju i + bb_pr S a s (i + (S.A (a + 1) (s * 7 + 0) - x))) q := by
    intro x
    by_cases z : 0 ≤ x ∧ x ≤ S.A (a + 10) s
    · have nn : ∀ y, (∃ i : Int, (0 ≤ i ∧ i ≤ S.A (a + 10) s - S.A (a + 1) (s * 7 + 0) ∧ 0 ≤ i + (S.A (a + 1) (s * 7 + 0) - x)) ∧ y = ju i + bb_pr S a s (i + (S.A (a + 1) (s * 7 + 0) - x))) → 0 ≤ y := by
        rintro y ⟨i, hi, rfl⟩
        have := (v3 i hi.1 hi.2.1).2.1
        have := bb_pr_nn hT h1 h2 (i + (S.A (a + 1) (s * 7 + 0) - x))
        omega
      obtain ⟨q, hq⟩ := bb_mi_has (F := 5316911983139663491615228241121378304) (by omega) nn
      exact ⟨q, fun _ _ => ⟨pp_mi_nn hq (by omega) nn, hq⟩⟩
    · exact ⟨0, fun z1 z2 => absurd ⟨z1, z2⟩ z⟩
  obtain ⟨mf, hmf⟩ := Classical.axiomOfChoice hex
  have hm : ∀ x : Int, 0 ≤ x → x ≤ S.A (a + 10) s → 0 ≤ mf x ∧ pp_mi 5316911983139663491615228241121378304 (fun v => ∃ i : Int, (0 ≤ i ∧ i ≤ S.A (a + 10) s - S.A (a + 1) (s * 7 + 0) ∧ 0 ≤ i + (S.A (a + 1) (s * 7 + 0) - x)) ∧ v = ju i + T.L 54 (i + (S.A (a + 1) (s * 7 + 0) - x)) * 18446744073709551616) (mf x) := by
    intro x x0 x1
    obtain ⟨q0, qm⟩ := hmf x x0 x1
    refine ⟨q0, pp_mi_to qm ?_ ?_⟩
    · rintro y ⟨i, hi, rfl⟩
      exact ⟨_, ⟨i, hi, rfl⟩, by rw [(pr (i + (S.A (a + 1) (s * 7 + 0) - x)) (by omega) (by omega)).2.2]; exact Int.le_refl _⟩
    · rintro _ ⟨i, hi, e⟩
      exact ⟨i, hi, by rw [(pr (i + (S.A (a + 1) (s * 7 + 0) - x)) (by omega) (by omega)).2.2]; exact e⟩
  obtain ⟨f', g', p', q', v5, e3⟩ := c_tellT (E := E) (d := e) (B := B) (c := c) (S := T) (a := a) (s := s) (L := S.A (a + 10) s) (dy := S.A (a + 1) (s * 7 + 0)) (k := s.toNat) (ju := ju) (own := fun t => min 5316911983139663491615228241121378304 (pp_bl (S.I a 10) (pp_Wf (S.I a 10) (S.A (a + 3))) (bb_ow (S.A (a + 1))) (bb_c S) s inw t)) (mf := mf) hd ha (by omega) (by omega) (by rw [eA]) (by rw [eA]) (by omega) (by omega) v2 v4 (fun i i1 i2 => ⟨(pr i i1 i2).1, (pr i i1 i2).2.1⟩) hm
  refine ⟨_, ?_, e3⟩
  refine ⟨eI, eJ, eA, ?_, ?_, bb_rok_mk (S := S) eI eA ?_⟩
  · intro x x1 x2 x3
    simp (disch := omega) only [mm_gL_ne]
    exact eL x x1
  · intro x x1
    simp (disch := omega) only [mm_gL_ne]
    exact eL2 x x1
  · intro x x0 x1
    rw [if_neg (by rw [w]; exact Bool.false_ne_true)] at x1
    have r := v5 x x0 x1
    have fin := bb_fin_T (own := fun t => min 5316911983139663491615228241121378304 (pp_bl (S.I a 10) (pp_Wf (S.I a 10) (S.A (a + 3))) (bb_ow (S.A (a + 1))) (bb_c S) s inw t)) (mf := mf) hT h1 h2 w cz v3 (fun _ _ _ => rfl) x0 x1 (hmf x x0 x1).1 (hmf x x0 x1).2
    have r5 : f' x * 18446744073709551616 + g' x = min 5316911983139663491615228241121378304 (mf x + min 5316911983139663491615228241121378304 (pp_bl (S.I a 10) (pp_Wf (S.I a 10) (S.A (a + 3))) (bb_ow (S.A (a + 1))) (bb_c S) s inw x)) := r.2.2.2.2
    have lo := bb_low (X := pp_CO (S.I a 10) 5316911983139663491615228241121378304 (pp_Wf (S.I a 10) (S.A (a + 3))) (S.A (a + 10)) (fun u => S.A (a + 1) (u * 7 + 2)) (fun u => S.A (a + 1) (u * 7 + 0)) (bb_ow (S.A (a + 1))) (bb_pr S a) s inw x) hT h1 h2 (show 0 ≤ f' x ∧ f' x ≤ 288230376151711744 ∧ 0 ≤ g' x ∧ g' x ≤ 25 * 72057594037927936 by omega) (fun v hv => by obtain ⟨t, t1, _, t3⟩ := hv; exact ⟨t, t1, t3⟩) (by rw [r5]; exact fin)
    unfold bb_c
    simp (disch := omega) only [mm_gs, mm_gL_ne]
    refine ⟨r.1, r.2.1, r.2.2.1, lo, fun z => ?_, fun _ => ?_⟩
    · rw [w] at z; cases z
    · rw [r5]; exact fin
theorem c_weigh {s inw : Int} (hd : 4 ≤ d) (ha : a = 3 ∨ a = 14 ∨ a = 25) (hT : pp_NT S a) (h1 : 0 ≤ s) (h2 : s < S.I a 10) (hi : S.A 56 s = inw) (hi2 : inw = -1 ∨ (0 ≤ inw ∧ inw < S.I a 10)) (hR : ∀ k, pp_nb (pp_Wf (S.I a 10) (S.A (a + 3))) k s → k ≠ inw → bb_rok S a k s) :
    ∃ V : mm_S, bb_TD S V a s inw ∧ mm_ev E d 10 [.ref (mm_ad B 40), .ref (mm_ad B a), .int (mm_i s)] (mm_hp B S c) = mm_oV (mm_hp B V c) := by
  have hN := hT.1.1
  have hb := hT.1.2.2.1 s h1 (by omega)
  obtain ⟨e, rfl⟩ : ∃ k, d = k + 1 := ⟨d - 1, by omega⟩
  obtain ⟨T, m, r', x', by_, ju, hw, h⟩ := c_weighP (E := E) (B := B) (c := c) (e := e) (by omega) ha hT h1 h2 hi hi2 hR
  have eA := hw.2.2.1
  have hi' : T.A 56 s = inw := by rw [eA]; exact hi
  by_cases w : (pp_Wf (S.I a 10) (S.A (a + 3))) inw s = true
  · obtain ⟨V, v1, v2⟩ := c_weighQ1 (E := E) (B := B) (c := c) (e := e) (by omega) ha hT h1 h2 w hR hw
    refine ⟨V, v1, ?_⟩
    have ri := pp_Wf_in _ _ _ _ w
    have eW : mm_bt (T.A (a + 3) s) inw = true := by rw [eA]; exact (pp_Wf_eq ri).symm.trans w
    rw [h, mm_e10_63]
    simp (disch := omega) only [mm_ptB, hi', mm_br_eq]
    rw [if_neg (by omega), mm_e10_73]
    simp (disch := omega) only [mm_ptB, hi']
    rw [c_supplies (by omega) ha ri.1 (by omega) (by omega) (by omega) (by rw [eA]; exact hb.1)]
    simp (disch := omega) only [mm_cI_ok, mm_br_b1]
    rw [if_pos eW, v2, mm_cV_ok]
  · have w : (pp_Wf (S.I a 10) (S.A (a + 3))) inw s = false := Bool.eq_false_iff.mpr w
    obtain ⟨V, v1, v2⟩ := c_weighQ2 (E := E) (B := B) (c := c) (e := e) (by omega) ha hT h1 h2 w hR hw
    refine ⟨V, v1, ?_⟩
    rw [h, mm_e10_63]
    simp (disch := omega) only [mm_ptB, hi', mm_br_eq]
    by_cases q1 : inw = -1
    · rw [if_pos q1, mm_e10_96, v2, mm_cV_ok]
    · rw [if_neg q1, mm_e10_73]
      simp (disch := omega) only [mm_ptB, hi']
      have eW : ¬ (mm_bt (T.A (a + 3) s) inw = true) := fun z => by
        rw [pp_Wf_eq ⟨by omega, by omega, h1, h2⟩] at w
        rw [eA, w] at z; cases z
      rw [c_supplies (by omega) ha (by omega) (by omega) (by omega) (by omega) (by rw [eA]; exact hb.1)]
      simp (disch := omega) only [mm_cI_ok, mm_br_b1]
      rw [if_neg eW, mm_e10_96, v2, mm_cV_ok]
end
