/-! A STAGE IS WEIGHED: its row tells what its side costs -/
section
variable {E : mm_E} {d B : Nat} {S : mm_S} {c : mm_N} {a : Nat}
theorem bb_pr_nn {u : Int} (hT : pp_NT S a) (h1 : 0 ≤ u) (h2 : u < S.I a 10) (z : Int) : 0 ≤ bb_pr S a u z := by
  have hN := hT.1.1
  have t := (hT.1.2.2.2.2 u h1 (by omega)).2.1
  have := Int.mul_nonneg t.1 (pp_rt_nn (pp_qd (S.I a 11) (S.A (a + 9) u) z))
  unfold bb_pr
  omega
/-- cells of the neighbours outward -/
theorem bb_cz {s p : Int} (hT : pp_NT S a) (h1 : 0 ≤ s) (h2 : s < S.I a 10) (hR : ∀ k, pp_nb (pp_Wf (S.I a 10) (S.A (a + 3))) k s → k ≠ p → bb_rok S a k s) : pp_cz (S.I a 10) 5316911983139663491615228241121378304 (pp_Wf (S.I a 10) (S.A (a + 3))) (S.A (a + 10)) (fun u => S.A (a + 1) (u * 7 + 2)) (fun u => S.A (a + 1) (u * 7 + 0)) (bb_ow (S.A (a + 1))) (bb_pr S a) (bb_c S) s p ∧ bb_RW S a (bb_c S) (pp_k1 (pp_Wf (S.I a 10) (S.A (a + 3))) s p) (S.A (a + 10)) ∧ bb_RW S a (bb_c S) (pp_k2 (pp_Wf (S.I a 10) (S.A (a + 3))) s p) (fun _ => (S.A (a + 10)) s) := by
  have hK := hT.2.1.2.2.2
  have k1 : ∀ k, pp_k1 (pp_Wf (S.I a 10) (S.A (a + 3))) s p k = true → (pp_Wf (S.I a 10) (S.A (a + 3))) s k = false ∧ bb_rok S a k s := fun k hk => ⟨pp_no2 hK (pp_k1_t.mp hk).1, hR k (Or.inl (pp_k1_t.mp hk).1) (pp_k1_t.mp hk).2⟩
  have k2 : ∀ k, pp_k2 (pp_Wf (S.I a 10) (S.A (a + 3))) s p k = true → (pp_Wf (S.I a 10) (S.A (a + 3))) s k = true ∧ bb_rok S a k s := fun k hk => ⟨(pp_k2_t.mp hk).1, hR k (Or.inr (pp_k2_t.mp hk).1) (pp_k2_t.mp hk).2⟩
  have b1 : ∀ k, pp_k1 (pp_Wf (S.I a 10) (S.A (a + 3))) s p k = true → ∀ y, 0 ≤ y → y ≤ (S.A (a + 10)) k → 0 ≤ S.L (58 + 3 * k.toNat) y ∧ S.L (58 + 3 * k.toNat) y ≤ 288230376151711744 ∧ 0 ≤ S.L (59 + 3 * k.toNat) y ∧ S.L (59 + 3 * k.toNat) y ≤ 72057594037927936 ∧ pp_mi 5316911983139663491615228241121378304 (pp_CO (S.I a 10) 5316911983139663491615228241121378304 (pp_Wf (S.I a 10) (S.A (a + 3))) (S.A (a + 10)) (fun u => S.A (a + 1) (u * 7 + 2)) (fun u => S.A (a + 1) (u * 7 + 0)) (bb_ow (S.A (a + 1))) (bb_pr S a) k s y) (bb_c S k y) := fun k hk y y1 y2 => by
    obtain ⟨e1, e2⟩ := k1 k hk
    have r := e2 y y1 (by rw [e1, if_neg Bool.false_ne_true]; exact y2)
    exact ⟨r.1, r.2.1, r.2.2.1, r.2.2.2.1, r.2.2.2.2.2 e1⟩
  have b2 : ∀ k, pp_k2 (pp_Wf (S.I a 10) (S.A (a + 3))) s p k = true → ∀ y, 0 ≤ y → y ≤ (S.A (a + 10)) s → 0 ≤ S.L (58 + 3 * k.toNat) y ∧ S.L (58 + 3 * k.toNat) y ≤ 288230376151711744 ∧ 0 ≤ S.L (59 + 3 * k.toNat) y ∧ S.L (59 + 3 * k.toNat) y ≤ 72057594037927936 ∧ pp_mi 5316911983139663491615228241121378304 (pp_CS (S.I a 10) 5316911983139663491615228241121378304 (pp_Wf (S.I a 10) (S.A (a + 3))) (S.A (a + 10)) (fun u => S.A (a + 1) (u * 7 + 2)) (fun u => S.A (a + 1) (u * 7 + 0)) (bb_ow (S.A (a + 1))) (bb_pr S a) k s y) (bb_c S k y) := fun k hk y y1 y2 => by
    obtain ⟨e1, e2⟩ := k2 k hk
    have r := e2 y y1 (by rw [e1, if_pos rfl]; exact y2)
    exact ⟨r.1, r.2.1, r.2.2.1, r.2.2.2.1, r.2.2.2.2.1 e1⟩
  refine ⟨⟨fun k hk y y1 y2 => ?_, fun k hk y y1 y2 => ?_⟩, fun k hk y y1 y2 => ?_, fun k hk y y1 y2 => ?_⟩
  · have r := b1 k hk y y1 y2
    exact ⟨by unfold bb_c; omega, r.2.2.2.2⟩
  · have r := b2 k hk y y1 y2
    exact ⟨by unfold bb_c; omega, r.2.2.2.2⟩
  · have r := b1 k hk y y1 y2
    exact ⟨r.1, r.2.1, r.2.2.1, r.2.2.2.1, rfl⟩
  · have r := b2 k hk y y1 y2
    exact ⟨r.1, r.2.1, r.2.2.1, r.2.2.2.1, rfl⟩
theorem bb_bl_nn {s p t : Int} {cc : Int → Int → Int} (hT : pp_NT S a) (h1 : 0 ≤ s) (h2 : s < S.I a 10) (hc : pp_cz (S.I a 10) 5316911983139663491615228241121378304 (pp_Wf (S.I a 10) (S.A (a + 3))) (S.A (a + 10)) (fun u => S.A (a + 1) (u * 7 + 2)) (fun u => S.A (a + 1) (u * 7 + 0)) (bb_ow (S.A (a + 1))) (bb_pr S a) cc s p) (t0 : 0 ≤ t) (t1 : t ≤ (S.A (a + 10)) s) : 0 ≤ pp_bl (S.I a 10) (pp_Wf (S.I a 10) (S.A (a + 3))) (bb_ow (S.A (a + 1))) cc s p t := by
  have hN := hT.1.1
  have la := bb_lat hT h1 h2
  have o := (bb_ow_r (T := S.A (a + 1)) h1 (show s < 12 by omega) t0 (by omega)).1
  have g : 0 ≤ pp_sm (fun k => if pp_k2 (pp_Wf (S.I a 10) (S.A (a + 3))) s p k = true then cc k t else 0) ((S.I a 10)).toNat := pp_sm_nn _ (fun k _ _ => by
    show 0 ≤ if pp_k2 (pp_Wf (S.I a 10) (S.A (a + 3))) s p k = true then cc k t else 0
    by_cases z : pp_k2 (pp_Wf (S.I a 10) (S.A (a + 3))) s p k = true
    · rw [if_pos z]; exact (hc.2 k z t t0 t1).1
    · rw [if_neg z]; exact Int.le_refl 0)
  unfold pp_bl
  omega
/-- by the own times -/
theorem bb_fin_T {s p x : Int} {ju own mf : Int → Int} {cc : Int → Int → Int} {by_ : Int → Int} (hT : pp_NT S a) (h1 : 0 ≤ s) (h2 : s < S.I a 10) (hp : (pp_Wf (S.I a 10) (S.A (a + 3))) p s = false) (hc : pp_cz (S.I a 10) 5316911983139663491615228241121378304 (pp_Wf (S.I a 10) (S.A (a + 3))) (S.A (a + 10)) (fun u => S.A (a + 1) (u * 7 + 2)) (fun u => S.A (a + 1) (u * 7 + 0)) (bb_ow (S.A (a + 1))) (bb_pr S a) cc s p) (hw : bb_WB S a cc s p ((S.A (a + 10)) s - S.A (a + 1) (s * 7 + 0)) ((S.I a 10)).toNat by_ ju) (ho : ∀ t : Int, 0 ≤ t → t ≤ (S.A (a + 10)) s → own t = min 5316911983139663491615228241121378304 (pp_bl (S.I a 10) (pp_Wf (S.I a 10) (S.A (a + 3))) (bb_ow (S.A (a + 1))) cc s p t)) (x0 : 0 ≤ x) (x1 : x ≤ (S.A (a + 10)) s) (m0 : 0 ≤ mf x) (hm : pp_mi 5316911983139663491615228241121378304 (fun v => ∃ w : Int, (0 ≤ w ∧ w ≤ (S.A (a + 10)) s - S.A (a + 1) (s * 7 + 0) ∧ 0 ≤ w + (S.A (a + 1) (s * 7 + 0) - x)) ∧ v = ju w + bb_pr S a s (w + (S.A (a + 1) (s * 7 + 0) - x))) (mf x)) : pp_mi 5316911983139663491615228241121378304 (pp_CO (S.I a 10) 5316911983139663491615228241121378304 (pp_Wf (S.I a 10) (S.A (a + 3))) (S.A (a + 10)) (fun u => S.A (a + 1) (u * 7 + 2)) (fun u => S.A (a + 1) (u * 7 + 0)) (bb_ow (S.A (a + 1))) (bb_pr S a) s p x) (min 5316911983139663491615228241121378304 (mf x + own x)) := by
  have hN := hT.1.1
  have la := bb_lat hT h1 h2
  have bl0 := bb_bl_nn hT h1 h2 hc x0 x1
  have e := ho x x0 x1
  refine pp_dpO (pp_Wf_in _ _) hT.2.1.2.2.1 hT.2.1.2.2.2 h1 h2 hp hc (bb_ow_r h1 (by omega) x0 (by omega)).1 (bb_pr_nn hT h1 h2) x0 x1 ?_
  refine pp_cO (M := (S.A (a + 10)) s - S.A (a + 1) (s * 7 + 0)) (ju := ju) (pp_Wf_in _ _) la.1.1 la.1.2 (fun k hk => (la.2.2.2 k (pp_k1_t.mp hk).1).2) (fun w w0 w1 => (hw w w0 w1).2.2) (bb_pr_nn hT h1 h2) m0 ?_ (by omega) (by omega) bl0
  refine pp_mi_to hm ?_ ?_
  · rintro y ⟨w, hw, rfl⟩
    refine ⟨_, ⟨w, ⟨hw.1, hw.2.1, by have := hw.2.2; omega⟩, rfl⟩, ?_⟩
    rw [show w + (S.A (a + 1) (s * 7 + 0) - x) = w + S.A (a + 1) (s * 7 + 0) - x by omega]
    exact Int.le_refl _
  · rintro _ ⟨w, hw, e⟩
    rw [show w + (S.A (a + 1) (s * 7 + 0) - x) = w + S.A (a + 1) (s * 7 + 0) - x by omega] at e
    exact ⟨w, ⟨hw.1, hw.2.1, by have := hw.2.2; omega⟩, e⟩
/-- by the times of the supplier -/
theorem bb_fin_S {s p x : Int} {ju own qf : Int → Int} {cc : Int → Int → Int} {by_ : Int → Int} (hT : pp_NT S a) (h1 : 0 ≤ s) (h2 : s < S.I a 10) (hp : (pp_Wf (S.I a 10) (S.A (a + 3))) p s = true) (hc : pp_cz (S.I a 10) 5316911983139663491615228241121378304 (pp_Wf (S.I a 10) (S.A (a + 3))) (S.A (a + 10)) (fun u => S.A (a + 1) (u * 7 + 2)) (fun u => S.A (a + 1) (u * 7 + 0)) (bb_ow (S.A (a + 1))) (bb_pr S a) cc s p) (hw : bb_WB S a cc s p ((S.A (a + 10)) s - S.A (a + 1) (s * 7 + 0)) ((S.I a 10)).toNat by_ ju) (ho : ∀ t : Int, 0 ≤ t → t ≤ (S.A (a + 10)) s → own t = min 5316911983139663491615228241121378304 (pp_bl (S.I a 10) (pp_Wf (S.I a 10) (S.A (a + 3))) (bb_ow (S.A (a + 1))) cc s p t)) (hq : ∀ w : Int, 0 ≤ w → w ≤ (S.A (a + 10)) s - S.A (a + 1) (s * 7 + 0) → 0 ≤ qf w ∧ pp_mi 5316911983139663491615228241121378304 (fun v => ∃ i : Int, (0 ≤ i ∧ i < w + S.A (a + 1) (s * 7 + 0) + 1) ∧ v = own i + bb_pr S a s (w + S.A (a + 1) (s * 7 + 0) - i)) (qf w)) (x0 : 0 ≤ x) (x1 : x ≤ (S.A (a + 10)) s - S.A (a + 1) (s * 7 + 0)) : pp_mi 5316911983139663491615228241121378304 (pp_CS (S.I a 10) 5316911983139663491615228241121378304 (pp_Wf (S.I a 10) (S.A (a + 3))) (S.A (a + 10)) (fun u => S.A (a + 1) (u * 7 + 2)) (fun u => S.A (a + 1) (u * 7 + 0)) (bb_ow (S.A (a + 1))) (bb_pr S a) s p x) (bb_rs by_ ju qf ((S.A (a + 10)) s - S.A (a + 1) (s * 7 + 0)) (max (S.A (a + 1) (s * 7 + 2)) x)) := by
  have hN := hT.1.1
  have la := bb_lat hT h1 h2
  have pr0 := bb_pr_nn hT h1 h2
  have hq2 : ∀ w : Int, 0 ≤ w → w ≤ (S.A (a + 10)) s - S.A (a + 1) (s * 7 + 0) → 0 ≤ qf w ∧ pp_mi 5316911983139663491615228241121378304 (pp_ot (S.I a 10) (pp_Wf (S.I a 10) (S.A (a + 3))) (S.A (a + 10)) (fun u => S.A (a + 1) (u * 7 + 0)) (bb_ow (S.A (a + 1))) (bb_pr S a) cc s p w) (qf w) := by
    intro w w0 w1
    obtain ⟨q0, qm⟩ := hq w w0 w1
    refine ⟨q0, pp_mi_to qm ?_ ?_⟩
    · rintro _ ⟨t, ht, rfl⟩
      have t3 : 0 ≤ w + S.A (a + 1) (s * 7 + 0) - t := ht.2.2
      refine ⟨_, ⟨t, ⟨ht.1, by omega⟩, rfl⟩, ?_⟩
      rw [ho t ht.1 ht.2.1]
      show min 5316911983139663491615228241121378304 _ + bb_pr S a s (w + S.A (a + 1) (s * 7 + 0) - t) ≤ pp_bl (S.I a 10) (pp_Wf (S.I a 10) (S.A (a + 3))) (bb_ow (S.A (a + 1))) cc s p t + bb_pr S a s (w + S.A (a + 1) (s * 7 + 0) - t)
      omega
    · rintro hlt ⟨t, ht, e⟩
      have p0 := pr0 (w + S.A (a + 1) (s * 7 + 0) - t)
      have oe := ho t ht.1 (by omega)
      refine ⟨t, ⟨ht.1, by omega, ?_⟩, ?_⟩
      · show 0 ≤ w + S.A (a + 1) (s * 7 + 0) - t
        omega
      · show qf w = pp_bl (S.I a 10) (pp_Wf (S.I a 10) (S.A (a + 3))) (bb_ow (S.A (a + 1))) cc s p t + bb_pr S a s (w + S.A (a + 1) (s * 7 + 0) - t)
        omega
  have same : ∀ v, pp_xb (S.A (a + 1) (s * 7 + 2)) (pp_k1 (pp_Wf (S.I a 10) (S.A (a + 3))) s p) (S.A (a + 10)) cc ((S.I a 10)).toNat (S.A (a + 1) (s * 7 + 2)) v ↔ pp_xj (S.A (a + 1) (s * 7 + 2)) (pp_k1 (pp_Wf (S.I a 10) (S.A (a + 3))) s p) (S.A (a + 10)) cc ((S.I a 10)).toNat (S.A (a + 1) (s * 7 + 2)) v := by
    intro v
    constructor
    · rintro ⟨y, y1, y2, y3⟩
      exact ⟨y, y1, Int.le_antisymm y2 (pp_gx_ge _ _ _ _), y3⟩
    · rintro ⟨y, y1, y2, y3⟩
      exact ⟨y, y1, Int.le_of_eq y2, y3⟩
  have hwo := hw (S.A (a + 1) (s * 7 + 2)) la.1.1 la.1.2
  have eo : by_ (S.A (a + 1) (s * 7 + 2)) = ju (S.A (a + 1) (s * 7 + 2)) := pp_mi_one hwo.1.2 (pp_mi_to hwo.2.2 (fun y hy => ⟨y, (same y).mp hy, Int.le_refl y⟩) (fun _ hy => (same _).mpr hy))
  refine pp_dpS (pp_Wf_in _ _) hT.2.1.2.2.1 hT.2.1.2.2.2 h1 h2 hp hc (fun y y0 y1 => (bb_ow_r h1 (by omega) y0 (by omega)).1) pr0 ?_
  by_cases q : S.A (a + 1) (s * 7 + 2) ≤ x
  · rw [show max (S.A (a + 1) (s * 7 + 2)) x = x by omega]
    have b0 := (hw x x0 x1).1.1
    have q0 := (hq x x0 x1).1
    have lar := (bb_la_mi (ju := ju) (qf := qf) (latest := (S.A (a + 10)) s - S.A (a + 1) (s * 7 + 0)) (x := x)).1
    refine pp_cS (M := (S.A (a + 10)) s - S.A (a + 1) (s * 7 + 0)) (b1 := min 5316911983139663491615228241121378304 (by_ x + qf x)) (m := bb_la ju qf ((S.A (a + 10)) s - S.A (a + 1) (s * 7 + 0)) x) (by_ := by_) (ju := ju) (qu := qf) (pp_Wf_in _ _) la.1.1 la.1.2 (fun k hk => (la.2.2.2 k (pp_k1_t.mp hk).1).2) (fun w w0 w1 => (hw w w0 w1).1) (fun w w0 w1 => (hw w w0 w1).2) hq2 x0 x1 ?_ ?_ ?_
    · refine pp_mi_to bb_la_mi ?_ ?_
      · rintro y ⟨w, hw, e⟩
        have z : max x (S.A (a + 1) (s * 7 + 2) - 1) < w := hw.2.2
        exact ⟨y, ⟨w, ⟨by omega, hw.2.1⟩, e⟩, Int.le_refl y⟩
      · rintro _ ⟨w, hw, e⟩
        refine ⟨w, ⟨by omega, hw.2, ?_⟩, e⟩
        show max x (S.A (a + 1) (s * 7 + 2) - 1) < w
        omega
    · refine ⟨by omega, ?_, ?_⟩
      · rintro _ ⟨_, rfl⟩; omega
      · by_cases e2 : by_ x + qf x < 5316911983139663491615228241121378304
        · exact Or.inr ⟨q, by omega⟩
        · exact Or.inl (by omega)
    · unfold bb_rs
      omega
  · rw [show max (S.A (a + 1) (s * 7 + 2)) x = S.A (a + 1) (s * 7 + 2) by omega]
    have lar := (bb_la_mi (ju := ju) (qf := qf) (latest := (S.A (a + 10)) s - S.A (a + 1) (s * 7 + 0)) (x := S.A (a + 1) (s * 7 + 2) - 1))
    have st := bb_la_st (ju := ju) (qf := qf) la.1.2
    refine pp_cS (M := (S.A (a + 10)) s - S.A (a + 1) (s * 7 + 0)) (b1 := 5316911983139663491615228241121378304) (m := bb_la ju qf ((S.A (a + 10)) s - S.A (a + 1) (s * 7 + 0)) (S.A (a + 1) (s * 7 + 2) - 1)) (by_ := by_) (ju := ju) (qu := qf) (pp_Wf_in _ _) la.1.1 la.1.2 (fun k hk => (la.2.2.2 k (pp_k1_t.mp hk).1).2) (fun w w0 w1 => (hw w w0 w1).1) (fun w w0 w1 => (hw w w0 w1).2) hq2 x0 x1 ?_ ?_ ?_
    · refine pp_mi_to lar ?_ ?_
      · rintro y ⟨w, hw, e⟩
        have z : max x (S.A (a + 1) (s * 7 + 2) - 1) < w := hw.2.2
        exact ⟨y, ⟨w, ⟨by omega, hw.2.1⟩, e⟩, Int.le_refl y⟩
      · rintro _ ⟨w, hw, e⟩
        refine ⟨w, ⟨by omega, hw.2, ?_⟩, e⟩
        show max x (S.A (a + 1) (s * 7 + 2) - 1) < w
        omega
    · refine pp_mi_no ?_
      rintro _ ⟨z, _⟩
      exact absurd z q
    · unfold bb_rs
      rw [eo]
      have := lar.1
      omega
end
