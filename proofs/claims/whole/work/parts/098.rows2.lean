/-! ROWS changed; a Net that tells what a row tells -/
theorem pp_Wr_cg {f g : Int → Int} (h0 : g 0 = f 0) (h2 : g 2 = f 2) (h : ∀ l : Int, 0 ≤ l → l < f 2 → g (159 + 2 * l) = f (159 + 2 * l) ∧ g (159 + 2 * l + 1) = f (159 + 2 * l + 1)) : pp_Wr g = pp_Wr f := by
  unfold pp_Wr
  rw [h0, mm_sup_cg h2 h]
theorem pp_Wr_in (f : Int → Int) : pp_IN (f 0) (pp_Wr f) := pp_Wf_in _ _
/-- what is told, or Z, another one -/
theorem pp_RO_same {f g : Int → Int} (hf : pp_RO f) (h0 : g 0 = f 0) (h1 : 0 ≤ g 1 ∧ g 1 ≤ 400) (h2 : g 2 = f 2) (h : ∀ l : Int, 0 ≤ l → l < f 2 → g (159 + 2 * l) = f (159 + 2 * l) ∧ g (159 + 2 * l + 1) = f (159 + 2 * l + 1)) (ht : ∀ s : Int, 0 ≤ s → s < f 0 → pp_tR (fun k => g (3 + k)) s) : pp_RO g := by
  obtain ⟨f0, f1, f2, fp, ft, fF, fR, fc, fC⟩ := hf
  refine ⟨by rw [h0]; exact f0, h1, by rw [h2]; exact f2, fun l l1 l2 => ?_, by rw [h0]; exact ht, ?_, ?_, ?_, ?_⟩
  · rw [h2] at l2
    rw [(h l l1 l2).1, (h l l1 l2).2, h0]
    exact fp l l1 l2
  · rw [pp_Wr_cg h0 h2 h]; exact fF
  · rw [pp_Wr_cg h0 h2 h]; exact fR
  · rw [h2, h0, mm_sup_cg h2 h]; exact fc
  · rw [pp_Wr_cg h0 h2 h, h0, h2]; exact fC
theorem pp_Wr_aw {f g : Int → Int} {i j : Int} (h0 : g 0 = f 0) (h00 : 0 ≤ f 2) (h2 : g 2 = f 2 + 1) (h : ∀ l : Int, 0 ≤ l → l < f 2 → g (159 + 2 * l) = f (159 + 2 * l) ∧ g (159 + 2 * l + 1) = f (159 + 2 * l + 1)) (hi : g (159 + 2 * f 2) = i) (hj : g (159 + 2 * f 2 + 1) = j) (i1 : 0 ≤ i) (i2 : i < f 0) (j1 : 0 ≤ j) (j2 : j < f 0) : pp_Wr g = pp_aw (pp_Wr f) i j := by
  funext u v
  unfold pp_Wr pp_aw
  rw [h0]
  by_cases r : 0 ≤ u ∧ u < f 0 ∧ 0 ≤ v ∧ v < f 0
  · rw [pp_Wf_eq r, pp_Wf_eq r, mm_sup_add h00 h2 h hi hj]
    by_cases e : v = j
    · rw [if_pos e, mm_bt_or, mm_bt_pw i1 r.1]
      congr 1
      exact decide_eq_decide.mpr ⟨fun z => ⟨z, e⟩, fun z => z.1⟩
    · rw [if_neg e, decide_eq_false (fun z => e z.2), Bool.or_false]
  · have q : ∀ sp, pp_Wf (f 0) sp u v = false := fun sp => by unfold pp_Wf; rw [decide_eq_false r, Bool.false_and]
    rw [q, q, decide_eq_false (fun z => r (by omega)), Bool.or_false]
theorem pp_Wr_bt {f : Int → Int} {i j : Int} (r : 0 ≤ i ∧ i < f 0 ∧ 0 ≤ j ∧ j < f 0) : pp_Wr f i j = mm_bt (mm_sup f j) i := pp_Wf_eq r
/-- a supply more -/
theorem pp_RO_edge {f g : Int → Int} {i j : Int} (hf : pp_RO f) (h0 : g 0 = f 0) (h1 : g 1 = f 1) (h2 : g 2 = f 2 + 1) (h : ∀ l : Int, 0 ≤ l → l < f 2 → g (159 + 2 * l) = f (159 + 2 * l) ∧ g (159 + 2 * l + 1) = f (159 + 2 * l + 1)) (hi : g (159 + 2 * f 2) = i) (hj : g (159 + 2 * f 2 + 1) = j) (i1 : 0 ≤ i) (i2 : i < f 0) (j1 : 0 ≤ j) (j2 : j < f 0) (hc : ¬ pp_cn (pp_Wr f) i j) (ht : ∀ s : Int, 0 ≤ s → s < f 0 → pp_tR (fun k => g (3 + k)) s) : pp_RO g := by
  obtain ⟨f0, f1, f2, fp, ft, fF, fR, fc, fC⟩ := hf
  have eW := pp_Wr_aw h0 f2.1 h2 h hi hj i1 i2 j1 j2
  have C := pp_CM_aw fC i1 i2 j1 j2 hc
  have C1 := pp_CM_1 C (by omega)
  have nb : mm_bt (mm_sup f j) i = false := by
    cases e : mm_bt (mm_sup f j) i with
    | false => rfl
    | true => exact absurd (pp_cn_st (pp_cn_rf _ i) (Or.inl (by rw [pp_Wr_bt ⟨i1, i2, j1, j2⟩]; exact e))) hc
  refine ⟨by rw [h0]; exact f0, by rw [h1]; exact f1, by omega, fun l l1 l2 => ?_, by rw [h0]; exact ht, ?_, ?_, ?_, ?_⟩
  · rw [h0]
    by_cases e : l = f 2
    · rw [e, hi, hj]; exact ⟨i1, i2, j1, j2⟩
    · rw [(h l l1 (by omega)).1, (h l l1 (by omega)).2]
      exact fp l l1 (by omega)
  · rw [eW]; exact pp_FO_aw fF hc
  · rw [eW]; exact pp_RK_aw fR hc
  · rw [h2, h0, fc]
    refine (pp_sm_up (j := j) (f 0).toNat j1 (by omega) (fun s _ _ hs => ?_) ?_).symm
    · rw [mm_sup_add f2.1 h2 h hi hj, if_neg hs]
    · rw [mm_sup_add f2.1 h2 h hi hj, if_pos rfl, pp_pc_add i1 (by omega) nb]
  · rw [eW, h0, h2]; exact C
/-- a stage more, joined to none -/
theorem pp_RO_node {f g : Int → Int} (hf : pp_RO f) (hn : f 0 < 12) (h0 : g 0 = f 0 + 1) (h1 : 0 ≤ g 1 ∧ g 1 ≤ 400) (h2 : g 2 = f 2) (h : ∀ l : Int, 0 ≤ l → l < f 2 → g (159 + 2 * l) = f (159 + 2 * l) ∧ g (159 + 2 * l + 1) = f (159 + 2 * l + 1)) (ht : ∀ s : Int, 0 ≤ s → s ≤ f 0 → pp_tR (fun k => g (3 + k)) s) : pp_RO g ∧ pp_Wr g = pp_Wr f ∧ mm_sup f (f 0) = 0 ∧ mm_cus f (f 0) = 0 := by
  have hf' := hf
  obtain ⟨f0, f1, f2, fp, ft, fF, fR, fc, fC⟩ := hf
  have P := pp_RO_PR hf'
  have z1 : mm_sup f (f 0) = 0 := mm_set0 (mm_sup_r _ P).1 (mm_sup_r _ P).2 (fun s s1 s2 => by
    cases e : mm_bt (mm_sup f (f 0)) s with
    | false => rfl
    | true =>
      obtain ⟨l, l1, l2, l3, l4⟩ := (mm_sup_bt P s1).mp e
      have := fp l l1 l2
      omega)
  have z2 : mm_cus f (f 0) = 0 := mm_set0 (mm_cus_r _ P).1 (mm_cus_r _ P).2 (fun s s1 s2 => by
    cases e : mm_bt (mm_cus f (f 0)) s with
    | false => rfl
    | true =>
      obtain ⟨l, l1, l2, l3, l4⟩ := (mm_cus_bt P s1).mp e
      have := fp l l1 l2
      omega)
  have eW : pp_Wr g = pp_Wr f := by
    funext u v
    unfold pp_Wr
    rw [h0, mm_sup_cg h2 h]
    by_cases r : 0 ≤ u ∧ u < f 0 ∧ 0 ≤ v ∧ v < f 0
    · rw [pp_Wf_eq r, pp_Wf_eq (by omega)]
    · have q : pp_Wf (f 0) (mm_sup f) u v = false := by unfold pp_Wf; rw [decide_eq_false r, Bool.false_and]
      rw [q]
      by_cases r2 : 0 ≤ u ∧ u < f 0 + 1 ∧ 0 ≤ v ∧ v < f 0 + 1
      · rw [pp_Wf_eq r2]
        cases e : mm_bt (mm_sup f v) u with
        | false => rfl
        | true =>
          obtain ⟨l, l1, l2, l3, l4⟩ := (mm_sup_bt P r2.1).mp e
          have := fp l l1 l2
          omega
      · unfold pp_Wf; rw [decide_eq_false r2, Bool.false_and]
  refine ⟨⟨by omega, h1, by rw [h2]; exact f2, fun l l1 l2 => ?_, fun s s1 s2 => ht s s1 (by omega), by rw [eW]; exact fF, by rw [eW]; exact fR, ?_, ?_⟩, eW, z1, z2⟩
  · rw [h2] at l2
    rw [(h l l1 l2).1, (h l l1 l2).2, h0]
    have := fp l l1 l2
    omega
  · rw [h2, h0, mm_sup_cg h2 h, show (f 0 + 1).toNat = (f 0).toNat + 1 by omega, pp_sm, show (((f 0).toNat : Nat) : Int) = f 0 by omega, z1, show mm_pc 0 = 0 by decide, Int.add_zero]
    exact fc
  · rw [eW, h0, h2]
    exact pp_CM_node f0.1 (pp_Wr_in f) fC
/-- a Net tells what a row tells -/
def pp_EQ (S : mm_S) (a : Nat) (f : Int → Int) : Prop := S.I a 10 = f 0 ∧ S.I a 11 = f 1 ∧ (∀ s : Int, 0 ≤ s → s < 12 → S.A (a + 3) s = mm_sup f s ∧ S.A (a + 4) s = mm_cus f s) ∧ (∀ s w : Int, 0 ≤ s → s < f 0 → 0 ≤ w → w < 7 → S.A (a + 1) (s * 7 + w) = f (3 + 7 * s + w)) ∧ (∀ s : Int, 0 ≤ s → s < 12 → pp_tR (S.A (a + 1)) s) ∧ (∀ s k : Int, 0 ≤ s → s < f 0 → 0 ≤ k → k < 6 → S.A (a + 2) (s * 6 + k) = f (87 + 6 * s + k)) ∧ (∀ s k : Int, f 0 ≤ s → s < 12 → 0 ≤ k → k < 6 → S.A (a + 2) (s * 6 + k) = 0)
theorem pp_EQ_W {S : mm_S} {a : Nat} {f : Int → Int} (hR : pp_RO f) (h : pp_EQ S a f) : pp_Wf (S.I a 10) (S.A (a + 3)) = pp_Wr f := by
  funext u v
  unfold pp_Wr
  rw [h.1]
  by_cases r : 0 ≤ u ∧ u < f 0 ∧ 0 ≤ v ∧ v < f 0
  · have n := hR.1
    rw [pp_Wf_eq r, pp_Wf_eq r, (h.2.2.1 v r.2.2.1 (by omega)).1]
  · unfold pp_Wf
    rw [decide_eq_false r]; rfl
theorem pp_EQ_NK {S : mm_S} {a : Nat} {f : Int → Int} (hR : pp_RO f) (h : pp_EQ S a f) : pp_NK S a := by
  have P := pp_RO_PR hR
  refine ⟨by rw [h.1]; exact hR.1, by rw [h.2.1]; exact hR.2.1, fun s s1 s2 => ?_, fun s s1 s2 => ?_, h.2.2.2.2.1⟩
  · rw [(h.2.2.1 s s1 s2).1]; exact mm_sup_r s P
  · rw [(h.2.2.1 s s1 s2).2]; exact mm_cus_r s P
theorem pp_EQ_GK {S : mm_S} {a : Nat} {f : Int → Int} (hR : pp_RO f) (h : pp_EQ S a f) : pp_GK S a := by
  have P := pp_RO_PR hR
  refine ⟨fun i j i1 i2 j1 j2 e => ?_, fun i j i1 i2 j1 j2 => ?_, ?_, ?_⟩
  · rw [(h.2.2.1 j j1 j2).1] at e
    obtain ⟨l, l1, l2, l3, l4⟩ := (mm_sup_bt P i1).mp e
    have g := hR.2.2.2.1 l l1 l2
    rw [h.1]
    omega
  · rw [(h.2.2.1 i i1 i2).2, (h.2.2.1 j j1 j2).1]
    have e : mm_bt (mm_cus f i) j = true ↔ mm_bt (mm_sup f j) i = true := by
      rw [mm_cus_bt P j1, mm_sup_bt P i1]
    cases h1 : mm_bt (mm_cus f i) j with
    | true => exact (e.mp h1).symm
    | false => cases h2 : mm_bt (mm_sup f j) i with
      | false => rfl
      | true => rw [e.mpr h2] at h1; cases h1
  · rw [pp_EQ_W hR h]; exact hR.2.2.2.2.2.1
  · rw [pp_EQ_W hR h]; exact hR.2.2.2.2.2.2.1
theorem pp_EQ_RL {S : mm_S} {a : Nat} {f : Int → Int} (hR : pp_RO f) (h : pp_EQ S a f) : pp_RL S a f := by
  have P := pp_RO_PR hR
  have G := pp_EQ_GK hR h
  have n := hR.1
  refine ⟨h.1.symm, h.2.1.symm, P, fun s w s1 s2 w1 w2 => ?_, fun i j i1 i2 j1 j2 => ?_, fun s k s1 s2 k1 k2 => ?_, ?_⟩
  · rw [h.1] at s2
    exact (h.2.2.2.1 s w s1 s2 w1 w2).symm
  · have e1 : mm_bt (mm_sup f j) i = pp_Wf (S.I a 10) (S.A (a + 3)) i j := by
      by_cases r : 0 ≤ i ∧ i < S.I a 10 ∧ 0 ≤ j ∧ j < S.I a 10
      · rw [pp_Wf_eq r, (h.2.2.1 j j1 j2).1]
      · unfold pp_Wf
        rw [decide_eq_false r, Bool.false_and]
        cases e : mm_bt (mm_sup f j) i with
        | false => rfl
        | true =>
          rw [← (h.2.2.1 j j1 j2).1] at e
          exact absurd ⟨i1, (G.1 i j i1 i2 j1 j2 e).1, j1, (G.1 i j i1 i2 j1 j2 e).2⟩ r
    refine ⟨e1, ?_⟩
    rw [← e1, ← (h.2.2.1 i i1 i2).2, ← (h.2.2.1 j j1 j2).1]
    exact G.2.1 i j i1 i2 j1 j2
  · rw [h.1] at s2
    exact (h.2.2.2.2.2.1 s k s1 s2 k1 k2).symm
  · rw [hR.2.2.2.2.2.2.2.1, h.1]
    exact pp_sm_congr _ (fun s s1 s2 => by rw [(h.2.2.1 s s1 (by omega)).1])
