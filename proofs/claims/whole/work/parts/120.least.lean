/-! LEAST OF A SET, or what never is -/
def pp_mi (F : Int) (X : Int → Prop) (v : Int) : Prop := v ≤ F ∧ (∀ x, X x → v ≤ x) ∧ (v = F ∨ X v)
theorem pp_mi_one {F : Int} {X : Int → Prop} {v w : Int} (h : pp_mi F X v) (g : pp_mi F X w) : v = w := by
  obtain ⟨h1, h2, h3⟩ := h
  obtain ⟨g1, g2, g3⟩ := g
  rcases h3 with h3 | h3
  · rcases g3 with g3 | g3
    · omega
    · have := h2 w g3
      omega
  · have := g2 v h3
    rcases g3 with g3 | g3
    · omega
    · have := h2 w g3
      omega
theorem pp_mi_nn {F : Int} {X : Int → Prop} {v : Int} (h : pp_mi F X v) (h0 : 0 ≤ F) (hx : ∀ x, X x → 0 ≤ x) : 0 ≤ v := by
  rcases h.2.2 with g | g
  · omega
  · exact hx v g
/-- another set, that goes as low -/
theorem pp_mi_to {F : Int} {X Y : Int → Prop} {v : Int} (h : pp_mi F X v) (h1 : ∀ y, Y y → ∃ x, X x ∧ x ≤ y) (h2 : v < F → X v → Y v) : pp_mi F Y v := by
  obtain ⟨a1, a2, a3⟩ := h
  refine ⟨a1, fun y hy => ?_, ?_⟩
  · obtain ⟨x, hx, hxy⟩ := h1 y hy
    have := a2 x hx
    omega
  · by_cases e : v = F
    · exact Or.inl e
    · rcases a3 with a3 | a3
      · exact Or.inl a3
      · exact Or.inr (h2 (by omega) a3)
theorem pp_mi_no {F : Int} {X : Int → Prop} (h : ∀ x, X x → F ≤ x) : pp_mi F X F := ⟨Int.le_refl F, h, Or.inl rfl⟩
/-- the least of the first k -/
def pp_mr (F : Int) (g : Int → Int) : Nat → Int
  | 0 => F
  | k + 1 => min (pp_mr F g k) (g k)
theorem pp_mr_mi (F : Int) (g : Int → Int) : ∀ k : Nat, pp_mi F (fun x => ∃ i : Int, 0 ≤ i ∧ i < k ∧ x = g i) (pp_mr F g k)
  | 0 => ⟨Int.le_refl F, fun x ⟨i, h1, h2, _⟩ => by omega, Or.inl rfl⟩
  | k + 1 => by
    obtain ⟨a1, a2, a3⟩ := pp_mr_mi F g k
    have e : pp_mr F g (k + 1) = min (pp_mr F g k) (g k) := rfl
    refine ⟨by omega, fun x ⟨i, h1, h2, h3⟩ => ?_, ?_⟩
    · by_cases c : i = k
      · subst c; omega
      · have := a2 x ⟨i, h1, by omega, h3⟩
        omega
    · by_cases c : pp_mr F g k ≤ g k
      · rcases a3 with a3 | ⟨i, h1, h2, h3⟩
        · exact Or.inl (by omega)
        · exact Or.inr ⟨i, h1, by omega, by omega⟩
      · exact Or.inr ⟨k, by omega, by omega, by omega⟩
/-- sets put together by adding -/
theorem pp_mi_add {F : Int} {X Y : Int → Prop} {v w : Int} (h : pp_mi F X v) (g : pp_mi F Y w) (h0 : 0 ≤ v) (g0 : 0 ≤ w) : pp_mi F (fun z => ∃ x y, X x ∧ Y y ∧ z = x + y) (min F (v + w)) := by
  obtain ⟨a1, a2, a3⟩ := h
  obtain ⟨b1, b2, b3⟩ := g
  refine ⟨by omega, fun z ⟨x, y, hx, hy, hz⟩ => ?_, ?_⟩
  · have := a2 x hx
    have := b2 y hy
    omega
  · by_cases c : v + w < F
    · refine Or.inr ⟨v, w, ?_, ?_, by omega⟩
      · rcases a3 with a3 | a3
        · omega
        · exact a3
      · rcases b3 with b3 | b3
        · omega
        · exact b3
    · exact Or.inl (by omega)
theorem pp_mi_min {F : Int} {X Y : Int → Prop} {v w : Int} (h : pp_mi F X v) (g : pp_mi F Y w) : pp_mi F (fun z => X z ∨ Y z) (min v w) := by
  obtain ⟨a1, a2, a3⟩ := h
  obtain ⟨b1, b2, b3⟩ := g
  refine ⟨by omega, fun z hz => ?_, ?_⟩
  · rcases hz with hz | hz
    · have := a2 z hz
      omega
    · have := b2 z hz
      omega
  · by_cases c : v ≤ w
    · rw [show min v w = v by omega]
      exact a3.imp id Or.inl
    · rw [show min v w = w by omega]
      exact b3.imp id Or.inr
/-! TREES: what hangs on s, away from p -/
def pp_ct (W : pp_W) (s p : Int) : pp_W := fun u v => W u v && !decide ((u = s ∧ v = p) ∨ (u = p ∧ v = s))
def pp_nb (W : pp_W) (u v : Int) : Prop := W u v = true ∨ W v u = true
theorem pp_ct_t {W : pp_W} {s p u v : Int} : pp_ct W s p u v = true ↔ W u v = true ∧ ¬ ((u = s ∧ v = p) ∨ (u = p ∧ v = s)) := by
  unfold pp_ct
  rw [Bool.and_eq_true_iff, Bool.not_eq_true', decide_eq_false_iff_not]
theorem pp_ct_nb {W : pp_W} {s p u v : Int} : (pp_ct W s p u v = true ∨ pp_ct W s p v u = true) ↔ pp_nb W u v ∧ ¬ ((u = s ∧ v = p) ∨ (u = p ∧ v = s)) := by
  rw [pp_ct_t, pp_ct_t]
  constructor
  · rintro (⟨h1, h2⟩ | ⟨h1, h2⟩)
    · exact ⟨Or.inl h1, h2⟩
    · exact ⟨Or.inr h1, fun z => h2 (z.elim (fun q => Or.inr ⟨q.2, q.1⟩) (fun q => Or.inl ⟨q.2, q.1⟩))⟩
  · rintro ⟨h1 | h1, h2⟩
    · exact Or.inl ⟨h1, h2⟩
    · exact Or.inr ⟨h1, fun z => h2 (z.elim (fun q => Or.inr ⟨q.2, q.1⟩) (fun q => Or.inl ⟨q.2, q.1⟩))⟩
/-- the side of s -/
def pp_sd (W : pp_W) (s p u : Int) : Prop := pp_cn (pp_ct W s p) s u
theorem pp_sd_rf (W : pp_W) (s p : Int) : pp_sd W s p s := pp_cn_rf _ s
theorem pp_sd_no {W : pp_W} (hF : pp_FO W) {k s : Int} (h : pp_nb W k s) : ¬ pp_sd W k s s := by
  intro c
  rcases h with h | h
  · exact hF k s h (pp_cn_mo c (fun u v g => pp_rw_ne (pp_ct_t.mp g).1 (fun z => (pp_ct_t.mp g).2 (Or.inl z))))
  · exact hF s k h (pp_cn_mo (pp_cn_sy c) (fun u v g => pp_rw_ne (pp_ct_t.mp g).1 (fun z => (pp_ct_t.mp g).2 (Or.inr z))))
theorem pp_sd_nx {W : pp_W} (hF : pp_FO W) {k s u v : Int} (h : pp_nb W k s) (g : pp_sd W k s u) (e : pp_nb W u v) : pp_sd W k s v ∨ (u = k ∧ v = s) := by
  by_cases c : (u = k ∧ v = s) ∨ (u = s ∧ v = k)
  · rcases c with c | c
    · exact Or.inr c
    · exact absurd (c.1 ▸ g) (pp_sd_no hF h)
  · exact Or.inl (pp_cn_st g (pp_ct_nb.mpr ⟨e, c⟩))
theorem pp_sd_in {W : pp_W} (hF : pp_FO W) {s p k u : Int} (h : pp_nb W k s) (hk : k ≠ p) (g : pp_sd W k s u) : pp_sd W s p u := by
  refine (g (fun u => pp_sd W k s u ∧ pp_sd W s p u) ⟨pp_sd_rf W k s, ?_⟩ ?_).2
  · refine pp_cn_st (pp_sd_rf W s p) (pp_ct_nb.mpr ⟨h.symm, ?_⟩)
    rintro (⟨_, e⟩ | ⟨e1, e2⟩)
    · exact hk e
    · subst e2
      rcases h with h | h <;> exact absurd (pp_cn_rf _ _) (hF _ _ h)
  · intro u v e ⟨g1, g2⟩
    have g3 : pp_sd W k s v := pp_cn_st g1 e
    refine ⟨g3, pp_cn_st g2 (pp_ct_nb.mpr ⟨(pp_ct_nb.mp e).1, ?_⟩)⟩
    rintro (⟨e1, _⟩ | ⟨_, e1⟩)
    · exact pp_sd_no hF h (e1 ▸ g1)
    · exact pp_sd_no hF h (e1 ▸ g3)
theorem pp_sd_or {W : pp_W} {s p u : Int} (g : pp_sd W s p u) : u = s ∨ ∃ k, pp_nb W k s ∧ k ≠ p ∧ pp_sd W k s u := by
  refine g (fun u => u = s ∨ ∃ k, pp_nb W k s ∧ k ≠ p ∧ pp_sd W k s u) (Or.inl rfl) ?_
  intro u v e h
  have ⟨e1, e2⟩ := pp_ct_nb.mp e
  rcases h with rfl | ⟨k, h1, h2, h3⟩
  · exact Or.inr ⟨v, e1.symm, fun z => e2 (Or.inl ⟨rfl, z⟩), pp_sd_rf W v u⟩
  · by_cases c : (u = k ∧ v = s) ∨ (u = s ∧ v = k)
    · rcases c with c | c
      · exact Or.inl c.2
      · exact Or.inr ⟨k, h1, h2, c.2 ▸ pp_sd_rf W k s⟩
    · exact Or.inr ⟨k, h1, h2, pp_cn_st h3 (pp_ct_nb.mpr ⟨e1, c⟩)⟩
/-- two sides have nothing in common -/
theorem pp_sd_two {W : pp_W} (hF : pp_FO W) {s j k u : Int} (h1 : pp_nb W j s) (h2 : pp_nb W k s) (g1 : pp_sd W j s u) (g2 : pp_sd W k s u) : j = k := by
  by_cases e : j = k
  · exact e
  exfalso
  refine pp_sd_no hF h1 ?_
  have a : pp_sd W j s k := by
    refine (pp_cn_sy g2 (fun v => pp_sd W j s v ∧ pp_sd W k s v) ⟨g1, g2⟩ ?_).1
    intro x v e ⟨a1, a2⟩
    have a3 : pp_sd W k s v := pp_cn_st a2 e
    refine ⟨pp_cn_st a1 (pp_ct_nb.mpr ⟨(pp_ct_nb.mp e).1, ?_⟩), a3⟩
    rintro (⟨_, q⟩ | ⟨q, _⟩)
    · exact pp_sd_no hF h2 (q ▸ a3)
    · exact pp_sd_no hF h2 (q ▸ a2)
  refine pp_cn_st a (pp_ct_nb.mpr ⟨h2, ?_⟩)
  rintro (⟨q, _⟩ | ⟨q, _⟩)
  · exact e q.symm
  · rw [q] at g2 h2
    rcases h2 with h | h <;> exact absurd (pp_cn_rf _ _) (hF _ _ h)
theorem pp_ct_in {n : Int} {W : pp_W} (hW : pp_IN n W) (s p : Int) : pp_IN n (pp_ct W s p) := fun i j h => hW i j (pp_ct_t.mp h).1
theorem pp_sd_rg {n : Int} {W : pp_W} (hW : pp_IN n W) {s p u : Int} (h1 : 0 ≤ s) (h2 : s < n) (g : pp_sd W s p u) : 0 ≤ u ∧ u < n := by
  rcases pp_cn_in (pp_ct_in hW s p) g with h | h
  · omega
  · exact h
noncomputable def pp_sb (W : pp_W) (s p u : Int) : Bool := @decide (pp_sd W s p u) (Classical.propDecidable _)
theorem pp_sb_t {W : pp_W} {s p u : Int} : pp_sb W s p u = true ↔ pp_sd W s p u := @decide_eq_true_iff _ (Classical.propDecidable _)
/-- who supplies s, whom s supplies, but p -/
def pp_k1 (W : pp_W) (s p k : Int) : Bool := W k s && !decide (k = p)
def pp_k2 (W : pp_W) (s p k : Int) : Bool := W s k && !decide (k = p)
theorem pp_k1_t {W : pp_W} {s p k : Int} : pp_k1 W s p k = true ↔ W k s = true ∧ k ≠ p := by
  unfold pp_k1
  rw [Bool.and_eq_true_iff, Bool.not_eq_true', decide_eq_false_iff_not]
theorem pp_k2_t {W : pp_W} {s p k : Int} : pp_k2 W s p k = true ↔ W s k = true ∧ k ≠ p := by
  unfold pp_k2
  rw [Bool.and_eq_true_iff, Bool.not_eq_true', decide_eq_false_iff_not]
theorem pp_no2 {W : pp_W} (hR : pp_RK W) {s k : Int} (h : W s k = true) : W k s = false := by
  obtain ⟨rk, hr⟩ := hR
  cases c : W k s with
  | false => rfl
  | true =>
    have := hr s k h
    have := hr k s c
    omega
/-- the sum over the side of s: s, and the sides of its neighbours -/
theorem pp_sb_sum {n : Int} {W : pp_W} (hW : pp_IN n W) (hF : pp_FO W) (hR : pp_RK W) {s p : Int} (h1 : 0 ≤ s) (h2 : s < n) (g : Int → Int) :
    pp_sm (fun u => if pp_sb W s p u = true then g u else 0) n.toNat = g s + pp_sm (fun k => if pp_k1 W s p k = true then pp_sm (fun u => if pp_sb W k s u = true then g u else 0) n.toNat else 0) n.toNat
      + pp_sm (fun k => if pp_k2 W s p k = true then pp_sm (fun u => if pp_sb W k s u = true then g u else 0) n.toNat else 0) n.toNat := by
  have e1 : g s = pp_sm (fun u => if u = s then g u else 0) n.toNat := by
    rw [pp_sm_one n.toNat h1 (by omega) (fun i _ _ hi => if_neg hi), if_pos rfl]
  have z : ∀ (q : Int → Bool), pp_sm (fun k => if q k = true then pp_sm (fun u => if pp_sb W k s u = true then g u else 0) n.toNat else 0) n.toNat = pp_sm (fun u => pp_sm (fun k => if q k = true then (if pp_sb W k s u = true then g u else 0) else 0) n.toNat) n.toNat := by
    intro q
    rw [← pp_sm_swap]
    apply pp_sm_congr
    intro k _ _
    by_cases c : q k = true
    · simp only [if_pos c]
    · simp only [if_neg c]
      exact (pp_sm_zero n.toNat (fun _ _ _ => rfl)).symm
  rw [e1, z, z, ← pp_sm_add, ← pp_sm_add]
  apply pp_sm_congr
  intro u u1 u2
  show _ = (if u = s then g u else 0) + pp_sm (fun k => if pp_k1 W s p k = true then (if pp_sb W k s u = true then g u else 0) else 0) n.toNat + pp_sm (fun k => if pp_k2 W s p k = true then (if pp_sb W k s u = true then g u else 0) else 0) n.toNat
  have no : ∀ q : Int → Bool, (∀ k, q k = true → pp_nb W k s ∧ k ≠ p) → (∀ k, q k = true → ¬ pp_sd W k s u) → pp_sm (fun k => if q k = true then (if pp_sb W k s u = true then g u else 0) else 0) n.toNat = 0 := by
    intro q _ hq
    apply pp_sm_zero
    intro k _ _
    show (if q k = true then (if pp_sb W k s u = true then g u else 0) else 0) = 0
    by_cases c : q k = true
    · rw [if_pos c, if_neg (fun z => hq k c (pp_sb_t.mp z))]
    · rw [if_neg c]
  have n1 : ∀ k, pp_k1 W s p k = true → pp_nb W k s ∧ k ≠ p := fun k c => ⟨Or.inl (pp_k1_t.mp c).1, (pp_k1_t.mp c).2⟩
  have n2 : ∀ k, pp_k2 W s p k = true → pp_nb W k s ∧ k ≠ p := fun k c => ⟨Or.inr (pp_k2_t.mp c).1, (pp_k2_t.mp c).2⟩
  have one : ∀ (q : Int → Bool) (k : Int), (∀ k, q k = true → pp_nb W k s ∧ k ≠ p) → q k = true → pp_sd W k s u → pp_sm (fun k => if q k = true then (if pp_sb W k s u = true then g u else 0) else 0) n.toNat = g u := by
    intro q k hq hk hu
    have rk := hq k hk
    have r : 0 ≤ k ∧ k < n := by
      rcases rk.1 with z | z
      · have := hW _ _ z; omega
      · have := hW _ _ z; omega
    rw [pp_sm_one (j := k) n.toNat r.1 (by omega) ?_]
    · show (if q k = true then (if pp_sb W k s u = true then g u else 0) else 0) = g u
      rw [if_pos hk, if_pos (pp_sb_t.mpr hu)]
    · intro i _ _ hi
      show (if q i = true then (if pp_sb W i s u = true then g u else 0) else 0) = 0
      by_cases c : q i = true
      · rw [if_pos c, if_neg (fun z => hi (pp_sd_two hF (hq i c).1 rk.1 (pp_sb_t.mp z) hu))]
      · rw [if_neg c]
  by_cases cs : u = s
  · subst cs
    rw [if_pos (pp_sb_t.mpr (pp_sd_rf W u p)), if_pos rfl, no _ n1 (fun k c => pp_sd_no hF (n1 k c).1), no _ n2 (fun k c => pp_sd_no hF (n2 k c).1)]
    omega
  · rw [if_neg cs]
    by_cases c : pp_sd W s p u
    · rw [if_pos (pp_sb_t.mpr c)]
      rcases pp_sd_or c with c | ⟨k, k1, k2, k3⟩
      · exact absurd c cs
      · rcases k1 with k1 | k1
        · rw [one _ k n1 (pp_k1_t.mpr ⟨k1, k2⟩) k3, no _ n2 (fun j c z => by
            have e := pp_sd_two hF (n2 j c).1 (Or.inl k1) z k3
            subst e
            have := pp_no2 hR k1
            rw [(pp_k2_t.mp c).1] at this
            cases this)]
          omega
        · rw [one _ k n2 (pp_k2_t.mpr ⟨k1, k2⟩) k3, no _ n1 (fun j c z => by
            have e := pp_sd_two hF (n1 j c).1 (Or.inr k1) z k3
            subst e
            have := pp_no2 hR k1
            rw [(pp_k1_t.mp c).1] at this
            cases this)]
          omega
    · rw [if_neg (fun z => c (pp_sb_t.mp z)), no _ n1 (fun k q z => c (pp_sd_in hF (n1 k q).1 (n1 k q).2 z)), no _ n2 (fun k q z => c (pp_sd_in hF (n2 k q).1 (n2 k q).2 z))]
      rfl
