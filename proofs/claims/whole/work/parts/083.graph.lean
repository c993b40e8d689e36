/-! WHO HANGS TOGETHER -/
abbrev pp_W : Type := Int → Int → Bool
/-- x and y hang together -/
def pp_cn (W : pp_W) (x y : Int) : Prop := ∀ P : Int → Prop, P x → (∀ u v, (W u v = true ∨ W v u = true) → P u → P v) → P y
theorem pp_cn_rf (W : pp_W) (x : Int) : pp_cn W x x := fun _ h _ => h
theorem pp_cn_st {W : pp_W} {x y z : Int} (h : pp_cn W x y) (e : W y z = true ∨ W z y = true) : pp_cn W x z := fun P h1 h2 => h2 y z e (h P h1 h2)
theorem pp_cn_tr {W : pp_W} {x y z : Int} (h : pp_cn W x y) (g : pp_cn W y z) : pp_cn W x z := fun P h1 h2 => g P (h P h1 h2) h2
theorem pp_cn_sy {W : pp_W} {x y : Int} (h : pp_cn W x y) : pp_cn W y x := h (fun v => pp_cn W v x) (pp_cn_rf W x) (fun u v e g => pp_cn_tr (pp_cn_st (pp_cn_rf W v) e.symm) g)
theorem pp_cn_mo {W V : pp_W} {x y : Int} (h : pp_cn W x y) (g : ∀ u v, W u v = true → V u v = true) : pp_cn V x y := h (fun v => pp_cn V x v) (pp_cn_rf V x) (fun u v e i => pp_cn_st i (e.imp (g u v) (g v u)))
/-- an edge less -/
def pp_rw (W : pp_W) (i j : Int) : pp_W := fun u v => W u v && !decide (u = i ∧ v = j)
theorem pp_rw_le {W : pp_W} {i j u v : Int} (h : pp_rw W i j u v = true) : W u v = true := (Bool.and_eq_true_iff.mp h).1
theorem pp_rw_ne {W : pp_W} {i j u v : Int} (h : W u v = true) (e : ¬ (u = i ∧ v = j)) : pp_rw W i j u v = true := by
  unfold pp_rw
  rw [h, decide_eq_false e]; rfl
theorem pp_rw_no {W : pp_W} {i j : Int} : pp_rw W i j i j = false := by
  unfold pp_rw
  rw [decide_eq_true ⟨rfl, rfl⟩, Bool.not_true, Bool.and_false]
/-- without rings: what is joined hangs together by that alone -/
def pp_FO (W : pp_W) : Prop := ∀ i j, W i j = true → ¬ pp_cn (pp_rw W i j) i j
/-- suppliers ahead -/
def pp_RK (W : pp_W) : Prop := ∃ rk : Int → Nat, ∀ i j, W i j = true → rk i < rk j
def pp_IN (n : Int) (W : pp_W) : Prop := ∀ i j, W i j = true → 0 ≤ i ∧ i < n ∧ 0 ≤ j ∧ j < n
/-- an edge more -/
def pp_aw (W : pp_W) (i j : Int) : pp_W := fun u v => W u v || decide (u = i ∧ v = j)
theorem pp_aw_or {W : pp_W} {i j u v : Int} (h : pp_aw W i j u v = true) : W u v = true ∨ (u = i ∧ v = j) := (Bool.or_eq_true_iff.mp h).imp id of_decide_eq_true
theorem pp_aw_le {W : pp_W} {i j u v : Int} (h : W u v = true) : pp_aw W i j u v = true := by unfold pp_aw; rw [h]; rfl
/-- with an edge more whatever hangs together does so already, or by it -/
theorem pp_cn_aw {W : pp_W} {i j x y : Int} (h : pp_cn (pp_aw W i j) x y) : pp_cn W x y ∨ (pp_cn W x i ∧ pp_cn W j y) ∨ (pp_cn W x j ∧ pp_cn W i y) := by
  refine h (fun y => pp_cn W x y ∨ (pp_cn W x i ∧ pp_cn W j y) ∨ (pp_cn W x j ∧ pp_cn W i y)) (Or.inl (pp_cn_rf W x)) ?_
  intro u v e g
  have e : (W u v = true ∨ W v u = true) ∨ (u = i ∧ v = j) ∨ (v = i ∧ u = j) := by
    rcases e with e | e
    · rcases pp_aw_or e with e | e
      · exact Or.inl (Or.inl e)
      · exact Or.inr (Or.inl e)
    · rcases pp_aw_or e with e | e
      · exact Or.inl (Or.inr e)
      · exact Or.inr (Or.inr e)
  rcases e with e | ⟨rfl, rfl⟩ | ⟨rfl, rfl⟩
  · rcases g with g | ⟨g1, g2⟩ | ⟨g1, g2⟩
    · exact Or.inl (pp_cn_st g e)
    · exact Or.inr (Or.inl ⟨g1, pp_cn_st g2 e⟩)
    · exact Or.inr (Or.inr ⟨g1, pp_cn_st g2 e⟩)
  · rcases g with g | ⟨g1, g2⟩ | ⟨g1, g2⟩
    · exact Or.inr (Or.inl ⟨g, pp_cn_rf W v⟩)
    · exact Or.inr (Or.inl ⟨g1, pp_cn_rf W v⟩)
    · exact Or.inl g1
  · rcases g with g | ⟨g1, g2⟩ | ⟨g1, g2⟩
    · exact Or.inr (Or.inr ⟨g, pp_cn_rf W v⟩)
    · exact Or.inl g1
    · exact Or.inr (Or.inr ⟨g1, pp_cn_rf W v⟩)
theorem pp_FO_aw {W : pp_W} {a b : Int} (h : pp_FO W) (hn : ¬ pp_cn W a b) : pp_FO (pp_aw W a b) := by
  intro i j e c
  rcases pp_aw_or e with e1 | ⟨rfl, rfl⟩
  · -- an old edge
    by_cases hab : i = a ∧ j = b
    · obtain ⟨rfl, rfl⟩ := hab
      exact hn (pp_cn_st (pp_cn_rf W i) (Or.inl e1))
    · have c2 : pp_cn (pp_aw (pp_rw W i j) a b) i j := pp_cn_mo c (fun u v g => by
        have g1 := pp_rw_le g
        by_cases q : u = i ∧ v = j
        · obtain ⟨rfl, rfl⟩ := q
          rw [pp_rw_no] at g
          cases g
        · rcases pp_aw_or g1 with g1 | g1
          · exact pp_aw_le (pp_rw_ne g1 q)
          · obtain ⟨rfl, rfl⟩ := g1
            unfold pp_aw
            rw [decide_eq_true ⟨rfl, rfl⟩, Bool.or_true])
      have up : ∀ {x y}, pp_cn (pp_rw W i j) x y → pp_cn W x y := fun g => pp_cn_mo g (fun u v => pp_rw_le)
      rcases pp_cn_aw c2 with g | ⟨g1, g2⟩ | ⟨g1, g2⟩
      · exact h i j e1 g
      · -- i to a, b to j
        exact hn (pp_cn_tr (pp_cn_sy (up g1)) (pp_cn_tr (pp_cn_st (pp_cn_rf W i) (Or.inl e1)) (pp_cn_sy (up g2))))
      · exact hn (pp_cn_tr (up g2) (pp_cn_tr (pp_cn_st (pp_cn_rf W j) (Or.inr e1)) (up g1)))
  · refine hn (pp_cn_mo c (fun u v g => ?_))
    rcases pp_aw_or (pp_rw_le g) with g1 | ⟨rfl, rfl⟩
    · exact g1
    · rw [pp_rw_no] at g; cases g
theorem pp_RK_aw {W : pp_W} {a b : Int} (h : pp_RK W) (hn : ¬ pp_cn W a b) : pp_RK (pp_aw W a b) := by
  obtain ⟨rk, hr⟩ := h
  refine ⟨fun v => @ite _ (pp_cn W b v) (Classical.propDecidable _) (rk v + (rk a + 1)) (rk v), fun i j e => ?_⟩
  show @ite _ (pp_cn W b i) (Classical.propDecidable _) (rk i + (rk a + 1)) (rk i) < @ite _ (pp_cn W b j) (Classical.propDecidable _) (rk j + (rk a + 1)) (rk j)
  rcases pp_aw_or e with e | ⟨rfl, rfl⟩
  · have g := hr i j e
    by_cases c : pp_cn W b i
    · rw [if_pos c, if_pos (pp_cn_st c (Or.inl e))]; omega
    · rw [if_neg c, if_neg (fun z => c (pp_cn_st z (Or.inr e)))]; exact g
  · rw [if_neg (fun z => hn (pp_cn_sy z)), if_pos (pp_cn_rf W j)]; omega
/-- less edges -/
theorem pp_FO_le {W V : pp_W} (h : pp_FO W) (g : ∀ u v, V u v = true → W u v = true) : pp_FO V := fun i j e c => h i j (g i j e) (pp_cn_mo c (fun u v q => pp_rw_ne (g u v (pp_rw_le q)) (fun z => by
  obtain ⟨rfl, rfl⟩ := z
  rw [pp_rw_no] at q
  cases q)))
theorem pp_RK_le {W V : pp_W} (h : pp_RK W) (g : ∀ u v, V u v = true → W u v = true) : pp_RK V := by
  obtain ⟨rk, hr⟩ := h
  exact ⟨rk, fun i j e => hr i j (g i j e)⟩
/-- what hangs below x -/
def pp_bw (W : pp_W) (x y : Int) : Prop := ∀ P : Int → Prop, P x → (∀ u v, W u v = true → P u → P v) → P y
theorem pp_bw_rf (W : pp_W) (x : Int) : pp_bw W x x := fun _ h _ => h
theorem pp_bw_st {W : pp_W} {x y z : Int} (h : pp_bw W x y) (e : W y z = true) : pp_bw W x z := fun P h1 h2 => h2 y z e (h P h1 h2)
theorem pp_bw_tr {W : pp_W} {x y z : Int} (h : pp_bw W x y) (g : pp_bw W y z) : pp_bw W x z := fun P h1 h2 => g P (h P h1 h2) h2
theorem pp_bw_rk {W : pp_W} {rk : Int → Nat} (hr : ∀ i j, W i j = true → rk i < rk j) {x y : Int} (h : pp_bw W x y) : x = y ∨ rk x < rk y :=
  h (fun y => x = y ∨ rk x < rk y) (Or.inl rfl) (fun u v e g => Or.inr (by
    have := hr u v e
    rcases g with rfl | g <;> omega))
theorem pp_bw_in {W : pp_W} {x y : Int} (h : pp_bw W x y) : x = y ∨ ∃ k, W x k = true ∧ pp_bw W k y :=
  (h (fun y => pp_bw W x y ∧ (x = y ∨ ∃ k, W x k = true ∧ pp_bw W k y)) ⟨pp_bw_rf W x, Or.inl rfl⟩ (fun u v e g => ⟨pp_bw_st g.1 e, Or.inr (by
    rcases g.2 with rfl | ⟨k, h1, h2⟩
    · exact ⟨v, e, pp_bw_rf W v⟩
    · exact ⟨k, h1, pp_bw_st h2 e⟩)⟩)).2
/-- a way down that does not begin at i uses no edge out of i, if i is ahead -/
theorem pp_bw_cn {W : pp_W} {rk : Int → Nat} (hr : ∀ i j, W i j = true → rk i < rk j) {i j x y : Int} (hx : rk i < rk x) (h : pp_bw W x y) : pp_cn (pp_rw W i j) x y :=
  (h (fun y => rk i < rk y ∧ pp_cn (pp_rw W i j) x y) ⟨hx, pp_cn_rf _ x⟩ (fun u v e g => ⟨by have := hr u v e; omega, pp_cn_st g.2 (Or.inl (pp_rw_ne e (fun z => by
    obtain ⟨rfl, rfl⟩ := z
    omega)))⟩)).2
/-- two customers have nothing below them in common -/
theorem pp_bw_two {W : pp_W} (hF : pp_FO W) (hR : pp_RK W) {s j k y : Int} (h1 : W s j = true) (h2 : W s k = true) (g1 : pp_bw W j y) (g2 : pp_bw W k y) : j = k := by
  obtain ⟨rk, hr⟩ := hR
  by_cases e : j = k
  · exact e
  · exfalso
    refine hF s j h1 ?_
    have a1 : pp_cn (pp_rw W s j) j y := pp_bw_cn hr (hr s j h1) g1
    have a2 : pp_cn (pp_rw W s j) k y := pp_bw_cn hr (hr s k h2) g2
    exact pp_cn_tr (pp_cn_st (pp_cn_rf _ s) (Or.inl (pp_rw_ne h2 (fun z => e z.2.symm)))) (pp_cn_tr a2 (pp_cn_sy a1))
