/-! WHO HANGS TOGETHER -/
abbrev mm_W : Type := Int → Int → Bool
/-- x and y hang together -/
def mm_cn (W : mm_W) (x y : Int) : Prop := ∀ P : Int → Prop, P x → (∀ u v, (W u v = true ∨ W v u = true) → P u → P v) → P y
theorem mm_cn_rf (W : mm_W) (x : Int) : mm_cn W x x := fun _ h _ => h
theorem mm_cn_st {W : mm_W} {x y z : Int} (h : mm_cn W x y) (e : W y z = true ∨ W z y = true) : mm_cn W x z := fun P h1 h2 => h2 y z e (h P h1 h2)
theorem mm_cn_tr {W : mm_W} {x y z : Int} (h : mm_cn W x y) (g : mm_cn W y z) : mm_cn W x z := fun P h1 h2 => g P (h P h1 h2) h2
theorem mm_cn_sy {W : mm_W} {x y : Int} (h : mm_cn W x y) : mm_cn W y x := h (fun v => mm_cn W v x) (mm_cn_rf W x) (fun u v e g => mm_cn_tr (mm_cn_st (mm_cn_rf W v) e.symm) g)
theorem mm_cn_mo {W V : mm_W} {x y : Int} (h : mm_cn W x y) (g : ∀ u v, W u v = true → V u v = true) : mm_cn V x y := h (fun v => mm_cn V x v) (mm_cn_rf V x) (fun u v e i => mm_cn_st i (e.imp (g u v) (g v u)))
/-- an edge less -/
def mm_rw (W : mm_W) (i j : Int) : mm_W := fun u v => W u v && !decide (u = i ∧ v = j)
theorem mm_rw_le {W : mm_W} {i j u v : Int} (h : mm_rw W i j u v = true) : W u v = true := (Bool.and_eq_true_iff.mp h).1
theorem mm_rw_ne {W : mm_W} {i j u v : Int} (h : W u v = true) (e : ¬ (u = i ∧ v = j)) : mm_rw W i j u v = true := by
  unfold mm_rw
  rw [h, decide_eq_false e]; rfl
theorem mm_rw_no {W : mm_W} {i j : Int} : mm_rw W i j i j = false := by
  unfold mm_rw
  rw [decide_eq_true ⟨rfl, rfl⟩, Bool.not_true, Bool.and_false]
/-- without rings: what is joined hangs together by that alone -/
def mm_FO (W : mm_W) : Prop := ∀ i j, W i j = true → ¬ mm_cn (mm_rw W i j) i j
/-- suppliers ahead -/
def mm_RK (W : mm_W) : Prop := ∃ rk : Int → Nat, ∀ i j, W i j = true → rk i < rk j
def mm_IN (n : Int) (W : mm_W) : Prop := ∀ i j, W i j = true → 0 ≤ i ∧ i < n ∧ 0 ≤ j ∧ j < n
/-- an edge more -/
def mm_aw (W : mm_W) (i j : Int) : mm_W := fun u v => W u v || decide (u = i ∧ v = j)
theorem mm_aw_or {W : mm_W} {i j u v : Int} (h : mm_aw W i j u v = true) : W u v = true ∨ (u = i ∧ v = j) := (Bool.or_eq_true_iff.mp h).imp id of_decide_eq_true
theorem mm_aw_le {W : mm_W} {i j u v : Int} (h : W u v = true) : mm_aw W i j u v = true := by unfold mm_aw; rw [h]; rfl
/-- with an edge more whatever hangs together does so already, or by it -/
theorem mm_cn_aw {W : mm_W} {i j x y : Int} (h : mm_cn (mm_aw W i j) x y) : mm_cn W x y ∨ (mm_cn W x i ∧ mm_cn W j y) ∨ (mm_cn W x j ∧ mm_cn W i y) := by
  refine h (fun y => mm_cn W x y ∨ (mm_cn W x i ∧ mm_cn W j y) ∨ (mm_cn W x j ∧ mm_cn W i y)) (Or.inl (mm_cn_rf W x)) ?_
  intro u v e g
  have e : (W u v = true ∨ W v u = true) ∨ (u = i ∧ v = j) ∨ (v = i ∧ u = j) := by
    rcases e with e | e
    · rcases mm_aw_or e with e | e
      · exact Or.inl (Or.inl e)
      · exact Or.inr (Or.inl e)
    · rcases mm_aw_or e with e | e
      · exact Or.inl (Or.inr e)
      · exact Or.inr (Or.inr e)
  rcases e with e | ⟨rfl, rfl⟩ | ⟨rfl, rfl⟩
  · rcases g with g | ⟨g1, g2⟩ | ⟨g1, g2⟩
    · exact Or.inl (mm_cn_st g e)
    · exact Or.inr (Or.inl ⟨g1, mm_cn_st g2 e⟩)
    · exact Or.inr (Or.inr ⟨g1, mm_cn_st g2 e⟩)
  · rcases g with g | ⟨g1, g2⟩ | ⟨g1, g2⟩
    · exact Or.inr (Or.inl ⟨g, mm_cn_rf W v⟩)
    · exact Or.inr (Or.inl ⟨g1, mm_cn_rf W v⟩)
    · exact Or.inl g1
  · rcases g with g | ⟨g1, g2⟩ | ⟨g1, g2⟩
    · exact Or.inr (Or.inr ⟨g, mm_cn_rf W v⟩)
    · exact Or.inl g1
    · exact Or.inr (Or.inr ⟨g1, mm_cn_rf W v⟩)
theorem mm_FO_aw {W : mm_W} {a b : Int} (h : mm_FO W) (hn : ¬ mm_cn W a b) : mm_FO (mm_aw W a b) := by
  intro i j e c
  rcases mm_aw_or e with e | ⟨rfl, rfl⟩
  · -- an old edge
    by_cases hab : i = a ∧ j = b
    · obtain ⟨rfl, rfl⟩ := hab
      exact hn (mm_cn_st (mm_cn_rf W i) (Or.inl e))
    · have c2 : mm_cn (mm_aw (mm_rw W i j) a b) i j := mm_cn_mo c (fun u v g => by
        have g1 := mm_rw_le g
        by_cases q : u = i ∧ v = j
        · obtain ⟨rfl, rfl⟩ := q
          rw [mm_rw_no] at g
          cases g
        · rcases mm_aw_or g1 with g1 | g1
          · exact mm_aw_le (mm_rw_ne g1 q)
          · obtain ⟨rfl, rfl⟩ := g1
            unfold mm_aw
            rw [decide_eq_true ⟨rfl, rfl⟩, Bool.or_true])
      have up : ∀ {x y}, mm_cn (mm_rw W i j) x y → mm_cn W x y := fun g => mm_cn_mo g (fun u v => mm_rw_le)
      rcases mm_cn_aw c2 with g | ⟨g1, g2⟩ | ⟨g1, g2⟩
      · exact h i j e g
      · -- i to a, b to j
        exact hn (mm_cn_tr (mm_cn_sy (up g1)) (mm_cn_tr (mm_cn_st (mm_cn_rf W i) (Or.inl e)) (mm_cn_sy (up g2))))
      · exact hn (mm_cn_tr (up g2) (mm_cn_tr (mm_cn_st (mm_cn_rf W j) (Or.inr e)) (up g1)))
  · refine hn (mm_cn_mo c (fun u v g => ?_))
    rcases mm_aw_or (mm_rw_le g) with g1 | ⟨rfl, rfl⟩
    · exact g1
    · rw [mm_rw_no] at g; cases g
theorem mm_RK_aw {W : mm_W} {a b : Int} (h : mm_RK W) (hn : ¬ mm_cn W a b) : mm_RK (mm_aw W a b) := by
  obtain ⟨rk, hr⟩ := h
  refine ⟨fun v => @ite _ (mm_cn W b v) (Classical.propDecidable _) (rk v + (rk a + 1)) (rk v), fun i j e => ?_⟩
  show @ite _ (mm_cn W b i) (Classical.propDecidable _) (rk i + (rk a + 1)) (rk i) < @ite _ (mm_cn W b j) (Classical.propDecidable _) (rk j + (rk a + 1)) (rk j)
  rcases mm_aw_or e with e | ⟨rfl, rfl⟩
  · have g := hr i j e
    by_cases c : mm_cn W b i
    · rw [if_pos c, if_pos (mm_cn_st c (Or.inl e))]; omega
    · rw [if_neg c, if_neg (fun z => c (mm_cn_st z (Or.inr e)))]; exact g
  · rw [if_neg (fun z => hn (mm_cn_sy z)), if_pos (mm_cn_rf W j)]; omega
/-- less edges -/
theorem mm_FO_le {W V : mm_W} (h : mm_FO W) (g : ∀ u v, V u v = true → W u v = true) : mm_FO V := fun i j e c => h i j (g i j e) (mm_cn_mo c (fun u v q => mm_rw_ne (g u v (mm_rw_le q)) (fun z => by
  obtain ⟨rfl, rfl⟩ := z
  rw [mm_rw_no] at q
  cases q)))
theorem mm_RK_le {W V : mm_W} (h : mm_RK W) (g : ∀ u v, V u v = true → W u v = true) : mm_RK V := by
  obtain ⟨rk, hr⟩ := h
  exact ⟨rk, fun i j e => hr i j (g i j e)⟩
/-- what hangs below x -/
def mm_bw (W : mm_W) (x y : Int) : Prop := ∀ P : Int → Prop, P x → (∀ u v, W u v = true → P u → P v) → P y
theorem mm_bw_rf (W : mm_W) (x : Int) : mm_bw W x x := fun _ h _ => h
theorem mm_bw_st {W : mm_W} {x y z : Int} (h : mm_bw W x y) (e : W y z = true) : mm_bw W x z := fun P h1 h2 => h2 y z e (h P h1 h2)
theorem mm_bw_tr {W : mm_W} {x y z : Int} (h : mm_bw W x y) (g : mm_bw W y z) : mm_bw W x z := fun P h1 h2 => g P (h P h1 h2) h2
theorem mm_bw_rk {W : mm_W} {rk : Int → Nat} (hr : ∀ i j, W i j = true → rk i < rk j) {x y : Int} (h : mm_bw W x y) : x = y ∨ rk x < rk y :=
  h (fun y => x = y ∨ rk x < rk y) (Or.inl rfl) (fun u v e g => Or.inr (by
    have := hr u v e
    rcases g with rfl | g <;> omega))
theorem mm_bw_in {W : mm_W} {x y : Int} (h : mm_bw W x y) : x = y ∨ ∃ k, W x k = true ∧ mm_bw W k y :=
  (h (fun y => mm_bw W x y ∧ (x = y ∨ ∃ k, W x k = true ∧ mm_bw W k y)) ⟨mm_bw_rf W x, Or.inl rfl⟩ (fun u v e g => ⟨mm_bw_st g.1 e, Or.inr (by
    rcases g.2 with rfl | ⟨k, h1, h2⟩
    · exact ⟨v, e, mm_bw_rf W v⟩
    · exact ⟨k, h1, mm_bw_st h2 e⟩)⟩)).2
/-- a way down that does not begin at i uses no edge out of i, if i is ahead -/
theorem mm_bw_cn {W : mm_W} {rk : Int → Nat} (hr : ∀ i j, W i j = true → rk i < rk j) {i j x y : Int} (hx : rk i < rk x) (h : mm_bw W x y) : mm_cn (mm_rw W i j) x y :=
  (h (fun y => rk i < rk y ∧ mm_cn (mm_rw W i j) x y) ⟨hx, mm_cn_rf _ x⟩ (fun u v e g => ⟨by have := hr u v e; omega, mm_cn_st g.2 (Or.inl (mm_rw_ne e (fun z => by
    obtain ⟨rfl, rfl⟩ := z
    omega)))⟩)).2
/-- two customers have nothing below them in common -/
theorem mm_bw_two {W : mm_W} (hF : mm_FO W) (hR : mm_RK W) {s j k y : Int} (h1 : W s j = true) (h2 : W s k = true) (g1 : mm_bw W j y) (g2 : mm_bw W k y) : j = k := by
  obtain ⟨rk, hr⟩ := hR
  by_cases e : j = k
  · exact e
  · exfalso
    refine hF s j h1 ?_
    have a1 : mm_cn (mm_rw W s j) j y := mm_bw_cn hr (hr s j h1) g1
    have a2 : mm_cn (mm_rw W s j) k y := mm_bw_cn hr (hr s k h2) g2
    exact mm_cn_tr (mm_cn_st (mm_cn_rf _ s) (Or.inl (mm_rw_ne h2 (fun z => e z.2.symm)))) (mm_cn_tr a2 (mm_cn_sy a1))
